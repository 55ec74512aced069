set_option maxHeartbeats 4000000 in
set_option maxRecDepth 100000 in
/-- EarlyendsModel.takeNote -/
theorem s_X8_takeNote (l : Launch) (hl : l.stackTraces = false) {kc km : Int} {h : dm_H} (hI : Inv kc km h) {a1 : Int} (h1a : -2147483648 ≤ a1) (h1b : a1 ≤ 2147483647) {a2 : Int} (h2a : -2147483648 ≤ a2) (h2b : a2 ≤ 2147483647) : dm_M l 150 3 0 0 [.ref 26, dI (a1), dI (a2)] h (QS kc km h (RI (fun x => True)) []) := by
  refine dm_M_of dk_150 hl rfl (Nat.le_of_ble_eq_true rfl) ?_
  show dm_W (fun _ _ _ => True) (dm_P (QS kc km h (RI (fun x => True)) []) 0 0) l 150 3 0 0 0 [some (.ref 26), some (dI (a1)), some (dI (a2)), none, none] [] h 0 0
  refine di_aload_n rfl rfl ?_
  refine dr_iload_n rfl rfl ?_
  refine dr_stat rfl rfl rfl rfl (s_X8_isNoBook l hl hI (a0 := a1) (by omega) (by omega)) (by decide) (by decide) (by decide) (Nat.le_of_ble_eq_true rfl) kNP (kIP (fun y1 y1f y1a y1b => ?_))
  have y1g : 0 ≤ y1 ∧ y1 ≤ 1 ∧ (y1 = 0 → 0 ≤ (a1) ∧ (a1) ≤ 2) := y1f
  refine di_const rfl ?_
  obtain ⟨th_2, ni_5, pb_8, lo_11, hi_14, hb_17, ls_20, re_23, he_26, c3, c4, c6, c7, c9, c10, c12, c13, c15, c16, c18, c19, c21, c22, c24, c25, c27, hc28⟩ := I_md hI
  have ho29 : he_26 = -1 ∨ (0 ≤ he_26 ∧ he_26 ≤ 9999 ∧ he_26 % 100 ≤ he_26 / 100) := c27
  obtain ⟨vs30, hc31, ha32⟩ := I_sz hI
  refine dr_virt rfl rfl rfl rfl hc28 (s_X8_start l hl hI (a1 := y1) (by omega) (by omega) (a2 := 1) (by omega) (by omega) (mth := th_2) (mni := ni_5) (mpb := pb_8) (mlo := lo_11) (mhi := hi_14) (mhb := hb_17) (mls := ls_20) (mre := re_23) (mhe := he_26) hc28 (by omega) (by omega) (by omega) (by omega) (by omega) (by omega) (by omega) (by omega) (by omega) (by omega) (by omega) (by omega) (by omega) (by omega) (by omega) (by omega) c27 (us := vs30) hc31 ha32) (by decide) (by decide) (by decide) (Nat.le_of_ble_eq_true rfl) kQMN (kQMI (fun y42 h33 hI34 hE35 fs9 hc37 hM9 us38 hu39 ha40 hU41 y42f y42a y42b => ?_))
  obtain ⟨th_36, th_36a, th_36b, rfl⟩ := hM9
  have hU41 : us38 = vs30 := hU41
  subst hU41
  have hE43 := hE35
  have y42g : 0 ≤ y42 ∧ y42 ≤ 1 ∧ (y42 = 0 → (y1) = 0) := y42f
  refine di_if_ne rfl rfl (by omega) (by omega) (fun c44 => ?_) (fun c44 => ?_)
  · skip
    refine di_const rfl ?_
    exact dr_iret (ty := .int) rfl rfl rfl (by decide) (by decide) ⟨hI34, hE43, 0, trivial, by omega, by omega, rfl⟩
  · skip
    refine di_aload_n rfl rfl ?_
    refine dr_iload_n rfl rfl ?_
    refine dr_stat rfl rfl rfl rfl (s_X8_isNo99 l hl hI34 (a0 := a2) (by omega) (by omega)) (by decide) (by decide) (by decide) (Nat.le_of_ble_eq_true rfl) kNP (kIP (fun y45 y45f y45a y45b => ?_))
    have y45g : 0 ≤ y45 ∧ y45 ≤ 1 ∧ (y45 = 0 → 0 ≤ (a2) ∧ (a2) ≤ 99) := y45f
    refine di_const rfl ?_
    refine dr_virt rfl rfl rfl rfl hc37 (s_X8_refuse l hl hI34 (a1 := y45) (by omega) (by omega) (a2 := 2) (by omega) (by omega) (mth := th_36) (mni := ni_5) (mpb := pb_8) (mlo := lo_11) (mhi := hi_14) (mhb := hb_17) (mls := ls_20) (mre := re_23) (mhe := he_26) hc37 (by omega) (by omega) (by omega) (by omega) (by omega) (by omega) (by omega) (by omega) (by omega) (by omega) (by omega) (by omega) (by omega) (by omega) (by omega) (by omega) c27 (us := us38) hu39 ha40) (by decide) (by decide) (by decide) (Nat.le_of_ble_eq_true rfl) kQMN (kQMI (fun y55 h46 hI47 hE48 fs9 hc50 hM9 us51 hu52 ha53 hU54 y55f y55a y55b => ?_))
    obtain ⟨th_49, th_49a, th_49b, rfl⟩ := hM9
    have hU54 : us51 = us38 := hU54
    subst hU54
    have hE56 := Ext_tr hE43 hE48
    have y55g : 0 ≤ y55 ∧ y55 ≤ 1 ∧ (y55 = 0 → (y45) = 0) := y55f
    refine di_if_eq rfl rfl (by omega) (by omega) (fun c57 => ?_) (fun c57 => ?_)
    · skip
      refine di_const rfl ?_
      refine di_istore_n (ls2 := [some (.ref 26), some (dI (a1)), some (dI (a2)), some (dI (0)), none]) rfl rfl rfl ?_
      have L59 : ∀ (n : Nat) (i58 : Int) (h60 : dm_H), (8 - i58).toNat < n → 0 ≤ i58 → i58 ≤ 8 → Inv kc km h60 → Ext h h60 → dm_W (fun _ _ _ => True) (dm_P (QS kc km h (RI (fun x => True)) []) 0 0) l 150 3 0 0 28 [some (.ref 26), some (dI (a1)), some (dI (a2)), some (dI (i58)), none] [] h60 0 0 := by
        intro n
        induction n with
        | zero => intro i58 h60 hm; exact absurd hm (Nat.not_lt_zero _)
        | succ n ih =>
          intro i58 h60 hm65 hb63 hb64 hI61 hE62
          have ihL59 := ih
          clear ih
          refine dr_iload_n rfl rfl ?_
          refine di_aload_n rfl rfl ?_
          obtain ⟨th_66, ni_69, pb_72, lo_75, hi_78, hb_81, ls_84, re_87, he_90, c67, c68, c70, c71, c73, c74, c76, c77, c79, c80, c82, c83, c85, c86, c88, c89, c91, hc92⟩ := I_md hI61
          have ho93 : he_90 = -1 ∨ (0 ≤ he_90 ∧ he_90 ≤ 9999 ∧ he_90 % 100 ≤ he_90 / 100) := c91
          refine dr_getf rfl hc92 rfl ?_
          refine dr_iload_n rfl rfl ?_
          obtain ⟨vs94, hc95, ha96⟩ := I_sz hI61
          refine di_iald rfl hc95 ha96 (by omega) (by omega) (fun x97 x97f x97a x97b x97v => ?_)
          have x97g : 0 ≤ x97 ∧ x97 ≤ 8 := x97f
          have x97w : cv vs94 (a1) = x97 := cv_eq x97v x97a x97b
          refine di_icmp_ge rfl rfl (by omega) (by omega) (by omega) (by omega) (fun c98 => ?_) (fun c98 => ?_)
          · skip
            refine di_const rfl ?_
            exact dr_iret (ty := .int) rfl rfl rfl (by decide) (by decide) ⟨hI61, hE62, 0, trivial, by omega, by omega, rfl⟩
          · skip
            refine di_aload_n rfl rfl ?_
            refine dr_iload_n rfl rfl ?_
            refine dr_iload_n rfl rfl ?_
            refine dr_virt rfl rfl rfl rfl hc92 (s_X8_codeAt l hl hI61 (a1 := a1) (by omega) (by omega) (a2 := i58) (by omega) (by omega)) (by decide) (by decide) (by decide) (Nat.le_of_ble_eq_true rfl) kNP (kIP (fun y99 y99f y99a y99b => ?_))
            have y99g : -1 ≤ y99 ∧ y99 ≤ 9999 ∧ (y99 = -1 ∨ (0 ≤ y99 ∧ y99 % 100 ≤ y99 / 100)) := y99f
            refine di_istore (ls2 := [some (.ref 26), some (dI (a1)), some (dI (a2)), some (dI (i58)), some (dI (y99))]) rfl rfl rfl ?_
            refine di_aload_n rfl rfl ?_
            refine dr_iload_n rfl rfl ?_
            refine dr_iload rfl rfl ?_
            refine dr_virt rfl rfl rfl rfl hc92 (s_X8_noteAt l hl hI61 (a1 := a1) (by omega) (by omega) (a2 := y99) (by omega) (by omega)) (by decide) (by decide) (by decide) (Nat.le_of_ble_eq_true rfl) kNP (kIP (fun y100 y100f y100a y100b => ?_))
            refine dr_iload_n rfl rfl ?_
            refine di_icmp_eq rfl rfl (by omega) (by omega) (by omega) (by omega) (fun c101 => ?_) (fun c101 => ?_)
            · skip
              refine di_aload_n rfl rfl ?_
              refine dr_iload_n rfl rfl ?_
              refine dr_iload rfl rfl ?_
              refine dr_virt rfl rfl rfl rfl hc92 (s_X8_takeIn l hl hI61 (a1 := a1) (by omega) (by omega) (a2 := y99) (by omega) (by omega) (mth := th_66) (mni := ni_69) (mpb := pb_72) (mlo := lo_75) (mhi := hi_78) (mhb := hb_81) (mls := ls_84) (mre := re_87) (mhe := he_90) hc92 (by omega) (by omega) (by omega) (by omega) (by omega) (by omega) (by omega) (by omega) (by omega) (by omega) (by omega) (by omega) (by omega) (by omega) (by omega) (by omega) c91 (us := vs94) hc95 ha96) (by decide) (by decide) (by decide) (Nat.le_of_ble_eq_true rfl) kQMN (kQMI (fun y111 h102 hI103 hE104 fs9 hc106 hM9 us107 hu108 ha109 hU110 y111f y111a y111b => ?_))
              obtain ⟨ls_105, ls_105a, ls_105b, rfl⟩ := hM9
              have hU110 : True := hU110
              have hE112 := Ext_tr hE62 hE104
              refine dr_pop rfl rfl ?_
              refine di_const rfl ?_
              exact dr_iret (ty := .int) rfl rfl rfl (by decide) (by decide) ⟨hI103, hE112, 1, trivial, by omega, by omega, rfl⟩
            · skip
              refine dr_goto rfl rfl ?_
              refine di_iinc (ls2 := [some (.ref 26), some (dI (a1)), some (dI (a2)), some (dI ((i58 + 1))), some (dI (y99))]) rfl rfl rfl rfl ?_
              refine dr_goto rfl rfl ?_
              refine dm_wk (ls2 := [some (.ref 26), some (dI (a1)), some (dI (a2)), some (dI ((i58 + 1))), none]) ⟨Or.inr rfl, Or.inr rfl, Or.inr rfl, Or.inr rfl, Or.inl rfl, trivial⟩ ?_
              exact ihL59 ((i58 + 1)) h60 (by omega) (by omega) (by omega) hI61 hE62 
      exact L59 _ (0) h46 (Nat.lt_succ_self _) (by omega) (by omega) hI47 hE56 
    · skip
      refine di_const rfl ?_
      exact dr_iret (ty := .int) rfl rfl rfl (by decide) (by decide) ⟨hI47, hE56, 0, trivial, by omega, by omega, rfl⟩
set_option maxHeartbeats 4000000 in
set_option maxRecDepth 100000 in
/-- EarlyendsModel.draw -/
theorem s_X8_draw (l : Launch) (hl : l.stackTraces = false) {kc km : Int} {h : dm_H} (hI : Inv kc km h) {a1 : Int} (h1a : -2147483648 ≤ a1) (h1b : a1 ≤ 2147483647) {a2 : Int} (h2a : 0 ≤ a2) (h2b : a2 ≤ 1) : dm_M l 151 3 0 0 [.ref 26, dI (a1), dI (a2)] h (QS kc km h (RI (fun x => True)) []) := by
  refine dm_M_of dk_151 hl rfl (Nat.le_of_ble_eq_true rfl) ?_
  show dm_W (fun _ _ _ => True) (dm_P (QS kc km h (RI (fun x => True)) []) 0 0) l 151 3 0 0 0 [some (.ref 26), some (dI (a1)), some (dI (a2)), none] [] h 0 0
  refine di_aload_n rfl rfl ?_
  refine dr_iload_n rfl rfl ?_
  refine dr_stat rfl rfl rfl rfl (s_X8_isNoBook l hl hI (a0 := a1) (by omega) (by omega)) (by decide) (by decide) (by decide) (Nat.le_of_ble_eq_true rfl) kNP (kIP (fun y1 y1f y1a y1b => ?_))
  have y1g : 0 ≤ y1 ∧ y1 ≤ 1 ∧ (y1 = 0 → 0 ≤ (a1) ∧ (a1) ≤ 2) := y1f
  refine di_const rfl ?_
  obtain ⟨th_2, ni_5, pb_8, lo_11, hi_14, hb_17, ls_20, re_23, he_26, c3, c4, c6, c7, c9, c10, c12, c13, c15, c16, c18, c19, c21, c22, c24, c25, c27, hc28⟩ := I_md hI
  have ho29 : he_26 = -1 ∨ (0 ≤ he_26 ∧ he_26 ≤ 9999 ∧ he_26 % 100 ≤ he_26 / 100) := c27
  obtain ⟨vs30, hc31, ha32⟩ := I_sz hI
  refine dr_virt rfl rfl rfl rfl hc28 (s_X8_start l hl hI (a1 := y1) (by omega) (by omega) (a2 := 1) (by omega) (by omega) (mth := th_2) (mni := ni_5) (mpb := pb_8) (mlo := lo_11) (mhi := hi_14) (mhb := hb_17) (mls := ls_20) (mre := re_23) (mhe := he_26) hc28 (by omega) (by omega) (by omega) (by omega) (by omega) (by omega) (by omega) (by omega) (by omega) (by omega) (by omega) (by omega) (by omega) (by omega) (by omega) (by omega) c27 (us := vs30) hc31 ha32) (by decide) (by decide) (by decide) (Nat.le_of_ble_eq_true rfl) kQMN (kQMI (fun y42 h33 hI34 hE35 fs9 hc37 hM9 us38 hu39 ha40 hU41 y42f y42a y42b => ?_))
  obtain ⟨th_36, th_36a, th_36b, rfl⟩ := hM9
  have hU41 : us38 = vs30 := hU41
  subst hU41
  have hE43 := hE35
  have y42g : 0 ≤ y42 ∧ y42 ≤ 1 ∧ (y42 = 0 → (y1) = 0) := y42f
  refine di_if_eq rfl rfl (by omega) (by omega) (fun c44 => ?_) (fun c44 => ?_)
  · skip
    refine di_aload_n rfl rfl ?_
    refine dr_iload_n rfl rfl ?_
    refine dr_iload_n rfl rfl ?_
    refine di_if_eq rfl rfl (by omega) (by omega) (fun c45 => ?_) (fun c45 => ?_)
    · skip
      refine di_const rfl ?_
      refine dr_virt rfl rfl rfl rfl hc37 (s_X8_codeAt l hl hI34 (a1 := a1) (by omega) (by omega) (a2 := 0) (by omega) (by omega)) (by decide) (by decide) (by decide) (Nat.le_of_ble_eq_true rfl) kNP (kIP (fun y46 y46f y46a y46b => ?_))
      have y46g : -1 ≤ y46 ∧ y46 ≤ 9999 ∧ (y46 = -1 ∨ (0 ≤ y46 ∧ y46 % 100 ≤ y46 / 100)) := y46f
      refine di_istore_n (ls2 := [some (.ref 26), some (dI (a1)), some (dI (a2)), some (dI (y46))]) rfl rfl rfl ?_
      refine di_aload_n rfl rfl ?_
      refine dr_iload_n rfl rfl ?_
      refine dr_iload_n rfl rfl ?_
      refine dr_virt rfl rfl rfl rfl hc37 (s_X8_takeIn l hl hI34 (a1 := a1) (by omega) (by omega) (a2 := y46) (by omega) (by omega) (mth := th_36) (mni := ni_5) (mpb := pb_8) (mlo := lo_11) (mhi := hi_14) (mhb := hb_17) (mls := ls_20) (mre := re_23) (mhe := he_26) hc37 (by omega) (by omega) (by omega) (by omega) (by omega) (by omega) (by omega) (by omega) (by omega) (by omega) (by omega) (by omega) (by omega) (by omega) (by omega) (by omega) c27 (us := us38) hu39 ha40) (by decide) (by decide) (by decide) (Nat.le_of_ble_eq_true rfl) kQMN (kQMI (fun y56 h47 hI48 hE49 fs9 hc51 hM9 us52 hu53 ha54 hU55 y56f y56a y56b => ?_))
      obtain ⟨ls_50, ls_50a, ls_50b, rfl⟩ := hM9
      have hU55 : True := hU55
      have hE57 := Ext_tr hE43 hE49
      refine dr_pop rfl rfl ?_
      refine dr_iload_n rfl rfl ?_
      exact dr_iret (ty := .int) rfl rfl rfl (by decide) (by decide) ⟨hI48, hE57, y46, trivial, by omega, by omega, rfl⟩
    · skip
      refine di_aload_n rfl rfl ?_
      refine dr_getf rfl hc37 rfl ?_
      refine dr_iload_n rfl rfl ?_
      refine di_iald rfl hu39 ha40 (by omega) (by omega) (fun x58 x58f x58a x58b x58v => ?_)
      have x58g : 0 ≤ x58 ∧ x58 ≤ 8 := x58f
      have x58w : cv us38 (a1) = x58 := cv_eq x58v x58a x58b
      refine di_const rfl ?_
      refine di_isub rfl ?_
      refine dr_goto rfl rfl ?_
      refine dr_virt rfl rfl rfl rfl hc37 (s_X8_codeAt l hl hI34 (a1 := a1) (by omega) (by omega) (a2 := (x58 - 1)) (by omega) (by omega)) (by decide) (by decide) (by decide) (Nat.le_of_ble_eq_true rfl) kNP (kIP (fun y59 y59f y59a y59b => ?_))
      have y59g : -1 ≤ y59 ∧ y59 ≤ 9999 ∧ (y59 = -1 ∨ (0 ≤ y59 ∧ y59 % 100 ≤ y59 / 100)) := y59f
      refine di_istore_n (ls2 := [some (.ref 26), some (dI (a1)), some (dI (a2)), some (dI (y59))]) rfl rfl rfl ?_
      refine di_aload_n rfl rfl ?_
      refine dr_iload_n rfl rfl ?_
      refine dr_iload_n rfl rfl ?_
      refine dr_virt rfl rfl rfl rfl hc37 (s_X8_takeIn l hl hI34 (a1 := a1) (by omega) (by omega) (a2 := y59) (by omega) (by omega) (mth := th_36) (mni := ni_5) (mpb := pb_8) (mlo := lo_11) (mhi := hi_14) (mhb := hb_17) (mls := ls_20) (mre := re_23) (mhe := he_26) hc37 (by omega) (by omega) (by omega) (by omega) (by omega) (by omega) (by omega) (by omega) (by omega) (by omega) (by omega) (by omega) (by omega) (by omega) (by omega) (by omega) c27 (us := us38) hu39 ha40) (by decide) (by decide) (by decide) (Nat.le_of_ble_eq_true rfl) kQMN (kQMI (fun y69 h60 hI61 hE62 fs9 hc64 hM9 us65 hu66 ha67 hU68 y69f y69a y69b => ?_))
      obtain ⟨ls_63, ls_63a, ls_63b, rfl⟩ := hM9
      have hU68 : True := hU68
      have hE70 := Ext_tr hE43 hE62
      refine dr_pop rfl rfl ?_
      refine dr_iload_n rfl rfl ?_
      exact dr_iret (ty := .int) rfl rfl rfl (by decide) (by decide) ⟨hI61, hE70, y59, trivial, by omega, by omega, rfl⟩
  · skip
    refine di_const rfl ?_
    exact dr_iret (ty := .int) rfl rfl rfl (by decide) (by decide) ⟨hI34, hE43, 0, trivial, by omega, by omega, rfl⟩
set_option maxHeartbeats 4000000 in
set_option maxRecDepth 100000 in
/-- EarlyendsModel.clear -/
theorem s_X8_clear (l : Launch) (hl : l.stackTraces = false) {kc km : Int} {h : dm_H} (hI : Inv kc km h) {a1 : Int} (h1a : -2147483648 ≤ a1) (h1b : a1 ≤ 2147483647) : dm_M l 152 2 0 0 [.ref 26, dI (a1)] h (QS kc km h (RI (fun x => True)) []) := by
  refine dm_M_of dk_152 hl rfl (Nat.le_of_ble_eq_true rfl) ?_
  show dm_W (fun _ _ _ => True) (dm_P (QS kc km h (RI (fun x => True)) []) 0 0) l 152 2 0 0 0 [some (.ref 26), some (dI (a1)), none] [] h 0 0
  refine di_aload_n rfl rfl ?_
  refine dr_iload_n rfl rfl ?_
  refine dr_stat rfl rfl rfl rfl (s_X8_isNoBook l hl hI (a0 := a1) (by omega) (by omega)) (by decide) (by decide) (by decide) (Nat.le_of_ble_eq_true rfl) kNP (kIP (fun y1 y1f y1a y1b => ?_))
  have y1g : 0 ≤ y1 ∧ y1 ≤ 1 ∧ (y1 = 0 → 0 ≤ (a1) ∧ (a1) ≤ 2) := y1f
  refine di_const rfl ?_
  obtain ⟨th_2, ni_5, pb_8, lo_11, hi_14, hb_17, ls_20, re_23, he_26, c3, c4, c6, c7, c9, c10, c12, c13, c15, c16, c18, c19, c21, c22, c24, c25, c27, hc28⟩ := I_md hI
  have ho29 : he_26 = -1 ∨ (0 ≤ he_26 ∧ he_26 ≤ 9999 ∧ he_26 % 100 ≤ he_26 / 100) := c27
  obtain ⟨vs30, hc31, ha32⟩ := I_sz hI
  refine dr_virt rfl rfl rfl rfl hc28 (s_X8_start l hl hI (a1 := y1) (by omega) (by omega) (a2 := 1) (by omega) (by omega) (mth := th_2) (mni := ni_5) (mpb := pb_8) (mlo := lo_11) (mhi := hi_14) (mhb := hb_17) (mls := ls_20) (mre := re_23) (mhe := he_26) hc28 (by omega) (by omega) (by omega) (by omega) (by omega) (by omega) (by omega) (by omega) (by omega) (by omega) (by omega) (by omega) (by omega) (by omega) (by omega) (by omega) c27 (us := vs30) hc31 ha32) (by decide) (by decide) (by decide) (Nat.le_of_ble_eq_true rfl) kQMN (kQMI (fun y42 h33 hI34 hE35 fs9 hc37 hM9 us38 hu39 ha40 hU41 y42f y42a y42b => ?_))
  obtain ⟨th_36, th_36a, th_36b, rfl⟩ := hM9
  have hU41 : us38 = vs30 := hU41
  subst hU41
  have hE43 := hE35
  have y42g : 0 ≤ y42 ∧ y42 ≤ 1 ∧ (y42 = 0 → (y1) = 0) := y42f
  refine di_if_eq rfl rfl (by omega) (by omega) (fun c44 => ?_) (fun c44 => ?_)
  · skip
    refine di_aload_n rfl rfl ?_
    refine dr_getf rfl hc37 rfl ?_
    refine dr_iload_n rfl rfl ?_
    refine di_iald rfl hu39 ha40 (by omega) (by omega) (fun x45 x45f x45a x45b x45v => ?_)
    have x45g : 0 ≤ x45 ∧ x45 ≤ 8 := x45f
    have x45w : cv us38 (a1) = x45 := cv_eq x45v x45a x45b
    refine di_istore_n (ls2 := [some (.ref 26), some (dI (a1)), some (dI (x45))]) rfl rfl rfl ?_
    have L46 : ∀ (n : Nat) (h47 : dm_H) (uv50 : List Value), (cv uv50 a1).toNat < n → Inv kc km h47 → Ext h h47 → h47[35]? = some (20, uv50) → arr 3 okS uv50 → dm_W (fun _ _ _ => True) (dm_P (QS kc km h (RI (fun x => True)) []) 0 0) l 152 2 0 0 21 [some (.ref 26), some (dI (a1)), some (dI (x45))] [] h47 0 0 := by
      intro n
      induction n with
      | zero => intro h47 uv50 hm; exact absurd hm (Nat.not_lt_zero _)
      | succ n ih =>
        intro h47 uv50 hm53 hI48 hE49 hc51 ha52
        have ihL46 := ih
        clear ih
        refine di_aload_n rfl rfl ?_
        obtain ⟨th_54, ni_57, pb_60, lo_63, hi_66, hb_69, ls_72, re_75, he_78, c55, c56, c58, c59, c61, c62, c64, c65, c67, c68, c70, c71, c73, c74, c76, c77, c79, hc80⟩ := I_md hI48
        have ho81 : he_78 = -1 ∨ (0 ≤ he_78 ∧ he_78 ≤ 9999 ∧ he_78 % 100 ≤ he_78 / 100) := c79
        refine dr_getf rfl hc80 rfl ?_
        refine dr_iload_n rfl rfl ?_
        refine di_iald rfl hc51 ha52 (by omega) (by omega) (fun x82 x82f x82a x82b x82v => ?_)
        have x82g : 0 ≤ x82 ∧ x82 ≤ 8 := x82f
        have x82w : cv uv50 (a1) = x82 := cv_eq x82v x82a x82b
        refine di_if_le rfl rfl (by omega) (by omega) (fun c83 => ?_) (fun c83 => ?_)
        · skip
          refine dr_iload_n rfl rfl ?_
          exact dr_iret (ty := .int) rfl rfl rfl (by decide) (by decide) ⟨hI48, hE49, x45, trivial, by omega, by omega, rfl⟩
        · skip
          refine di_aload_n rfl rfl ?_
          refine dr_iload_n rfl rfl ?_
          refine di_const rfl ?_
          refine dr_virt rfl rfl rfl rfl hc80 (s_X8_go l hl hI48 (a1 := a1) (by omega) (by omega) (a2 := 0) (by omega) (by omega) (mth := th_54) (mni := ni_57) (mpb := pb_60) (mlo := lo_63) (mhi := hi_66) (mhb := hb_69) (mls := ls_72) (mre := re_75) (mhe := he_78) hc80 (by omega) (by omega) (by omega) (by omega) (by omega) (by omega) (by omega) (by omega) (by omega) (by omega) (by omega) (by omega) (by omega) (by omega) (by omega) (by omega) c79 (us := uv50) hc51 ha52 (by omega)) (by decide) (by decide) (by decide) (Nat.le_of_ble_eq_true rfl) kQMN (kQMV (fun h84 hI85 hE86 fs9 hc88 hM9 us89 hu90 ha91 hU92 => ?_))
          obtain ⟨ls_87, ls_87a, ls_87b, rfl⟩ := hM9
          have hU92 : cv us89 (a1) = cv uv50 (a1) - 1 := hU92
          have hE94 := Ext_tr hE49 hE86
          refine dr_goto rfl rfl ?_
          exact ihL46  h84 (us89) (by omega) hI85 hE94  hu90 ha91
    exact L46 _  h33 (us38) (Nat.lt_succ_self _) hI34 hE43  hu39 ha40
  · skip
    refine di_const rfl ?_
    exact dr_iret (ty := .int) rfl rfl rfl (by decide) (by decide) ⟨hI34, hE43, 0, trivial, by omega, by omega, rfl⟩
set_option maxHeartbeats 4000000 in
set_option maxRecDepth 100000 in
/-- EarlyendsModel.pour -/
theorem s_X8_pour (l : Launch) (hl : l.stackTraces = false) {kc km : Int} {h : dm_H} (hI : Inv kc km h) {a1 : Int} (h1a : -2147483648 ≤ a1) (h1b : a1 ≤ 2147483647) {a2 : Int} (h2a : -2147483648 ≤ a2) (h2b : a2 ≤ 2147483647) : dm_M l 153 3 0 0 [.ref 26, dI (a1), dI (a2)] h (QS kc km h (RI (fun x => True)) []) := by
  refine dm_M_of dk_153 hl rfl (Nat.le_of_ble_eq_true rfl) ?_
  show dm_W (fun _ _ _ => True) (dm_P (QS kc km h (RI (fun x => True)) []) 0 0) l 153 3 0 0 0 [some (.ref 26), some (dI (a1)), some (dI (a2)), none, none] [] h 0 0
  refine di_aload_n rfl rfl ?_
  refine dr_iload_n rfl rfl ?_
  refine dr_stat rfl rfl rfl rfl (s_X8_isNoBook l hl hI (a0 := a1) (by omega) (by omega)) (by decide) (by decide) (by decide) (Nat.le_of_ble_eq_true rfl) kNP (kIP (fun y1 y1f y1a y1b => ?_))
  have y1g : 0 ≤ y1 ∧ y1 ≤ 1 ∧ (y1 = 0 → 0 ≤ (a1) ∧ (a1) ≤ 2) := y1f
  refine di_if_ne rfl rfl (by omega) (by omega) (fun c2 => ?_) (fun c2 => ?_)
  · skip
    refine di_const rfl ?_
    refine dr_goto rfl rfl ?_
    refine di_const rfl ?_
    obtain ⟨th_3, ni_6, pb_9, lo_12, hi_15, hb_18, ls_21, re_24, he_27, c4, c5, c7, c8, c10, c11, c13, c14, c16, c17, c19, c20, c22, c23, c25, c26, c28, hc29⟩ := I_md hI
    have ho30 : he_27 = -1 ∨ (0 ≤ he_27 ∧ he_27 ≤ 9999 ∧ he_27 % 100 ≤ he_27 / 100) := c28
    obtain ⟨vs31, hc32, ha33⟩ := I_sz hI
    refine dr_virt rfl rfl rfl rfl hc29 (s_X8_start l hl hI (a1 := 1) (by omega) (by omega) (a2 := 1) (by omega) (by omega) (mth := th_3) (mni := ni_6) (mpb := pb_9) (mlo := lo_12) (mhi := hi_15) (mhb := hb_18) (mls := ls_21) (mre := re_24) (mhe := he_27) hc29 (by omega) (by omega) (by omega) (by omega) (by omega) (by omega) (by omega) (by omega) (by omega) (by omega) (by omega) (by omega) (by omega) (by omega) (by omega) (by omega) c28 (us := vs31) hc32 ha33) (by decide) (by decide) (by decide) (Nat.le_of_ble_eq_true rfl) kQMN (kQMI (fun y43 h34 hI35 hE36 fs9 hc38 hM9 us39 hu40 ha41 hU42 y43f y43a y43b => ?_))
    obtain ⟨th_37, th_37a, th_37b, rfl⟩ := hM9
    have hU42 : us39 = vs31 := hU42
    subst hU42
    have hE44 := hE36
    have y43g : 0 ≤ y43 ∧ y43 ≤ 1 ∧ (y43 = 0 → ((1) : Int) = 0) := y43f
    refine di_if_eq rfl rfl (by omega) (by omega) (fun c45 => ?_) (fun c45 => ?_)
    · skip
      refine di_const rfl ?_
      refine di_istore_n (ls2 := [some (.ref 26), some (dI (a1)), some (dI (a2)), some (dI (0)), none]) rfl rfl rfl ?_
      refine di_const rfl ?_
      refine di_istore (ls2 := [some (.ref 26), some (dI (a1)), some (dI (a2)), some (dI (0)), some (dI (0))]) rfl rfl rfl ?_
      have L48 : ∀ (n : Nat) (i46 : Int) (i47 : Int), (8 - i47).toNat < n → 0 ≤ i46 → i46 ≤ 8 → 0 ≤ i47 → i47 ≤ 8 → i46 ≤ i47 → dm_W (fun _ _ _ => True) (dm_P (QS kc km h (RI (fun x => True)) []) 0 0) l 153 3 0 0 34 [some (.ref 26), some (dI (a1)), some (dI (a2)), some (dI (i46)), some (dI (i47))] [] h34 0 0 := by
        intro n
        induction n with
        | zero => intro i46 i47 hm; exact absurd hm (Nat.not_lt_zero _)
        | succ n ih =>
          intro i46 i47 hm54 hb49 hb50 hb51 hb52 hx53
          have ihL48 := ih
          clear ih
          refine dr_iload rfl rfl ?_
          refine di_aload_n rfl rfl ?_
          refine dr_getf rfl hc38 rfl ?_
          refine dr_iload_n rfl rfl ?_
          refine di_iald rfl hu40 ha41 (by omega) (by omega) (fun x55 x55f x55a x55b x55v => ?_)
          have x55g : 0 ≤ x55 ∧ x55 ≤ 8 := x55f
          have x55w : cv us39 (a2) = x55 := cv_eq x55v x55a x55b
          refine di_icmp_ge rfl rfl (by omega) (by omega) (by omega) (by omega) (fun c56 => ?_) (fun c56 => ?_)
          · skip
            refine di_aload_n rfl rfl ?_
            refine dr_getf rfl hc38 rfl ?_
            refine dr_iload_n rfl rfl ?_
            refine di_iald rfl hu40 ha41 (by omega) (by omega) (fun x57 x57f x57a x57b x57v => ?_)
            have x57g : 0 ≤ x57 ∧ x57 ≤ 8 := x57f
            have x57w : cv us39 (a1) = x57 := cv_eq x57v x57a x57b
            refine dr_iload_n rfl rfl ?_
            refine di_iadd rfl ?_
            refine di_bipush rfl (by decide) ?_
            refine di_icmp_le rfl rfl (by omega) (by omega) (by omega) (by omega) (fun c58 => ?_) (fun c58 => ?_)
            · skip
              refine di_const rfl ?_
              refine di_istore (ls2 := [some (.ref 26), some (dI (a1)), some (dI (a2)), some (dI (i46)), some (dI (0))]) rfl rfl rfl ?_
              have L60 : ∀ (n : Nat) (i59 : Int) (h61 : dm_H), (8 - i59).toNat < n → 0 ≤ i59 → i59 ≤ 8 → Inv kc km h61 → Ext h h61 → dm_W (fun _ _ _ => True) (dm_P (QS kc km h (RI (fun x => True)) []) 0 0) l 153 3 0 0 92 [some (.ref 26), some (dI (a1)), some (dI (a2)), some (dI (i46)), some (dI (i59))] [] h61 0 0 := by
                intro n
                induction n with
                | zero => intro i59 h61 hm; exact absurd hm (Nat.not_lt_zero _)
                | succ n ih =>
                  intro i59 h61 hm66 hb64 hb65 hI62 hE63
                  have ihL60 := ih
                  clear ih
                  refine dr_iload rfl rfl ?_
                  refine di_aload_n rfl rfl ?_
                  obtain ⟨th_67, ni_70, pb_73, lo_76, hi_79, hb_82, ls_85, re_88, he_91, c68, c69, c71, c72, c74, c75, c77, c78, c80, c81, c83, c84, c86, c87, c89, c90, c92, hc93⟩ := I_md hI62
                  have ho94 : he_91 = -1 ∨ (0 ≤ he_91 ∧ he_91 ≤ 9999 ∧ he_91 % 100 ≤ he_91 / 100) := c92
                  refine dr_getf rfl hc93 rfl ?_
                  refine dr_iload_n rfl rfl ?_
                  obtain ⟨vs95, hc96, ha97⟩ := I_sz hI62
                  refine di_iald rfl hc96 ha97 (by omega) (by omega) (fun x98 x98f x98a x98b x98v => ?_)
                  have x98g : 0 ≤ x98 ∧ x98 ≤ 8 := x98f
                  have x98w : cv vs95 (a2) = x98 := cv_eq x98v x98a x98b
                  refine di_icmp_ge rfl rfl (by omega) (by omega) (by omega) (by omega) (fun c99 => ?_) (fun c99 => ?_)
                  · skip
                    refine dr_iload_n rfl rfl ?_
                    exact dr_iret (ty := .int) rfl rfl rfl (by decide) (by decide) ⟨hI62, hE63, i46, trivial, by omega, by omega, rfl⟩
                  · skip
                    refine di_aload_n rfl rfl ?_
                    refine dr_iload_n rfl rfl ?_
                    refine di_aload_n rfl rfl ?_
                    refine dr_getf rfl hc93 rfl ?_
                    refine dr_iload_n rfl rfl ?_
                    have hc100 := I_mcs hI62
                    refine paaD (k0 := 28) rfl hc100 (by omega) (by omega) (fun r102 hr102 => ?_)
                    have mr102 : isCR r102 := isCR_of hr102 (by omega) (by omega)
                    refine dr_iload rfl rfl ?_
                    obtain ⟨vs103, hc104, ha105⟩ := I_cr hI62 (p := r102) mr102
                    refine di_iald rfl hc104 ha105 (by omega) (by omega) (fun x106 x106f x106a x106b x106v => ?_)
                    have x106w : cv vs103 (i59) = x106 := cv_eq x106v x106a x106b
                    have x106g : 0 ≤ x106 ∧ x106 ≤ 9999 ∧ x106 % 100 ≤ x106 / 100 := x106f
                    refine di_aload_n rfl rfl ?_
                    refine dr_getf rfl hc93 rfl ?_
                    refine dr_iload_n rfl rfl ?_
                    have hc107 := I_mns hI62
                    refine paaD (k0 := 32) rfl hc107 (by omega) (by omega) (fun r109 hr109 => ?_)
                    have mr109 : isNR r109 := isNR_of hr109 (by omega) (by omega)
                    refine dr_iload rfl rfl ?_
                    obtain ⟨vs110, hc111, ha112⟩ := I_nr hI62 (p := r109) mr109
                    refine di_iald rfl hc111 ha112 (by omega) (by omega) (fun x113 x113f x113a x113b x113v => ?_)
                    have x113w : cv vs110 (i59) = x113 := cv_eq x113v x113a x113b
                    refine dr_virt rfl rfl rfl rfl hc93 (s_X8_putIn l hl hI62 (a1 := a1) (by omega) (by omega) (a2 := x106) (by omega) (by omega) (a3 := x113) (by omega) (by omega) (by omega)) (by decide) (by decide) (by decide) (Nat.le_of_ble_eq_true rfl) kNS (kIS (fun y117 h114 hI115 hE116 y117f y117a y117b => ?_))
                    have hE118 := Ext_tr hE63 hE116
                    refine dr_pop rfl rfl ?_
                    refine di_iinc (ls2 := [some (.ref 26), some (dI (a1)), some (dI (a2)), some (dI (i46)), some (dI ((i59 + 1)))]) rfl rfl rfl rfl ?_
                    refine dr_goto rfl rfl ?_
                    exact ihL60 ((i59 + 1)) h114 (by omega) (by omega) (by omega) hI115 hE118 
              exact L60 _ (0) h34 (Nat.lt_succ_self _) (by omega) (by omega) hI35 hE44 
            · skip
              refine di_aload_n rfl rfl ?_
              refine dr_virt rfl rfl rfl rfl hc38 (s_X8_nine l hl hI35 ) (by decide) (by decide) (by decide) (Nat.le_of_ble_eq_true rfl) kNS (kIS (fun y122 h119 hI120 hE121 y122f y122a y122b => ?_))
              have hE123 := Ext_tr hE44 hE121
              exact dr_iret (ty := .int) rfl rfl rfl (by decide) (by decide) ⟨hI120, hE123, y122, trivial, by omega, by omega, rfl⟩
          · skip
            refine di_aload_n rfl rfl ?_
            refine dr_iload_n rfl rfl ?_
            refine di_aload_n rfl rfl ?_
            refine dr_getf rfl hc38 rfl ?_
            refine dr_iload_n rfl rfl ?_
            have hc124 := I_mcs hI35
            refine paaD (k0 := 28) rfl hc124 (by omega) (by omega) (fun r126 hr126 => ?_)
            have mr126 : isCR r126 := isCR_of hr126 (by omega) (by omega)
            refine dr_iload rfl rfl ?_
            obtain ⟨vs127, hc128, ha129⟩ := I_cr hI35 (p := r126) mr126
            refine di_iald rfl hc128 ha129 (by omega) (by omega) (fun x130 x130f x130a x130b x130v => ?_)
            have x130w : cv vs127 (i47) = x130 := cv_eq x130v x130a x130b
            have x130g : 0 ≤ x130 ∧ x130 ≤ 9999 ∧ x130 % 100 ≤ x130 / 100 := x130f
            refine dr_virt rfl rfl rfl rfl hc38 (s_X8_at l hl hI35 (a1 := a1) (by omega) (by omega) (a2 := x130) (by omega) (by omega) (us := us39) hu40 ha41) (by decide) (by decide) (by decide) (Nat.le_of_ble_eq_true rfl) kNP (kIP (fun y131 y131f y131a y131b => ?_))
            have y131g : -1 ≤ y131 ∧ y131 ≤ 7 ∧ y131 < cv us39 (a1) := y131f
            refine di_if_ge rfl rfl (by omega) (by omega) (fun c132 => ?_) (fun c132 => ?_)
            · skip
              refine di_iinc (ls2 := [some (.ref 26), some (dI (a1)), some (dI (a2)), some (dI (i46)), some (dI ((i47 + 1)))]) rfl rfl rfl rfl ?_
              refine dr_goto rfl rfl ?_
              exact ihL48 (i46) ((i47 + 1)) (by omega) (by omega) (by omega) (by omega) (by omega) (by omega) 
            · skip
              refine di_iinc (ls2 := [some (.ref 26), some (dI (a1)), some (dI (a2)), some (dI ((i46 + 1))), some (dI (i47))]) rfl rfl rfl rfl ?_
              refine di_iinc (ls2 := [some (.ref 26), some (dI (a1)), some (dI (a2)), some (dI ((i46 + 1))), some (dI ((i47 + 1)))]) rfl rfl rfl rfl ?_
              refine dr_goto rfl rfl ?_
              exact ihL48 ((i46 + 1)) ((i47 + 1)) (by omega) (by omega) (by omega) (by omega) (by omega) (by omega) 
      exact L48 _ (0) (0) (Nat.lt_succ_self _) (by omega) (by omega) (by omega) (by omega) (by omega) 
    · skip
      refine di_const rfl ?_
      exact dr_iret (ty := .int) rfl rfl rfl (by decide) (by decide) ⟨hI35, hE44, 0, trivial, by omega, by omega, rfl⟩
  · skip
    refine dr_iload_n rfl rfl ?_
    refine dr_stat rfl rfl rfl rfl (s_X8_isNoBook l hl hI (a0 := a2) (by omega) (by omega)) (by decide) (by decide) (by decide) (Nat.le_of_ble_eq_true rfl) kNP (kIP (fun y133 y133f y133a y133b => ?_))
    have y133g : 0 ≤ y133 ∧ y133 ≤ 1 ∧ (y133 = 0 → 0 ≤ (a2) ∧ (a2) ≤ 2) := y133f
    refine di_if_eq rfl rfl (by omega) (by omega) (fun c134 => ?_) (fun c134 => ?_)
    · skip
      refine di_const rfl ?_
      refine di_const rfl ?_
      obtain ⟨th_135, ni_138, pb_141, lo_144, hi_147, hb_150, ls_153, re_156, he_159, c136, c137, c139, c140, c142, c143, c145, c146, c148, c149, c151, c152, c154, c155, c157, c158, c160, hc161⟩ := I_md hI
      have ho162 : he_159 = -1 ∨ (0 ≤ he_159 ∧ he_159 ≤ 9999 ∧ he_159 % 100 ≤ he_159 / 100) := c160
      obtain ⟨vs163, hc164, ha165⟩ := I_sz hI
      refine dr_virt rfl rfl rfl rfl hc161 (s_X8_start l hl hI (a1 := 0) (by omega) (by omega) (a2 := 1) (by omega) (by omega) (mth := th_135) (mni := ni_138) (mpb := pb_141) (mlo := lo_144) (mhi := hi_147) (mhb := hb_150) (mls := ls_153) (mre := re_156) (mhe := he_159) hc161 (by omega) (by omega) (by omega) (by omega) (by omega) (by omega) (by omega) (by omega) (by omega) (by omega) (by omega) (by omega) (by omega) (by omega) (by omega) (by omega) c160 (us := vs163) hc164 ha165) (by decide) (by decide) (by decide) (Nat.le_of_ble_eq_true rfl) kQMN (kQMI (fun y175 h166 hI167 hE168 fs9 hc170 hM9 us171 hu172 ha173 hU174 y175f y175a y175b => ?_))
      obtain ⟨th_169, th_169a, th_169b, rfl⟩ := hM9
      have hU174 : us171 = vs163 := hU174
      subst hU174
      have hE176 := hE168
      have y175g : 0 ≤ y175 ∧ y175 ≤ 1 ∧ (y175 = 0 → ((0) : Int) = 0) := y175f
      refine di_if_eq rfl rfl (by omega) (by omega) (fun c177 => ?_) (fun c177 => ?_)
      · skip
        refine di_const rfl ?_
        refine di_istore_n (ls2 := [some (.ref 26), some (dI (a1)), some (dI (a2)), some (dI (0)), none]) rfl rfl rfl ?_
        refine di_const rfl ?_
        refine di_istore (ls2 := [some (.ref 26), some (dI (a1)), some (dI (a2)), some (dI (0)), some (dI (0))]) rfl rfl rfl ?_
        have L180 : ∀ (n : Nat) (i178 : Int) (i179 : Int), (8 - i179).toNat < n → 0 ≤ i178 → i178 ≤ 8 → 0 ≤ i179 → i179 ≤ 8 → i178 ≤ i179 → dm_W (fun _ _ _ => True) (dm_P (QS kc km h (RI (fun x => True)) []) 0 0) l 153 3 0 0 34 [some (.ref 26), some (dI (a1)), some (dI (a2)), some (dI (i178)), some (dI (i179))] [] h166 0 0 := by
          intro n
          induction n with
          | zero => intro i178 i179 hm; exact absurd hm (Nat.not_lt_zero _)
          | succ n ih =>
            intro i178 i179 hm186 hb181 hb182 hb183 hb184 hx185
            have ihL180 := ih
            clear ih
            refine dr_iload rfl rfl ?_
            refine di_aload_n rfl rfl ?_
            refine dr_getf rfl hc170 rfl ?_
            refine dr_iload_n rfl rfl ?_
            refine di_iald rfl hu172 ha173 (by omega) (by omega) (fun x187 x187f x187a x187b x187v => ?_)
            have x187g : 0 ≤ x187 ∧ x187 ≤ 8 := x187f
            have x187w : cv us171 (a2) = x187 := cv_eq x187v x187a x187b
            refine di_icmp_ge rfl rfl (by omega) (by omega) (by omega) (by omega) (fun c188 => ?_) (fun c188 => ?_)
            · skip
              refine di_aload_n rfl rfl ?_
              refine dr_getf rfl hc170 rfl ?_
              refine dr_iload_n rfl rfl ?_
              refine di_iald rfl hu172 ha173 (by omega) (by omega) (fun x189 x189f x189a x189b x189v => ?_)
              have x189g : 0 ≤ x189 ∧ x189 ≤ 8 := x189f
              have x189w : cv us171 (a1) = x189 := cv_eq x189v x189a x189b
              refine dr_iload_n rfl rfl ?_
              refine di_iadd rfl ?_
              refine di_bipush rfl (by decide) ?_
              refine di_icmp_le rfl rfl (by omega) (by omega) (by omega) (by omega) (fun c190 => ?_) (fun c190 => ?_)
              · skip
                refine di_const rfl ?_
                refine di_istore (ls2 := [some (.ref 26), some (dI (a1)), some (dI (a2)), some (dI (i178)), some (dI (0))]) rfl rfl rfl ?_
                have L192 : ∀ (n : Nat) (i191 : Int) (h193 : dm_H), (8 - i191).toNat < n → 0 ≤ i191 → i191 ≤ 8 → Inv kc km h193 → Ext h h193 → dm_W (fun _ _ _ => True) (dm_P (QS kc km h (RI (fun x => True)) []) 0 0) l 153 3 0 0 92 [some (.ref 26), some (dI (a1)), some (dI (a2)), some (dI (i178)), some (dI (i191))] [] h193 0 0 := by
                  intro n
                  induction n with
                  | zero => intro i191 h193 hm; exact absurd hm (Nat.not_lt_zero _)
                  | succ n ih =>
                    intro i191 h193 hm198 hb196 hb197 hI194 hE195
                    have ihL192 := ih
                    clear ih
                    refine dr_iload rfl rfl ?_
                    refine di_aload_n rfl rfl ?_
                    obtain ⟨th_199, ni_202, pb_205, lo_208, hi_211, hb_214, ls_217, re_220, he_223, c200, c201, c203, c204, c206, c207, c209, c210, c212, c213, c215, c216, c218, c219, c221, c222, c224, hc225⟩ := I_md hI194
                    have ho226 : he_223 = -1 ∨ (0 ≤ he_223 ∧ he_223 ≤ 9999 ∧ he_223 % 100 ≤ he_223 / 100) := c224
                    refine dr_getf rfl hc225 rfl ?_
                    refine dr_iload_n rfl rfl ?_
                    obtain ⟨vs227, hc228, ha229⟩ := I_sz hI194
                    refine di_iald rfl hc228 ha229 (by omega) (by omega) (fun x230 x230f x230a x230b x230v => ?_)
                    have x230g : 0 ≤ x230 ∧ x230 ≤ 8 := x230f
                    have x230w : cv vs227 (a2) = x230 := cv_eq x230v x230a x230b
                    refine di_icmp_ge rfl rfl (by omega) (by omega) (by omega) (by omega) (fun c231 => ?_) (fun c231 => ?_)
                    · skip
                      refine dr_iload_n rfl rfl ?_
                      exact dr_iret (ty := .int) rfl rfl rfl (by decide) (by decide) ⟨hI194, hE195, i178, trivial, by omega, by omega, rfl⟩
                    · skip
                      refine di_aload_n rfl rfl ?_
                      refine dr_iload_n rfl rfl ?_
                      refine di_aload_n rfl rfl ?_
                      refine dr_getf rfl hc225 rfl ?_
                      refine dr_iload_n rfl rfl ?_
                      have hc232 := I_mcs hI194
                      refine paaD (k0 := 28) rfl hc232 (by omega) (by omega) (fun r234 hr234 => ?_)
                      have mr234 : isCR r234 := isCR_of hr234 (by omega) (by omega)
                      refine dr_iload rfl rfl ?_
                      obtain ⟨vs235, hc236, ha237⟩ := I_cr hI194 (p := r234) mr234
                      refine di_iald rfl hc236 ha237 (by omega) (by omega) (fun x238 x238f x238a x238b x238v => ?_)
                      have x238w : cv vs235 (i191) = x238 := cv_eq x238v x238a x238b
                      have x238g : 0 ≤ x238 ∧ x238 ≤ 9999 ∧ x238 % 100 ≤ x238 / 100 := x238f
                      refine di_aload_n rfl rfl ?_
                      refine dr_getf rfl hc225 rfl ?_
                      refine dr_iload_n rfl rfl ?_
                      have hc239 := I_mns hI194
                      refine paaD (k0 := 32) rfl hc239 (by omega) (by omega) (fun r241 hr241 => ?_)
                      have mr241 : isNR r241 := isNR_of hr241 (by omega) (by omega)
                      refine dr_iload rfl rfl ?_
                      obtain ⟨vs242, hc243, ha244⟩ := I_nr hI194 (p := r241) mr241
                      refine di_iald rfl hc243 ha244 (by omega) (by omega) (fun x245 x245f x245a x245b x245v => ?_)
                      have x245w : cv vs242 (i191) = x245 := cv_eq x245v x245a x245b
                      refine dr_virt rfl rfl rfl rfl hc225 (s_X8_putIn l hl hI194 (a1 := a1) (by omega) (by omega) (a2 := x238) (by omega) (by omega) (a3 := x245) (by omega) (by omega) (by omega)) (by decide) (by decide) (by decide) (Nat.le_of_ble_eq_true rfl) kNS (kIS (fun y249 h246 hI247 hE248 y249f y249a y249b => ?_))
                      have hE250 := Ext_tr hE195 hE248
                      refine dr_pop rfl rfl ?_
                      refine di_iinc (ls2 := [some (.ref 26), some (dI (a1)), some (dI (a2)), some (dI (i178)), some (dI ((i191 + 1)))]) rfl rfl rfl rfl ?_
                      refine dr_goto rfl rfl ?_
                      exact ihL192 ((i191 + 1)) h246 (by omega) (by omega) (by omega) hI247 hE250 
                exact L192 _ (0) h166 (Nat.lt_succ_self _) (by omega) (by omega) hI167 hE176 
              · skip
                refine di_aload_n rfl rfl ?_
                refine dr_virt rfl rfl rfl rfl hc170 (s_X8_nine l hl hI167 ) (by decide) (by decide) (by decide) (Nat.le_of_ble_eq_true rfl) kNS (kIS (fun y254 h251 hI252 hE253 y254f y254a y254b => ?_))
                have hE255 := Ext_tr hE176 hE253
                exact dr_iret (ty := .int) rfl rfl rfl (by decide) (by decide) ⟨hI252, hE255, y254, trivial, by omega, by omega, rfl⟩
            · skip
              refine di_aload_n rfl rfl ?_
              refine dr_iload_n rfl rfl ?_
              refine di_aload_n rfl rfl ?_
              refine dr_getf rfl hc170 rfl ?_
              refine dr_iload_n rfl rfl ?_
              have hc256 := I_mcs hI167
              refine paaD (k0 := 28) rfl hc256 (by omega) (by omega) (fun r258 hr258 => ?_)
              have mr258 : isCR r258 := isCR_of hr258 (by omega) (by omega)
              refine dr_iload rfl rfl ?_
              obtain ⟨vs259, hc260, ha261⟩ := I_cr hI167 (p := r258) mr258
              refine di_iald rfl hc260 ha261 (by omega) (by omega) (fun x262 x262f x262a x262b x262v => ?_)
              have x262w : cv vs259 (i179) = x262 := cv_eq x262v x262a x262b
              have x262g : 0 ≤ x262 ∧ x262 ≤ 9999 ∧ x262 % 100 ≤ x262 / 100 := x262f
              refine dr_virt rfl rfl rfl rfl hc170 (s_X8_at l hl hI167 (a1 := a1) (by omega) (by omega) (a2 := x262) (by omega) (by omega) (us := us171) hu172 ha173) (by decide) (by decide) (by decide) (Nat.le_of_ble_eq_true rfl) kNP (kIP (fun y263 y263f y263a y263b => ?_))
              have y263g : -1 ≤ y263 ∧ y263 ≤ 7 ∧ y263 < cv us171 (a1) := y263f
              refine di_if_ge rfl rfl (by omega) (by omega) (fun c264 => ?_) (fun c264 => ?_)
              · skip
                refine di_iinc (ls2 := [some (.ref 26), some (dI (a1)), some (dI (a2)), some (dI (i178)), some (dI ((i179 + 1)))]) rfl rfl rfl rfl ?_
                refine dr_goto rfl rfl ?_
                exact ihL180 (i178) ((i179 + 1)) (by omega) (by omega) (by omega) (by omega) (by omega) (by omega) 
              · skip
                refine di_iinc (ls2 := [some (.ref 26), some (dI (a1)), some (dI (a2)), some (dI ((i178 + 1))), some (dI (i179))]) rfl rfl rfl rfl ?_
                refine di_iinc (ls2 := [some (.ref 26), some (dI (a1)), some (dI (a2)), some (dI ((i178 + 1))), some (dI ((i179 + 1)))]) rfl rfl rfl rfl ?_
                refine dr_goto rfl rfl ?_
                exact ihL180 ((i178 + 1)) ((i179 + 1)) (by omega) (by omega) (by omega) (by omega) (by omega) (by omega) 
        exact L180 _ (0) (0) (Nat.lt_succ_self _) (by omega) (by omega) (by omega) (by omega) (by omega) 
      · skip
        refine di_const rfl ?_
        exact dr_iret (ty := .int) rfl rfl rfl (by decide) (by decide) ⟨hI167, hE176, 0, trivial, by omega, by omega, rfl⟩
    · skip
      refine di_const rfl ?_
      refine dr_goto rfl rfl ?_
      refine di_const rfl ?_
      obtain ⟨th_265, ni_268, pb_271, lo_274, hi_277, hb_280, ls_283, re_286, he_289, c266, c267, c269, c270, c272, c273, c275, c276, c278, c279, c281, c282, c284, c285, c287, c288, c290, hc291⟩ := I_md hI
      have ho292 : he_289 = -1 ∨ (0 ≤ he_289 ∧ he_289 ≤ 9999 ∧ he_289 % 100 ≤ he_289 / 100) := c290
      obtain ⟨vs293, hc294, ha295⟩ := I_sz hI
      refine dr_virt rfl rfl rfl rfl hc291 (s_X8_start l hl hI (a1 := 1) (by omega) (by omega) (a2 := 1) (by omega) (by omega) (mth := th_265) (mni := ni_268) (mpb := pb_271) (mlo := lo_274) (mhi := hi_277) (mhb := hb_280) (mls := ls_283) (mre := re_286) (mhe := he_289) hc291 (by omega) (by omega) (by omega) (by omega) (by omega) (by omega) (by omega) (by omega) (by omega) (by omega) (by omega) (by omega) (by omega) (by omega) (by omega) (by omega) c290 (us := vs293) hc294 ha295) (by decide) (by decide) (by decide) (Nat.le_of_ble_eq_true rfl) kQMN (kQMI (fun y305 h296 hI297 hE298 fs9 hc300 hM9 us301 hu302 ha303 hU304 y305f y305a y305b => ?_))
      obtain ⟨th_299, th_299a, th_299b, rfl⟩ := hM9
      have hU304 : us301 = vs293 := hU304
      subst hU304
      have hE306 := hE298
      have y305g : 0 ≤ y305 ∧ y305 ≤ 1 ∧ (y305 = 0 → ((1) : Int) = 0) := y305f
      refine di_if_eq rfl rfl (by omega) (by omega) (fun c307 => ?_) (fun c307 => ?_)
      · skip
        refine di_const rfl ?_
        refine di_istore_n (ls2 := [some (.ref 26), some (dI (a1)), some (dI (a2)), some (dI (0)), none]) rfl rfl rfl ?_
        refine di_const rfl ?_
        refine di_istore (ls2 := [some (.ref 26), some (dI (a1)), some (dI (a2)), some (dI (0)), some (dI (0))]) rfl rfl rfl ?_
        have L310 : ∀ (n : Nat) (i308 : Int) (i309 : Int), (8 - i309).toNat < n → 0 ≤ i308 → i308 ≤ 8 → 0 ≤ i309 → i309 ≤ 8 → i308 ≤ i309 → dm_W (fun _ _ _ => True) (dm_P (QS kc km h (RI (fun x => True)) []) 0 0) l 153 3 0 0 34 [some (.ref 26), some (dI (a1)), some (dI (a2)), some (dI (i308)), some (dI (i309))] [] h296 0 0 := by
          intro n
          induction n with
          | zero => intro i308 i309 hm; exact absurd hm (Nat.not_lt_zero _)
          | succ n ih =>
            intro i308 i309 hm316 hb311 hb312 hb313 hb314 hx315
            have ihL310 := ih
            clear ih
            refine dr_iload rfl rfl ?_
            refine di_aload_n rfl rfl ?_
            refine dr_getf rfl hc300 rfl ?_
            refine dr_iload_n rfl rfl ?_
            refine di_iald rfl hu302 ha303 (by omega) (by omega) (fun x317 x317f x317a x317b x317v => ?_)
            have x317g : 0 ≤ x317 ∧ x317 ≤ 8 := x317f
            have x317w : cv us301 (a2) = x317 := cv_eq x317v x317a x317b
            refine di_icmp_ge rfl rfl (by omega) (by omega) (by omega) (by omega) (fun c318 => ?_) (fun c318 => ?_)
            · skip
              refine di_aload_n rfl rfl ?_
              refine dr_getf rfl hc300 rfl ?_
              refine dr_iload_n rfl rfl ?_
              refine di_iald rfl hu302 ha303 (by omega) (by omega) (fun x319 x319f x319a x319b x319v => ?_)
              have x319g : 0 ≤ x319 ∧ x319 ≤ 8 := x319f
              have x319w : cv us301 (a1) = x319 := cv_eq x319v x319a x319b
              refine dr_iload_n rfl rfl ?_
              refine di_iadd rfl ?_
              refine di_bipush rfl (by decide) ?_
              refine di_icmp_le rfl rfl (by omega) (by omega) (by omega) (by omega) (fun c320 => ?_) (fun c320 => ?_)
              · skip
                refine di_const rfl ?_
                refine di_istore (ls2 := [some (.ref 26), some (dI (a1)), some (dI (a2)), some (dI (i308)), some (dI (0))]) rfl rfl rfl ?_
                have L322 : ∀ (n : Nat) (i321 : Int) (h323 : dm_H), (8 - i321).toNat < n → 0 ≤ i321 → i321 ≤ 8 → Inv kc km h323 → Ext h h323 → dm_W (fun _ _ _ => True) (dm_P (QS kc km h (RI (fun x => True)) []) 0 0) l 153 3 0 0 92 [some (.ref 26), some (dI (a1)), some (dI (a2)), some (dI (i308)), some (dI (i321))] [] h323 0 0 := by
                  intro n
                  induction n with
                  | zero => intro i321 h323 hm; exact absurd hm (Nat.not_lt_zero _)
                  | succ n ih =>
                    intro i321 h323 hm328 hb326 hb327 hI324 hE325
                    have ihL322 := ih
                    clear ih
                    refine dr_iload rfl rfl ?_
                    refine di_aload_n rfl rfl ?_
                    obtain ⟨th_329, ni_332, pb_335, lo_338, hi_341, hb_344, ls_347, re_350, he_353, c330, c331, c333, c334, c336, c337, c339, c340, c342, c343, c345, c346, c348, c349, c351, c352, c354, hc355⟩ := I_md hI324
                    have ho356 : he_353 = -1 ∨ (0 ≤ he_353 ∧ he_353 ≤ 9999 ∧ he_353 % 100 ≤ he_353 / 100) := c354
                    refine dr_getf rfl hc355 rfl ?_
                    refine dr_iload_n rfl rfl ?_
                    obtain ⟨vs357, hc358, ha359⟩ := I_sz hI324
                    refine di_iald rfl hc358 ha359 (by omega) (by omega) (fun x360 x360f x360a x360b x360v => ?_)
                    have x360g : 0 ≤ x360 ∧ x360 ≤ 8 := x360f
                    have x360w : cv vs357 (a2) = x360 := cv_eq x360v x360a x360b
                    refine di_icmp_ge rfl rfl (by omega) (by omega) (by omega) (by omega) (fun c361 => ?_) (fun c361 => ?_)
                    · skip
                      refine dr_iload_n rfl rfl ?_
                      exact dr_iret (ty := .int) rfl rfl rfl (by decide) (by decide) ⟨hI324, hE325, i308, trivial, by omega, by omega, rfl⟩
                    · skip
                      refine di_aload_n rfl rfl ?_
                      refine dr_iload_n rfl rfl ?_
                      refine di_aload_n rfl rfl ?_
                      refine dr_getf rfl hc355 rfl ?_
                      refine dr_iload_n rfl rfl ?_
                      have hc362 := I_mcs hI324
                      refine paaD (k0 := 28) rfl hc362 (by omega) (by omega) (fun r364 hr364 => ?_)
                      have mr364 : isCR r364 := isCR_of hr364 (by omega) (by omega)
                      refine dr_iload rfl rfl ?_
                      obtain ⟨vs365, hc366, ha367⟩ := I_cr hI324 (p := r364) mr364
                      refine di_iald rfl hc366 ha367 (by omega) (by omega) (fun x368 x368f x368a x368b x368v => ?_)
                      have x368w : cv vs365 (i321) = x368 := cv_eq x368v x368a x368b
                      have x368g : 0 ≤ x368 ∧ x368 ≤ 9999 ∧ x368 % 100 ≤ x368 / 100 := x368f
                      refine di_aload_n rfl rfl ?_
                      refine dr_getf rfl hc355 rfl ?_
                      refine dr_iload_n rfl rfl ?_
                      have hc369 := I_mns hI324
                      refine paaD (k0 := 32) rfl hc369 (by omega) (by omega) (fun r371 hr371 => ?_)
                      have mr371 : isNR r371 := isNR_of hr371 (by omega) (by omega)
                      refine dr_iload rfl rfl ?_
                      obtain ⟨vs372, hc373, ha374⟩ := I_nr hI324 (p := r371) mr371
                      refine di_iald rfl hc373 ha374 (by omega) (by omega) (fun x375 x375f x375a x375b x375v => ?_)
                      have x375w : cv vs372 (i321) = x375 := cv_eq x375v x375a x375b
                      refine dr_virt rfl rfl rfl rfl hc355 (s_X8_putIn l hl hI324 (a1 := a1) (by omega) (by omega) (a2 := x368) (by omega) (by omega) (a3 := x375) (by omega) (by omega) (by omega)) (by decide) (by decide) (by decide) (Nat.le_of_ble_eq_true rfl) kNS (kIS (fun y379 h376 hI377 hE378 y379f y379a y379b => ?_))
                      have hE380 := Ext_tr hE325 hE378
                      refine dr_pop rfl rfl ?_
                      refine di_iinc (ls2 := [some (.ref 26), some (dI (a1)), some (dI (a2)), some (dI (i308)), some (dI ((i321 + 1)))]) rfl rfl rfl rfl ?_
                      refine dr_goto rfl rfl ?_
                      exact ihL322 ((i321 + 1)) h376 (by omega) (by omega) (by omega) hI377 hE380 
                exact L322 _ (0) h296 (Nat.lt_succ_self _) (by omega) (by omega) hI297 hE306 
              · skip
                refine di_aload_n rfl rfl ?_
                refine dr_virt rfl rfl rfl rfl hc300 (s_X8_nine l hl hI297 ) (by decide) (by decide) (by decide) (Nat.le_of_ble_eq_true rfl) kNS (kIS (fun y384 h381 hI382 hE383 y384f y384a y384b => ?_))
                have hE385 := Ext_tr hE306 hE383
                exact dr_iret (ty := .int) rfl rfl rfl (by decide) (by decide) ⟨hI382, hE385, y384, trivial, by omega, by omega, rfl⟩
            · skip
              refine di_aload_n rfl rfl ?_
              refine dr_iload_n rfl rfl ?_
              refine di_aload_n rfl rfl ?_
              refine dr_getf rfl hc300 rfl ?_
              refine dr_iload_n rfl rfl ?_
              have hc386 := I_mcs hI297
              refine paaD (k0 := 28) rfl hc386 (by omega) (by omega) (fun r388 hr388 => ?_)
              have mr388 : isCR r388 := isCR_of hr388 (by omega) (by omega)
              refine dr_iload rfl rfl ?_
              obtain ⟨vs389, hc390, ha391⟩ := I_cr hI297 (p := r388) mr388
              refine di_iald rfl hc390 ha391 (by omega) (by omega) (fun x392 x392f x392a x392b x392v => ?_)
              have x392w : cv vs389 (i309) = x392 := cv_eq x392v x392a x392b
              have x392g : 0 ≤ x392 ∧ x392 ≤ 9999 ∧ x392 % 100 ≤ x392 / 100 := x392f
              refine dr_virt rfl rfl rfl rfl hc300 (s_X8_at l hl hI297 (a1 := a1) (by omega) (by omega) (a2 := x392) (by omega) (by omega) (us := us301) hu302 ha303) (by decide) (by decide) (by decide) (Nat.le_of_ble_eq_true rfl) kNP (kIP (fun y393 y393f y393a y393b => ?_))
              have y393g : -1 ≤ y393 ∧ y393 ≤ 7 ∧ y393 < cv us301 (a1) := y393f
              refine di_if_ge rfl rfl (by omega) (by omega) (fun c394 => ?_) (fun c394 => ?_)
              · skip
                refine di_iinc (ls2 := [some (.ref 26), some (dI (a1)), some (dI (a2)), some (dI (i308)), some (dI ((i309 + 1)))]) rfl rfl rfl rfl ?_
                refine dr_goto rfl rfl ?_
                exact ihL310 (i308) ((i309 + 1)) (by omega) (by omega) (by omega) (by omega) (by omega) (by omega) 
              · skip
                refine di_iinc (ls2 := [some (.ref 26), some (dI (a1)), some (dI (a2)), some (dI ((i308 + 1))), some (dI (i309))]) rfl rfl rfl rfl ?_
                refine di_iinc (ls2 := [some (.ref 26), some (dI (a1)), some (dI (a2)), some (dI ((i308 + 1))), some (dI ((i309 + 1)))]) rfl rfl rfl rfl ?_
                refine dr_goto rfl rfl ?_
                exact ihL310 ((i308 + 1)) ((i309 + 1)) (by omega) (by omega) (by omega) (by omega) (by omega) (by omega) 
        exact L310 _ (0) (0) (Nat.lt_succ_self _) (by omega) (by omega) (by omega) (by omega) (by omega) 
      · skip
        refine di_const rfl ?_
        exact dr_iret (ty := .int) rfl rfl rfl (by decide) (by decide) ⟨hI297, hE306, 0, trivial, by omega, by omega, rfl⟩
set_option maxHeartbeats 4000000 in
set_option maxRecDepth 100000 in
/-- EarlyendsModel.copy -/
theorem s_X8_copy (l : Launch) (hl : l.stackTraces = false) {kc km : Int} {h : dm_H} (hI : Inv kc km h) {a1 : Int} (h1a : -2147483648 ≤ a1) (h1b : a1 ≤ 2147483647) {a2 : Int} (h2a : -2147483648 ≤ a2) (h2b : a2 ≤ 2147483647) : dm_M l 154 2 0 0 [.ref 26, dI (a1), dI (a2)] h (QS kc km h (RI (fun x => True)) []) := by
  refine dm_M_of dk_154 hl rfl (Nat.le_of_ble_eq_true rfl) ?_
  show dm_W (fun _ _ _ => True) (dm_P (QS kc km h (RI (fun x => True)) []) 0 0) l 154 2 0 0 0 [some (.ref 26), some (dI (a1)), some (dI (a2)), none] [] h 0 0
  refine di_aload_n rfl rfl ?_
  refine dr_iload_n rfl rfl ?_
  refine dr_stat rfl rfl rfl rfl (s_X8_isNoBook l hl hI (a0 := a1) (by omega) (by omega)) (by decide) (by decide) (by decide) (Nat.le_of_ble_eq_true rfl) kNP (kIP (fun y1 y1f y1a y1b => ?_))
  have y1g : 0 ≤ y1 ∧ y1 ≤ 1 ∧ (y1 = 0 → 0 ≤ (a1) ∧ (a1) ≤ 2) := y1f
  refine di_if_ne rfl rfl (by omega) (by omega) (fun c2 => ?_) (fun c2 => ?_)
  · skip
    refine di_const rfl ?_
    refine dr_goto rfl rfl ?_
    refine di_const rfl ?_
    obtain ⟨th_3, ni_6, pb_9, lo_12, hi_15, hb_18, ls_21, re_24, he_27, c4, c5, c7, c8, c10, c11, c13, c14, c16, c17, c19, c20, c22, c23, c25, c26, c28, hc29⟩ := I_md hI
    have ho30 : he_27 = -1 ∨ (0 ≤ he_27 ∧ he_27 ≤ 9999 ∧ he_27 % 100 ≤ he_27 / 100) := c28
    obtain ⟨vs31, hc32, ha33⟩ := I_sz hI
    refine dr_virt rfl rfl rfl rfl hc29 (s_X8_start l hl hI (a1 := 1) (by omega) (by omega) (a2 := 1) (by omega) (by omega) (mth := th_3) (mni := ni_6) (mpb := pb_9) (mlo := lo_12) (mhi := hi_15) (mhb := hb_18) (mls := ls_21) (mre := re_24) (mhe := he_27) hc29 (by omega) (by omega) (by omega) (by omega) (by omega) (by omega) (by omega) (by omega) (by omega) (by omega) (by omega) (by omega) (by omega) (by omega) (by omega) (by omega) c28 (us := vs31) hc32 ha33) (by decide) (by decide) (by decide) (Nat.le_of_ble_eq_true rfl) kQMN (kQMI (fun y43 h34 hI35 hE36 fs9 hc38 hM9 us39 hu40 ha41 hU42 y43f y43a y43b => ?_))
    obtain ⟨th_37, th_37a, th_37b, rfl⟩ := hM9
    have hU42 : us39 = vs31 := hU42
    subst hU42
    have hE44 := hE36
    have y43g : 0 ≤ y43 ∧ y43 ≤ 1 ∧ (y43 = 0 → ((1) : Int) = 0) := y43f
    refine di_if_eq rfl rfl (by omega) (by omega) (fun c45 => ?_) (fun c45 => ?_)
    · skip
      refine di_aload_n rfl rfl ?_
      refine dr_getf rfl hc38 rfl ?_
      refine dr_iload_n rfl rfl ?_
      refine di_aload_n rfl rfl ?_
      refine dr_getf rfl hc38 rfl ?_
      refine dr_iload_n rfl rfl ?_
      refine di_iald rfl hu40 ha41 (by omega) (by omega) (fun x46 x46f x46a x46b x46v => ?_)
      have x46g : 0 ≤ x46 ∧ x46 ≤ 8 := x46f
      have x46w : cv us39 (a2) = x46 := cv_eq x46v x46a x46b
      refine paZ rfl hu40 ha41 (by omega) (by omega) ⟨by omega, by omega⟩ (by omega) (by omega) hI35 (fun h47 hI48 hE49 hu50 hk51 => ?_)
      obtain ⟨us52, hc53, ha54, us52w⟩ := hu50
      have us52w : cv us52 (a1) = x46 := us52w
      have hc55 := (hk51 (26) (by decide)).trans hc38
      have hE56 := Ext_tr hE44 hE49
      refine di_const rfl ?_
      refine di_istore_n (ls2 := [some (.ref 26), some (dI (a1)), some (dI (a2)), some (dI (0))]) rfl rfl rfl ?_
      have L58 : ∀ (n : Nat) (i57 : Int) (h59 : dm_H), (8 - i57).toNat < n → 0 ≤ i57 → i57 ≤ 8 → Inv kc km h59 → Ext h h59 → h59[26]? = some (10, [.ref 27, .ref 31, .ref 35, dI (th_37), dI (ni_6), dI (km), dI (pb_9), dI (lo_12), dI (hi_15), dI (hb_18), dI (ls_21), dI (re_24), dI (he_27)]) → dm_W (fun _ _ _ => True) (dm_P (QS kc km h (RI (fun x => True)) []) 0 0) l 154 2 0 0 43 [some (.ref 26), some (dI (a1)), some (dI (a2)), some (dI (i57))] [] h59 0 0 := by
        intro n
        induction n with
        | zero => intro i57 h59 hm; exact absurd hm (Nat.not_lt_zero _)
        | succ n ih =>
          intro i57 h59 hm65 hb62 hb63 hI60 hE61 hc64
          have ihL58 := ih
          clear ih
          refine dr_iload_n rfl rfl ?_
          refine di_aload_n rfl rfl ?_
          refine dr_getf rfl hc64 rfl ?_
          refine dr_iload_n rfl rfl ?_
          obtain ⟨vs66, hc67, ha68⟩ := I_sz hI60
          refine di_iald rfl hc67 ha68 (by omega) (by omega) (fun x69 x69f x69a x69b x69v => ?_)
          have x69g : 0 ≤ x69 ∧ x69 ≤ 8 := x69f
          have x69w : cv vs66 (a2) = x69 := cv_eq x69v x69a x69b
          refine di_icmp_ge rfl rfl (by omega) (by omega) (by omega) (by omega) (fun c70 => ?_) (fun c70 => ?_)
          · skip
            refine di_aload_n rfl rfl ?_
            refine dr_iload_n rfl rfl ?_
            refine dr_virt rfl rfl rfl rfl hc64 (s_X8_touch l hl hI60 (a1 := a1) (by omega) (by omega) (mth := th_37) (mni := ni_6) (mpb := pb_9) (mlo := lo_12) (mhi := hi_15) (mhb := hb_18) (mls := ls_21) (mre := re_24) (mhe := he_27) hc64 (by omega) (by omega) (by omega) (by omega) (by omega) (by omega) (by omega) (by omega) (by omega) (by omega) (by omega) (by omega) (by omega) (by omega) (by omega) (by omega) c28 (us := vs66) hc67 ha68) (by decide) (by decide) (by decide) (Nat.le_of_ble_eq_true rfl) kQMN (kQMV (fun h71 hI72 hE73 fs9 hc75 hM9 us76 hu77 ha78 hU79 => ?_))
            obtain ⟨ls_74, ls_74a, ls_74b, rfl⟩ := hM9
            have hU79 : us76 = vs66 := hU79
            subst hU79
            have hE81 := Ext_tr hE61 hE73
            refine di_aload_n rfl rfl ?_
            refine dr_getf rfl hc75 rfl ?_
            refine dr_iload_n rfl rfl ?_
            refine di_icmp_ne rfl rfl (by omega) (by omega) (by omega) (by omega) (fun c82 => ?_) (fun c82 => ?_)
            · skip
              refine di_aload_n rfl rfl ?_
              refine dr_getf rfl hc75 rfl ?_
              refine dr_iload_n rfl rfl ?_
              refine di_iald rfl hu77 ha78 (by omega) (by omega) (fun x83 x83f x83a x83b x83v => ?_)
              have x83g : 0 ≤ x83 ∧ x83 ≤ 8 := x83f
              have x83w : cv us76 (a1) = x83 := cv_eq x83v x83a x83b
              exact dr_iret (ty := .int) rfl rfl rfl (by decide) (by decide) ⟨hI72, hE81, x83, trivial, by omega, by omega, rfl⟩
            · skip
              refine di_aload_n rfl rfl ?_
              refine di_const rfl ?_
              refine pf rfl hc75 (Nat.le_of_ble_eq_true rfl) rfl hI72 (by decide) (T37_md (by omega) (by omega) (by omega) (by omega) (by omega) (by omega) (by omega) (by omega) (by first | assumption | omega)) (fun h84 hI85 hE86 hc87 hk88 => ?_)
              have hc89 := (hk88 (35) (by decide)).trans hu77
              have hE90 := Ext_tr hE81 hE86
              refine di_aload_n rfl rfl ?_
              refine dr_getf rfl hc87 rfl ?_
              refine dr_iload_n rfl rfl ?_
              refine di_iald rfl hc89 ha78 (by omega) (by omega) (fun x91 x91f x91a x91b x91v => ?_)
              have x91g : 0 ≤ x91 ∧ x91 ≤ 8 := x91f
              have x91w : cv us76 (a1) = x91 := cv_eq x91v x91a x91b
              exact dr_iret (ty := .int) rfl rfl rfl (by decide) (by decide) ⟨hI85, hE90, x91, trivial, by omega, by omega, rfl⟩
          · skip
            refine di_aload_n rfl rfl ?_
            refine dr_getf rfl hc64 rfl ?_
            refine dr_iload_n rfl rfl ?_
            have hc92 := I_mcs hI60
            refine paaD (k0 := 28) rfl hc92 (by omega) (by omega) (fun r94 hr94 => ?_)
            have mr94 : isCR r94 := isCR_of hr94 (by omega) (by omega)
            refine dr_iload_n rfl rfl ?_
            refine di_aload_n rfl rfl ?_
            refine dr_getf rfl hc64 rfl ?_
            refine dr_iload_n rfl rfl ?_
            refine paaD (k0 := 28) rfl hc92 (by omega) (by omega) (fun r96 hr96 => ?_)
            have mr96 : isCR r96 := isCR_of hr96 (by omega) (by omega)
            refine dr_iload_n rfl rfl ?_
            obtain ⟨vs97, hc98, ha99⟩ := I_cr hI60 (p := r96) mr96
            refine di_iald rfl hc98 ha99 (by omega) (by omega) (fun x100 x100f x100a x100b x100v => ?_)
            have x100w : cv vs97 (i57) = x100 := cv_eq x100v x100a x100b
            have x100g : 0 ≤ x100 ∧ x100 ≤ 9999 ∧ x100 % 100 ≤ x100 / 100 := x100f
            obtain ⟨vs101, hc102, ha103⟩ := I_cr hI60 (p := r94) mr94
            refine pa rfl hc102 ha103 (by omega) (by omega) ⟨by omega, by omega, by omega⟩ (by omega) (by omega) hI60 (lt_cr mr94) (fun us9 hu9 => T37_cr mr94 hu9) (fun h104 hI105 hE106 hu107 hk108 => ?_)
            obtain ⟨us109, hc110, ha111⟩ := hu107
            have hc112 := (hk108 26 (by have q9 := mr94; simp only [isCR] at q9; omega)).trans hc64
            have hc113 := (hk108 35 (by have q9 := mr94; simp only [isCR] at q9; omega)).trans hc67
            have hE114 := Ext_tr hE61 hE106
            refine di_aload_n rfl rfl ?_
            refine dr_getf rfl hc112 rfl ?_
            refine dr_iload_n rfl rfl ?_
            have hc115 := I_mns hI105
            refine paaD (k0 := 32) rfl hc115 (by omega) (by omega) (fun r117 hr117 => ?_)
            have mr117 : isNR r117 := isNR_of hr117 (by omega) (by omega)
            refine dr_iload_n rfl rfl ?_
            refine di_aload_n rfl rfl ?_
            refine dr_getf rfl hc112 rfl ?_
            refine dr_iload_n rfl rfl ?_
            refine paaD (k0 := 32) rfl hc115 (by omega) (by omega) (fun r119 hr119 => ?_)
            have mr119 : isNR r119 := isNR_of hr119 (by omega) (by omega)
            refine dr_iload_n rfl rfl ?_
            obtain ⟨vs120, hc121, ha122⟩ := I_nr hI105 (p := r119) mr119
            refine di_iald rfl hc121 ha122 (by omega) (by omega) (fun x123 x123f x123a x123b x123v => ?_)
            have x123w : cv vs120 (i57) = x123 := cv_eq x123v x123a x123b
            obtain ⟨vs124, hc125, ha126⟩ := I_nr hI105 (p := r117) mr117
            refine pa rfl hc125 ha126 (by omega) (by omega) trivial (by omega) (by omega) hI105 (lt_nr mr117) (fun us9 hu9 => T37_nr mr117 hu9) (fun h127 hI128 hE129 hu130 hk131 => ?_)
            obtain ⟨us132, hc133, ha134⟩ := hu130
            have hc135 := (hk131 26 (by have q9 := mr117; simp only [isNR] at q9; omega)).trans hc112
            have hc136 := (hk131 35 (by have q9 := mr117; simp only [isNR] at q9; omega)).trans hc113
            have hE137 := Ext_tr hE114 hE129
            refine di_iinc (ls2 := [some (.ref 26), some (dI (a1)), some (dI (a2)), some (dI ((i57 + 1)))]) rfl rfl rfl rfl ?_
            refine dr_goto rfl rfl ?_
            exact ihL58 ((i57 + 1)) h127 (by omega) (by omega) (by omega) hI128 hE137 hc135
      exact L58 _ (0) h47 (Nat.lt_succ_self _) (by omega) (by omega) hI48 hE56 hc55
    · skip
      refine di_const rfl ?_
      exact dr_iret (ty := .int) rfl rfl rfl (by decide) (by decide) ⟨hI35, hE44, 0, trivial, by omega, by omega, rfl⟩
  · skip
    refine dr_iload_n rfl rfl ?_
    refine dr_stat rfl rfl rfl rfl (s_X8_isNoBook l hl hI (a0 := a2) (by omega) (by omega)) (by decide) (by decide) (by decide) (Nat.le_of_ble_eq_true rfl) kNP (kIP (fun y138 y138f y138a y138b => ?_))
    have y138g : 0 ≤ y138 ∧ y138 ≤ 1 ∧ (y138 = 0 → 0 ≤ (a2) ∧ (a2) ≤ 2) := y138f
    refine di_if_eq rfl rfl (by omega) (by omega) (fun c139 => ?_) (fun c139 => ?_)
    · skip
      refine di_const rfl ?_
      refine di_const rfl ?_
      obtain ⟨th_140, ni_143, pb_146, lo_149, hi_152, hb_155, ls_158, re_161, he_164, c141, c142, c144, c145, c147, c148, c150, c151, c153, c154, c156, c157, c159, c160, c162, c163, c165, hc166⟩ := I_md hI
      have ho167 : he_164 = -1 ∨ (0 ≤ he_164 ∧ he_164 ≤ 9999 ∧ he_164 % 100 ≤ he_164 / 100) := c165
      obtain ⟨vs168, hc169, ha170⟩ := I_sz hI
      refine dr_virt rfl rfl rfl rfl hc166 (s_X8_start l hl hI (a1 := 0) (by omega) (by omega) (a2 := 1) (by omega) (by omega) (mth := th_140) (mni := ni_143) (mpb := pb_146) (mlo := lo_149) (mhi := hi_152) (mhb := hb_155) (mls := ls_158) (mre := re_161) (mhe := he_164) hc166 (by omega) (by omega) (by omega) (by omega) (by omega) (by omega) (by omega) (by omega) (by omega) (by omega) (by omega) (by omega) (by omega) (by omega) (by omega) (by omega) c165 (us := vs168) hc169 ha170) (by decide) (by decide) (by decide) (Nat.le_of_ble_eq_true rfl) kQMN (kQMI (fun y180 h171 hI172 hE173 fs9 hc175 hM9 us176 hu177 ha178 hU179 y180f y180a y180b => ?_))
      obtain ⟨th_174, th_174a, th_174b, rfl⟩ := hM9
      have hU179 : us176 = vs168 := hU179
      subst hU179
      have hE181 := hE173
      have y180g : 0 ≤ y180 ∧ y180 ≤ 1 ∧ (y180 = 0 → ((0) : Int) = 0) := y180f
      refine di_if_eq rfl rfl (by omega) (by omega) (fun c182 => ?_) (fun c182 => ?_)
      · skip
        refine di_aload_n rfl rfl ?_
        refine dr_getf rfl hc175 rfl ?_
        refine dr_iload_n rfl rfl ?_
        refine di_aload_n rfl rfl ?_
        refine dr_getf rfl hc175 rfl ?_
        refine dr_iload_n rfl rfl ?_
        refine di_iald rfl hu177 ha178 (by omega) (by omega) (fun x183 x183f x183a x183b x183v => ?_)
        have x183g : 0 ≤ x183 ∧ x183 ≤ 8 := x183f
        have x183w : cv us176 (a2) = x183 := cv_eq x183v x183a x183b
        refine paZ rfl hu177 ha178 (by omega) (by omega) ⟨by omega, by omega⟩ (by omega) (by omega) hI172 (fun h184 hI185 hE186 hu187 hk188 => ?_)
        obtain ⟨us189, hc190, ha191, us189w⟩ := hu187
        have us189w : cv us189 (a1) = x183 := us189w
        have hc192 := (hk188 (26) (by decide)).trans hc175
        have hE193 := Ext_tr hE181 hE186
        refine di_const rfl ?_
        refine di_istore_n (ls2 := [some (.ref 26), some (dI (a1)), some (dI (a2)), some (dI (0))]) rfl rfl rfl ?_
        have L195 : ∀ (n : Nat) (i194 : Int) (h196 : dm_H), (8 - i194).toNat < n → 0 ≤ i194 → i194 ≤ 8 → Inv kc km h196 → Ext h h196 → h196[26]? = some (10, [.ref 27, .ref 31, .ref 35, dI (th_174), dI (ni_143), dI (km), dI (pb_146), dI (lo_149), dI (hi_152), dI (hb_155), dI (ls_158), dI (re_161), dI (he_164)]) → dm_W (fun _ _ _ => True) (dm_P (QS kc km h (RI (fun x => True)) []) 0 0) l 154 2 0 0 43 [some (.ref 26), some (dI (a1)), some (dI (a2)), some (dI (i194))] [] h196 0 0 := by
          intro n
          induction n with
          | zero => intro i194 h196 hm; exact absurd hm (Nat.not_lt_zero _)
          | succ n ih =>
            intro i194 h196 hm202 hb199 hb200 hI197 hE198 hc201
            have ihL195 := ih
            clear ih
            refine dr_iload_n rfl rfl ?_
            refine di_aload_n rfl rfl ?_
            refine dr_getf rfl hc201 rfl ?_
            refine dr_iload_n rfl rfl ?_
            obtain ⟨vs203, hc204, ha205⟩ := I_sz hI197
            refine di_iald rfl hc204 ha205 (by omega) (by omega) (fun x206 x206f x206a x206b x206v => ?_)
            have x206g : 0 ≤ x206 ∧ x206 ≤ 8 := x206f
            have x206w : cv vs203 (a2) = x206 := cv_eq x206v x206a x206b
            refine di_icmp_ge rfl rfl (by omega) (by omega) (by omega) (by omega) (fun c207 => ?_) (fun c207 => ?_)
            · skip
              refine di_aload_n rfl rfl ?_
              refine dr_iload_n rfl rfl ?_
              refine dr_virt rfl rfl rfl rfl hc201 (s_X8_touch l hl hI197 (a1 := a1) (by omega) (by omega) (mth := th_174) (mni := ni_143) (mpb := pb_146) (mlo := lo_149) (mhi := hi_152) (mhb := hb_155) (mls := ls_158) (mre := re_161) (mhe := he_164) hc201 (by omega) (by omega) (by omega) (by omega) (by omega) (by omega) (by omega) (by omega) (by omega) (by omega) (by omega) (by omega) (by omega) (by omega) (by omega) (by omega) c165 (us := vs203) hc204 ha205) (by decide) (by decide) (by decide) (Nat.le_of_ble_eq_true rfl) kQMN (kQMV (fun h208 hI209 hE210 fs9 hc212 hM9 us213 hu214 ha215 hU216 => ?_))
              obtain ⟨ls_211, ls_211a, ls_211b, rfl⟩ := hM9
              have hU216 : us213 = vs203 := hU216
              subst hU216
              have hE218 := Ext_tr hE198 hE210
              refine di_aload_n rfl rfl ?_
              refine dr_getf rfl hc212 rfl ?_
              refine dr_iload_n rfl rfl ?_
              refine di_icmp_ne rfl rfl (by omega) (by omega) (by omega) (by omega) (fun c219 => ?_) (fun c219 => ?_)
              · skip
                refine di_aload_n rfl rfl ?_
                refine dr_getf rfl hc212 rfl ?_
                refine dr_iload_n rfl rfl ?_
                refine di_iald rfl hu214 ha215 (by omega) (by omega) (fun x220 x220f x220a x220b x220v => ?_)
                have x220g : 0 ≤ x220 ∧ x220 ≤ 8 := x220f
                have x220w : cv us213 (a1) = x220 := cv_eq x220v x220a x220b
                exact dr_iret (ty := .int) rfl rfl rfl (by decide) (by decide) ⟨hI209, hE218, x220, trivial, by omega, by omega, rfl⟩
              · skip
                refine di_aload_n rfl rfl ?_
                refine di_const rfl ?_
                refine pf rfl hc212 (Nat.le_of_ble_eq_true rfl) rfl hI209 (by decide) (T37_md (by omega) (by omega) (by omega) (by omega) (by omega) (by omega) (by omega) (by omega) (by first | assumption | omega)) (fun h221 hI222 hE223 hc224 hk225 => ?_)
                have hc226 := (hk225 (35) (by decide)).trans hu214
                have hE227 := Ext_tr hE218 hE223
                refine di_aload_n rfl rfl ?_
                refine dr_getf rfl hc224 rfl ?_
                refine dr_iload_n rfl rfl ?_
                refine di_iald rfl hc226 ha215 (by omega) (by omega) (fun x228 x228f x228a x228b x228v => ?_)
                have x228g : 0 ≤ x228 ∧ x228 ≤ 8 := x228f
                have x228w : cv us213 (a1) = x228 := cv_eq x228v x228a x228b
                exact dr_iret (ty := .int) rfl rfl rfl (by decide) (by decide) ⟨hI222, hE227, x228, trivial, by omega, by omega, rfl⟩
            · skip
              refine di_aload_n rfl rfl ?_
              refine dr_getf rfl hc201 rfl ?_
              refine dr_iload_n rfl rfl ?_
              have hc229 := I_mcs hI197
              refine paaD (k0 := 28) rfl hc229 (by omega) (by omega) (fun r231 hr231 => ?_)
              have mr231 : isCR r231 := isCR_of hr231 (by omega) (by omega)
              refine dr_iload_n rfl rfl ?_
              refine di_aload_n rfl rfl ?_
              refine dr_getf rfl hc201 rfl ?_
              refine dr_iload_n rfl rfl ?_
              refine paaD (k0 := 28) rfl hc229 (by omega) (by omega) (fun r233 hr233 => ?_)
              have mr233 : isCR r233 := isCR_of hr233 (by omega) (by omega)
              refine dr_iload_n rfl rfl ?_
              obtain ⟨vs234, hc235, ha236⟩ := I_cr hI197 (p := r233) mr233
              refine di_iald rfl hc235 ha236 (by omega) (by omega) (fun x237 x237f x237a x237b x237v => ?_)
              have x237w : cv vs234 (i194) = x237 := cv_eq x237v x237a x237b
              have x237g : 0 ≤ x237 ∧ x237 ≤ 9999 ∧ x237 % 100 ≤ x237 / 100 := x237f
              obtain ⟨vs238, hc239, ha240⟩ := I_cr hI197 (p := r231) mr231
              refine pa rfl hc239 ha240 (by omega) (by omega) ⟨by omega, by omega, by omega⟩ (by omega) (by omega) hI197 (lt_cr mr231) (fun us9 hu9 => T37_cr mr231 hu9) (fun h241 hI242 hE243 hu244 hk245 => ?_)
              obtain ⟨us246, hc247, ha248⟩ := hu244
              have hc249 := (hk245 26 (by have q9 := mr231; simp only [isCR] at q9; omega)).trans hc201
              have hc250 := (hk245 35 (by have q9 := mr231; simp only [isCR] at q9; omega)).trans hc204
              have hE251 := Ext_tr hE198 hE243
              refine di_aload_n rfl rfl ?_
              refine dr_getf rfl hc249 rfl ?_
              refine dr_iload_n rfl rfl ?_
              have hc252 := I_mns hI242
              refine paaD (k0 := 32) rfl hc252 (by omega) (by omega) (fun r254 hr254 => ?_)
              have mr254 : isNR r254 := isNR_of hr254 (by omega) (by omega)
              refine dr_iload_n rfl rfl ?_
              refine di_aload_n rfl rfl ?_
              refine dr_getf rfl hc249 rfl ?_
              refine dr_iload_n rfl rfl ?_
              refine paaD (k0 := 32) rfl hc252 (by omega) (by omega) (fun r256 hr256 => ?_)
              have mr256 : isNR r256 := isNR_of hr256 (by omega) (by omega)
              refine dr_iload_n rfl rfl ?_
              obtain ⟨vs257, hc258, ha259⟩ := I_nr hI242 (p := r256) mr256
              refine di_iald rfl hc258 ha259 (by omega) (by omega) (fun x260 x260f x260a x260b x260v => ?_)
              have x260w : cv vs257 (i194) = x260 := cv_eq x260v x260a x260b
              obtain ⟨vs261, hc262, ha263⟩ := I_nr hI242 (p := r254) mr254
              refine pa rfl hc262 ha263 (by omega) (by omega) trivial (by omega) (by omega) hI242 (lt_nr mr254) (fun us9 hu9 => T37_nr mr254 hu9) (fun h264 hI265 hE266 hu267 hk268 => ?_)
              obtain ⟨us269, hc270, ha271⟩ := hu267
              have hc272 := (hk268 26 (by have q9 := mr254; simp only [isNR] at q9; omega)).trans hc249
              have hc273 := (hk268 35 (by have q9 := mr254; simp only [isNR] at q9; omega)).trans hc250
              have hE274 := Ext_tr hE251 hE266
              refine di_iinc (ls2 := [some (.ref 26), some (dI (a1)), some (dI (a2)), some (dI ((i194 + 1)))]) rfl rfl rfl rfl ?_
              refine dr_goto rfl rfl ?_
              exact ihL195 ((i194 + 1)) h264 (by omega) (by omega) (by omega) hI265 hE274 hc272
        exact L195 _ (0) h184 (Nat.lt_succ_self _) (by omega) (by omega) hI185 hE193 hc192
      · skip
        refine di_const rfl ?_
        exact dr_iret (ty := .int) rfl rfl rfl (by decide) (by decide) ⟨hI172, hE181, 0, trivial, by omega, by omega, rfl⟩
    · skip
      refine di_const rfl ?_
      refine dr_goto rfl rfl ?_
      refine di_const rfl ?_
      obtain ⟨th_275, ni_278, pb_281, lo_284, hi_287, hb_290, ls_293, re_296, he_299, c276, c277, c279, c280, c282, c283, c285, c286, c288, c289, c291, c292, c294, c295, c297, c298, c300, hc301⟩ := I_md hI
      have ho302 : he_299 = -1 ∨ (0 ≤ he_299 ∧ he_299 ≤ 9999 ∧ he_299 % 100 ≤ he_299 / 100) := c300
      obtain ⟨vs303, hc304, ha305⟩ := I_sz hI
      refine dr_virt rfl rfl rfl rfl hc301 (s_X8_start l hl hI (a1 := 1) (by omega) (by omega) (a2 := 1) (by omega) (by omega) (mth := th_275) (mni := ni_278) (mpb := pb_281) (mlo := lo_284) (mhi := hi_287) (mhb := hb_290) (mls := ls_293) (mre := re_296) (mhe := he_299) hc301 (by omega) (by omega) (by omega) (by omega) (by omega) (by omega) (by omega) (by omega) (by omega) (by omega) (by omega) (by omega) (by omega) (by omega) (by omega) (by omega) c300 (us := vs303) hc304 ha305) (by decide) (by decide) (by decide) (Nat.le_of_ble_eq_true rfl) kQMN (kQMI (fun y315 h306 hI307 hE308 fs9 hc310 hM9 us311 hu312 ha313 hU314 y315f y315a y315b => ?_))
      obtain ⟨th_309, th_309a, th_309b, rfl⟩ := hM9
      have hU314 : us311 = vs303 := hU314
      subst hU314
      have hE316 := hE308
      have y315g : 0 ≤ y315 ∧ y315 ≤ 1 ∧ (y315 = 0 → ((1) : Int) = 0) := y315f
      refine di_if_eq rfl rfl (by omega) (by omega) (fun c317 => ?_) (fun c317 => ?_)
      · skip
        refine di_aload_n rfl rfl ?_
        refine dr_getf rfl hc310 rfl ?_
        refine dr_iload_n rfl rfl ?_
        refine di_aload_n rfl rfl ?_
        refine dr_getf rfl hc310 rfl ?_
        refine dr_iload_n rfl rfl ?_
        refine di_iald rfl hu312 ha313 (by omega) (by omega) (fun x318 x318f x318a x318b x318v => ?_)
        have x318g : 0 ≤ x318 ∧ x318 ≤ 8 := x318f
        have x318w : cv us311 (a2) = x318 := cv_eq x318v x318a x318b
        refine paZ rfl hu312 ha313 (by omega) (by omega) ⟨by omega, by omega⟩ (by omega) (by omega) hI307 (fun h319 hI320 hE321 hu322 hk323 => ?_)
        obtain ⟨us324, hc325, ha326, us324w⟩ := hu322
        have us324w : cv us324 (a1) = x318 := us324w
        have hc327 := (hk323 (26) (by decide)).trans hc310
        have hE328 := Ext_tr hE316 hE321
        refine di_const rfl ?_
        refine di_istore_n (ls2 := [some (.ref 26), some (dI (a1)), some (dI (a2)), some (dI (0))]) rfl rfl rfl ?_
        have L330 : ∀ (n : Nat) (i329 : Int) (h331 : dm_H), (8 - i329).toNat < n → 0 ≤ i329 → i329 ≤ 8 → Inv kc km h331 → Ext h h331 → h331[26]? = some (10, [.ref 27, .ref 31, .ref 35, dI (th_309), dI (ni_278), dI (km), dI (pb_281), dI (lo_284), dI (hi_287), dI (hb_290), dI (ls_293), dI (re_296), dI (he_299)]) → dm_W (fun _ _ _ => True) (dm_P (QS kc km h (RI (fun x => True)) []) 0 0) l 154 2 0 0 43 [some (.ref 26), some (dI (a1)), some (dI (a2)), some (dI (i329))] [] h331 0 0 := by
          intro n
          induction n with
          | zero => intro i329 h331 hm; exact absurd hm (Nat.not_lt_zero _)
          | succ n ih =>
            intro i329 h331 hm337 hb334 hb335 hI332 hE333 hc336
            have ihL330 := ih
            clear ih
            refine dr_iload_n rfl rfl ?_
            refine di_aload_n rfl rfl ?_
            refine dr_getf rfl hc336 rfl ?_
            refine dr_iload_n rfl rfl ?_
            obtain ⟨vs338, hc339, ha340⟩ := I_sz hI332
            refine di_iald rfl hc339 ha340 (by omega) (by omega) (fun x341 x341f x341a x341b x341v => ?_)
            have x341g : 0 ≤ x341 ∧ x341 ≤ 8 := x341f
            have x341w : cv vs338 (a2) = x341 := cv_eq x341v x341a x341b
            refine di_icmp_ge rfl rfl (by omega) (by omega) (by omega) (by omega) (fun c342 => ?_) (fun c342 => ?_)
            · skip
              refine di_aload_n rfl rfl ?_
              refine dr_iload_n rfl rfl ?_
              refine dr_virt rfl rfl rfl rfl hc336 (s_X8_touch l hl hI332 (a1 := a1) (by omega) (by omega) (mth := th_309) (mni := ni_278) (mpb := pb_281) (mlo := lo_284) (mhi := hi_287) (mhb := hb_290) (mls := ls_293) (mre := re_296) (mhe := he_299) hc336 (by omega) (by omega) (by omega) (by omega) (by omega) (by omega) (by omega) (by omega) (by omega) (by omega) (by omega) (by omega) (by omega) (by omega) (by omega) (by omega) c300 (us := vs338) hc339 ha340) (by decide) (by decide) (by decide) (Nat.le_of_ble_eq_true rfl) kQMN (kQMV (fun h343 hI344 hE345 fs9 hc347 hM9 us348 hu349 ha350 hU351 => ?_))
              obtain ⟨ls_346, ls_346a, ls_346b, rfl⟩ := hM9
              have hU351 : us348 = vs338 := hU351
              subst hU351
              have hE353 := Ext_tr hE333 hE345
              refine di_aload_n rfl rfl ?_
              refine dr_getf rfl hc347 rfl ?_
              refine dr_iload_n rfl rfl ?_
              refine di_icmp_ne rfl rfl (by omega) (by omega) (by omega) (by omega) (fun c354 => ?_) (fun c354 => ?_)
              · skip
                refine di_aload_n rfl rfl ?_
                refine dr_getf rfl hc347 rfl ?_
                refine dr_iload_n rfl rfl ?_
                refine di_iald rfl hu349 ha350 (by omega) (by omega) (fun x355 x355f x355a x355b x355v => ?_)
                have x355g : 0 ≤ x355 ∧ x355 ≤ 8 := x355f
                have x355w : cv us348 (a1) = x355 := cv_eq x355v x355a x355b
                exact dr_iret (ty := .int) rfl rfl rfl (by decide) (by decide) ⟨hI344, hE353, x355, trivial, by omega, by omega, rfl⟩
              · skip
                refine di_aload_n rfl rfl ?_
                refine di_const rfl ?_
                refine pf rfl hc347 (Nat.le_of_ble_eq_true rfl) rfl hI344 (by decide) (T37_md (by omega) (by omega) (by omega) (by omega) (by omega) (by omega) (by omega) (by omega) (by first | assumption | omega)) (fun h356 hI357 hE358 hc359 hk360 => ?_)
                have hc361 := (hk360 (35) (by decide)).trans hu349
                have hE362 := Ext_tr hE353 hE358
                refine di_aload_n rfl rfl ?_
                refine dr_getf rfl hc359 rfl ?_
                refine dr_iload_n rfl rfl ?_
                refine di_iald rfl hc361 ha350 (by omega) (by omega) (fun x363 x363f x363a x363b x363v => ?_)
                have x363g : 0 ≤ x363 ∧ x363 ≤ 8 := x363f
                have x363w : cv us348 (a1) = x363 := cv_eq x363v x363a x363b
                exact dr_iret (ty := .int) rfl rfl rfl (by decide) (by decide) ⟨hI357, hE362, x363, trivial, by omega, by omega, rfl⟩
            · skip
              refine di_aload_n rfl rfl ?_
              refine dr_getf rfl hc336 rfl ?_
              refine dr_iload_n rfl rfl ?_
              have hc364 := I_mcs hI332
              refine paaD (k0 := 28) rfl hc364 (by omega) (by omega) (fun r366 hr366 => ?_)
              have mr366 : isCR r366 := isCR_of hr366 (by omega) (by omega)
              refine dr_iload_n rfl rfl ?_
              refine di_aload_n rfl rfl ?_
              refine dr_getf rfl hc336 rfl ?_
              refine dr_iload_n rfl rfl ?_
              refine paaD (k0 := 28) rfl hc364 (by omega) (by omega) (fun r368 hr368 => ?_)
              have mr368 : isCR r368 := isCR_of hr368 (by omega) (by omega)
              refine dr_iload_n rfl rfl ?_
              obtain ⟨vs369, hc370, ha371⟩ := I_cr hI332 (p := r368) mr368
              refine di_iald rfl hc370 ha371 (by omega) (by omega) (fun x372 x372f x372a x372b x372v => ?_)
              have x372w : cv vs369 (i329) = x372 := cv_eq x372v x372a x372b
              have x372g : 0 ≤ x372 ∧ x372 ≤ 9999 ∧ x372 % 100 ≤ x372 / 100 := x372f
              obtain ⟨vs373, hc374, ha375⟩ := I_cr hI332 (p := r366) mr366
              refine pa rfl hc374 ha375 (by omega) (by omega) ⟨by omega, by omega, by omega⟩ (by omega) (by omega) hI332 (lt_cr mr366) (fun us9 hu9 => T37_cr mr366 hu9) (fun h376 hI377 hE378 hu379 hk380 => ?_)
              obtain ⟨us381, hc382, ha383⟩ := hu379
              have hc384 := (hk380 26 (by have q9 := mr366; simp only [isCR] at q9; omega)).trans hc336
              have hc385 := (hk380 35 (by have q9 := mr366; simp only [isCR] at q9; omega)).trans hc339
              have hE386 := Ext_tr hE333 hE378
              refine di_aload_n rfl rfl ?_
              refine dr_getf rfl hc384 rfl ?_
              refine dr_iload_n rfl rfl ?_
              have hc387 := I_mns hI377
              refine paaD (k0 := 32) rfl hc387 (by omega) (by omega) (fun r389 hr389 => ?_)
              have mr389 : isNR r389 := isNR_of hr389 (by omega) (by omega)
              refine dr_iload_n rfl rfl ?_
              refine di_aload_n rfl rfl ?_
              refine dr_getf rfl hc384 rfl ?_
              refine dr_iload_n rfl rfl ?_
              refine paaD (k0 := 32) rfl hc387 (by omega) (by omega) (fun r391 hr391 => ?_)
              have mr391 : isNR r391 := isNR_of hr391 (by omega) (by omega)
              refine dr_iload_n rfl rfl ?_
              obtain ⟨vs392, hc393, ha394⟩ := I_nr hI377 (p := r391) mr391
              refine di_iald rfl hc393 ha394 (by omega) (by omega) (fun x395 x395f x395a x395b x395v => ?_)
              have x395w : cv vs392 (i329) = x395 := cv_eq x395v x395a x395b
              obtain ⟨vs396, hc397, ha398⟩ := I_nr hI377 (p := r389) mr389
              refine pa rfl hc397 ha398 (by omega) (by omega) trivial (by omega) (by omega) hI377 (lt_nr mr389) (fun us9 hu9 => T37_nr mr389 hu9) (fun h399 hI400 hE401 hu402 hk403 => ?_)
              obtain ⟨us404, hc405, ha406⟩ := hu402
              have hc407 := (hk403 26 (by have q9 := mr389; simp only [isNR] at q9; omega)).trans hc384
              have hc408 := (hk403 35 (by have q9 := mr389; simp only [isNR] at q9; omega)).trans hc385
              have hE409 := Ext_tr hE386 hE401
              refine di_iinc (ls2 := [some (.ref 26), some (dI (a1)), some (dI (a2)), some (dI ((i329 + 1)))]) rfl rfl rfl rfl ?_
              refine dr_goto rfl rfl ?_
              exact ihL330 ((i329 + 1)) h399 (by omega) (by omega) (by omega) hI400 hE409 hc407
        exact L330 _ (0) h319 (Nat.lt_succ_self _) (by omega) (by omega) hI320 hE328 hc327
      · skip
        refine di_const rfl ?_
        exact dr_iret (ty := .int) rfl rfl rfl (by decide) (by decide) ⟨hI307, hE316, 0, trivial, by omega, by omega, rfl⟩
set_option maxHeartbeats 4000000 in
set_option maxRecDepth 100000 in
/-- EarlyendsModel.sift -/
theorem s_X8_sift (l : Launch) (hl : l.stackTraces = false) {kc km : Int} {h : dm_H} (hI : Inv kc km h) {a1 : Int} (h1a : -2147483648 ≤ a1) (h1b : a1 ≤ 2147483647) {a2 : Int} (h2a : -2147483648 ≤ a2) (h2b : a2 ≤ 2147483647) {a3 : Int} (h3a : 0 ≤ a3) (h3b : a3 ≤ 1) : dm_M l 155 2 0 0 [.ref 26, dI (a1), dI (a2), dI (a3)] h (QS kc km h (RI (fun x => True)) []) := by
  refine dm_M_of dk_155 hl rfl (Nat.le_of_ble_eq_true rfl) ?_
  show dm_W (fun _ _ _ => True) (dm_P (QS kc km h (RI (fun x => True)) []) 0 0) l 155 2 0 0 0 [some (.ref 26), some (dI (a1)), some (dI (a2)), some (dI (a3)), none, none, none] [] h 0 0
  refine di_aload_n rfl rfl ?_
  refine dr_iload_n rfl rfl ?_
  refine dr_stat rfl rfl rfl rfl (s_X8_isNoBook l hl hI (a0 := a1) (by omega) (by omega)) (by decide) (by decide) (by decide) (Nat.le_of_ble_eq_true rfl) kNP (kIP (fun y1 y1f y1a y1b => ?_))
  have y1g : 0 ≤ y1 ∧ y1 ≤ 1 ∧ (y1 = 0 → 0 ≤ (a1) ∧ (a1) ≤ 2) := y1f
  refine di_if_ne rfl rfl (by omega) (by omega) (fun c2 => ?_) (fun c2 => ?_)
  · skip
    refine di_const rfl ?_
    refine dr_goto rfl rfl ?_
    refine di_const rfl ?_
    obtain ⟨th_3, ni_6, pb_9, lo_12, hi_15, hb_18, ls_21, re_24, he_27, c4, c5, c7, c8, c10, c11, c13, c14, c16, c17, c19, c20, c22, c23, c25, c26, c28, hc29⟩ := I_md hI
    have ho30 : he_27 = -1 ∨ (0 ≤ he_27 ∧ he_27 ≤ 9999 ∧ he_27 % 100 ≤ he_27 / 100) := c28
    obtain ⟨vs31, hc32, ha33⟩ := I_sz hI
    refine dr_virt rfl rfl rfl rfl hc29 (s_X8_start l hl hI (a1 := 1) (by omega) (by omega) (a2 := 1) (by omega) (by omega) (mth := th_3) (mni := ni_6) (mpb := pb_9) (mlo := lo_12) (mhi := hi_15) (mhb := hb_18) (mls := ls_21) (mre := re_24) (mhe := he_27) hc29 (by omega) (by omega) (by omega) (by omega) (by omega) (by omega) (by omega) (by omega) (by omega) (by omega) (by omega) (by omega) (by omega) (by omega) (by omega) (by omega) c28 (us := vs31) hc32 ha33) (by decide) (by decide) (by decide) (Nat.le_of_ble_eq_true rfl) kQMN (kQMI (fun y43 h34 hI35 hE36 fs9 hc38 hM9 us39 hu40 ha41 hU42 y43f y43a y43b => ?_))
    obtain ⟨th_37, th_37a, th_37b, rfl⟩ := hM9
    have hU42 : us39 = vs31 := hU42
    subst hU42
    have hE44 := hE36
    have y43g : 0 ≤ y43 ∧ y43 ≤ 1 ∧ (y43 = 0 → ((1) : Int) = 0) := y43f
    refine di_if_ne rfl rfl (by omega) (by omega) (fun c45 => ?_) (fun c45 => ?_)
    · skip
      refine di_const rfl ?_
      exact dr_iret (ty := .int) rfl rfl rfl (by decide) (by decide) ⟨hI35, hE44, 0, trivial, by omega, by omega, rfl⟩
    · skip
      refine di_aload_n rfl rfl ?_
      refine dr_iload_n rfl rfl ?_
      refine dr_iload_n rfl rfl ?_
      refine di_icmp_ne rfl rfl (by omega) (by omega) (by omega) (by omega) (fun c46 => ?_) (fun c46 => ?_)
      · skip
        refine di_const rfl ?_
        refine di_const rfl ?_
        refine dr_virt rfl rfl rfl rfl hc38 (s_X8_refuse l hl hI35 (a1 := 0) (by omega) (by omega) (a2 := 2) (by omega) (by omega) (mth := th_37) (mni := ni_6) (mpb := pb_9) (mlo := lo_12) (mhi := hi_15) (mhb := hb_18) (mls := ls_21) (mre := re_24) (mhe := he_27) hc38 (by omega) (by omega) (by omega) (by omega) (by omega) (by omega) (by omega) (by omega) (by omega) (by omega) (by omega) (by omega) (by omega) (by omega) (by omega) (by omega) c28 (us := us39) hu40 ha41) (by decide) (by decide) (by decide) (Nat.le_of_ble_eq_true rfl) kQMN (kQMI (fun y56 h47 hI48 hE49 fs9 hc51 hM9 us52 hu53 ha54 hU55 y56f y56a y56b => ?_))
        obtain ⟨th_50, th_50a, th_50b, rfl⟩ := hM9
        have hU55 : us52 = us39 := hU55
        subst hU55
        have hE57 := Ext_tr hE44 hE49
        have y56g : 0 ≤ y56 ∧ y56 ≤ 1 ∧ (y56 = 0 → ((0) : Int) = 0) := y56f
        refine di_if_eq rfl rfl (by omega) (by omega) (fun c58 => ?_) (fun c58 => ?_)
        · skip
          refine di_const rfl ?_
          refine di_istore (ls2 := [some (.ref 26), some (dI (a1)), some (dI (a2)), some (dI (a3)), some (dI (0)), none, none]) rfl rfl rfl ?_
          refine di_aload_n rfl rfl ?_
          refine dr_getf rfl hc51 rfl ?_
          refine dr_iload_n rfl rfl ?_
          refine di_iald rfl hu53 ha54 (by omega) (by omega) (fun x59 x59f x59a x59b x59v => ?_)
          have x59g : 0 ≤ x59 ∧ x59 ≤ 8 := x59f
          have x59w : cv us52 (a1) = x59 := cv_eq x59v x59a x59b
          refine di_const rfl ?_
          refine di_isub rfl ?_
          refine di_istore (ls2 := [some (.ref 26), some (dI (a1)), some (dI (a2)), some (dI (a3)), some (dI (0)), some (dI ((x59 - 1))), none]) rfl rfl rfl ?_
          have L62 : ∀ (n : Nat) (i60 : Int) (i61 : Int) (h63 : dm_H) (uv66 : List Value), (i61 + 1).toNat < n → 0 ≤ i60 → i60 ≤ 8 → -1 ≤ i61 → i61 ≤ 8 → i60 + i61 ≤ 7 → Inv kc km h63 → Ext h h63 → h63[35]? = some (20, uv66) → arr 3 okS uv66 → i61 < cv uv66 a1 → dm_W (fun _ _ _ => True) (dm_P (QS kc km h (RI (fun x => True)) []) 0 0) l 155 2 0 0 60 [some (.ref 26), some (dI (a1)), some (dI (a2)), some (dI (a3)), some (dI (i60)), some (dI (i61)), none] [] h63 0 0 := by
            intro n
            induction n with
            | zero => intro i60 i61 h63 uv66 hm; exact absurd hm (Nat.not_lt_zero _)
            | succ n ih =>
              intro i60 i61 h63 uv66 hm75 hb67 hb68 hb69 hb70 hx71 hI64 hE65 hc72 ha73 hx74
              have ihL62 := ih
              clear ih
              refine dr_iload rfl rfl ?_
              refine di_if_lt rfl rfl (by omega) (by omega) (fun c76 => ?_) (fun c76 => ?_)
              · skip
                refine dr_iload rfl rfl ?_
                exact dr_iret (ty := .int) rfl rfl rfl (by decide) (by decide) ⟨hI64, hE65, i60, trivial, by omega, by omega, rfl⟩
              · skip
                refine di_aload_n rfl rfl ?_
                refine dr_iload_n rfl rfl ?_
                refine di_aload_n rfl rfl ?_
                obtain ⟨th_77, ni_80, pb_83, lo_86, hi_89, hb_92, ls_95, re_98, he_101, c78, c79, c81, c82, c84, c85, c87, c88, c90, c91, c93, c94, c96, c97, c99, c100, c102, hc103⟩ := I_md hI64
                have ho104 : he_101 = -1 ∨ (0 ≤ he_101 ∧ he_101 ≤ 9999 ∧ he_101 % 100 ≤ he_101 / 100) := c102
                refine dr_getf rfl hc103 rfl ?_
                refine dr_iload_n rfl rfl ?_
                have hc105 := I_mcs hI64
                refine paaD (k0 := 28) rfl hc105 (by omega) (by omega) (fun r107 hr107 => ?_)
                have mr107 : isCR r107 := isCR_of hr107 (by omega) (by omega)
                refine dr_iload rfl rfl ?_
                obtain ⟨vs108, hc109, ha110⟩ := I_cr hI64 (p := r107) mr107
                refine di_iald rfl hc109 ha110 (by omega) (by omega) (fun x111 x111f x111a x111b x111v => ?_)
                have x111w : cv vs108 (i61) = x111 := cv_eq x111v x111a x111b
                have x111g : 0 ≤ x111 ∧ x111 ≤ 9999 ∧ x111 % 100 ≤ x111 / 100 := x111f
                refine dr_virt rfl rfl rfl rfl hc103 (s_X8_at l hl hI64 (a1 := a2) (by omega) (by omega) (a2 := x111) (by omega) (by omega) (us := uv66) hc72 ha73) (by decide) (by decide) (by decide) (Nat.le_of_ble_eq_true rfl) kNP (kIP (fun y112 y112f y112a y112b => ?_))
                have y112g : -1 ≤ y112 ∧ y112 ≤ 7 ∧ y112 < cv uv66 (a2) := y112f
                refine di_if_lt rfl rfl (by omega) (by omega) (fun c113 => ?_) (fun c113 => ?_)
                · skip
                  refine di_const rfl ?_
                  refine di_istore (ls2 := [some (.ref 26), some (dI (a1)), some (dI (a2)), some (dI (a3)), some (dI (i60)), some (dI (i61)), some (dI (0))]) rfl rfl rfl ?_
                  refine dr_iload rfl rfl ?_
                  refine dr_iload_n rfl rfl ?_
                  refine di_icmp_ne rfl rfl (by omega) (by omega) (by omega) (by omega) (fun c114 => ?_) (fun c114 => ?_)
                  · skip
                    refine di_aload_n rfl rfl ?_
                    refine dr_iload_n rfl rfl ?_
                    refine dr_iload rfl rfl ?_
                    refine dr_virt rfl rfl rfl rfl hc103 (s_X8_go l hl hI64 (a1 := a1) (by omega) (by omega) (a2 := i61) (by omega) (by omega) (mth := th_77) (mni := ni_80) (mpb := pb_83) (mlo := lo_86) (mhi := hi_89) (mhb := hb_92) (mls := ls_95) (mre := re_98) (mhe := he_101) hc103 (by omega) (by omega) (by omega) (by omega) (by omega) (by omega) (by omega) (by omega) (by omega) (by omega) (by omega) (by omega) (by omega) (by omega) (by omega) (by omega) c102 (us := uv66) hc72 ha73 (by omega)) (by decide) (by decide) (by decide) (Nat.le_of_ble_eq_true rfl) kQMN (kQMV (fun h115 hI116 hE117 fs9 hc119 hM9 us120 hu121 ha122 hU123 => ?_))
                    obtain ⟨ls_118, ls_118a, ls_118b, rfl⟩ := hM9
                    have hU123 : cv us120 (a1) = cv uv66 (a1) - 1 := hU123
                    have hE125 := Ext_tr hE65 hE117
                    refine di_iinc (ls2 := [some (.ref 26), some (dI (a1)), some (dI (a2)), some (dI (a3)), some (dI ((i60 + 1))), some (dI (i61)), some (dI (0))]) rfl rfl rfl rfl ?_
                    refine di_iinc (ls2 := [some (.ref 26), some (dI (a1)), some (dI (a2)), some (dI (a3)), some (dI ((i60 + 1))), some (dI ((i61 + (-1)))), some (dI (0))]) rfl rfl rfl rfl ?_
                    refine dr_goto rfl rfl ?_
                    refine dm_wk (ls2 := [some (.ref 26), some (dI (a1)), some (dI (a2)), some (dI (a3)), some (dI ((i60 + 1))), some (dI ((i61 + (-1)))), none]) ⟨Or.inr rfl, Or.inr rfl, Or.inr rfl, Or.inr rfl, Or.inr rfl, Or.inr rfl, Or.inl rfl, trivial⟩ ?_
                    exact ihL62 ((i60 + 1)) ((i61 + (-1))) h115 (us120) (by omega) (by omega) (by omega) (by omega) (by omega) (by omega) hI116 hE125  hu121 ha122 (by omega)
                  · skip
                    refine dr_goto rfl rfl ?_
                    refine di_iinc (ls2 := [some (.ref 26), some (dI (a1)), some (dI (a2)), some (dI (a3)), some (dI (i60)), some (dI ((i61 + (-1)))), some (dI (0))]) rfl rfl rfl rfl ?_
                    refine dr_goto rfl rfl ?_
                    refine dm_wk (ls2 := [some (.ref 26), some (dI (a1)), some (dI (a2)), some (dI (a3)), some (dI (i60)), some (dI ((i61 + (-1)))), none]) ⟨Or.inr rfl, Or.inr rfl, Or.inr rfl, Or.inr rfl, Or.inr rfl, Or.inr rfl, Or.inl rfl, trivial⟩ ?_
                    exact ihL62 (i60) ((i61 + (-1))) h63 (uv66) (by omega) (by omega) (by omega) (by omega) (by omega) (by omega) hI64 hE65  hc72 ha73 (by omega)
                · skip
                  refine di_const rfl ?_
                  refine dr_goto rfl rfl ?_
                  refine di_istore (ls2 := [some (.ref 26), some (dI (a1)), some (dI (a2)), some (dI (a3)), some (dI (i60)), some (dI (i61)), some (dI (1))]) rfl rfl rfl ?_
                  refine dr_iload rfl rfl ?_
                  refine dr_iload_n rfl rfl ?_
                  refine di_icmp_ne rfl rfl (by omega) (by omega) (by omega) (by omega) (fun c126 => ?_) (fun c126 => ?_)
                  · skip
                    refine di_aload_n rfl rfl ?_
                    refine dr_iload_n rfl rfl ?_
                    refine dr_iload rfl rfl ?_
                    refine dr_virt rfl rfl rfl rfl hc103 (s_X8_go l hl hI64 (a1 := a1) (by omega) (by omega) (a2 := i61) (by omega) (by omega) (mth := th_77) (mni := ni_80) (mpb := pb_83) (mlo := lo_86) (mhi := hi_89) (mhb := hb_92) (mls := ls_95) (mre := re_98) (mhe := he_101) hc103 (by omega) (by omega) (by omega) (by omega) (by omega) (by omega) (by omega) (by omega) (by omega) (by omega) (by omega) (by omega) (by omega) (by omega) (by omega) (by omega) c102 (us := uv66) hc72 ha73 (by omega)) (by decide) (by decide) (by decide) (Nat.le_of_ble_eq_true rfl) kQMN (kQMV (fun h127 hI128 hE129 fs9 hc131 hM9 us132 hu133 ha134 hU135 => ?_))
                    obtain ⟨ls_130, ls_130a, ls_130b, rfl⟩ := hM9
                    have hU135 : cv us132 (a1) = cv uv66 (a1) - 1 := hU135
                    have hE137 := Ext_tr hE65 hE129
                    refine di_iinc (ls2 := [some (.ref 26), some (dI (a1)), some (dI (a2)), some (dI (a3)), some (dI ((i60 + 1))), some (dI (i61)), some (dI (1))]) rfl rfl rfl rfl ?_
                    refine di_iinc (ls2 := [some (.ref 26), some (dI (a1)), some (dI (a2)), some (dI (a3)), some (dI ((i60 + 1))), some (dI ((i61 + (-1)))), some (dI (1))]) rfl rfl rfl rfl ?_
                    refine dr_goto rfl rfl ?_
                    refine dm_wk (ls2 := [some (.ref 26), some (dI (a1)), some (dI (a2)), some (dI (a3)), some (dI ((i60 + 1))), some (dI ((i61 + (-1)))), none]) ⟨Or.inr rfl, Or.inr rfl, Or.inr rfl, Or.inr rfl, Or.inr rfl, Or.inr rfl, Or.inl rfl, trivial⟩ ?_
                    exact ihL62 ((i60 + 1)) ((i61 + (-1))) h127 (us132) (by omega) (by omega) (by omega) (by omega) (by omega) (by omega) hI128 hE137  hu133 ha134 (by omega)
                  · skip
                    refine dr_goto rfl rfl ?_
                    refine di_iinc (ls2 := [some (.ref 26), some (dI (a1)), some (dI (a2)), some (dI (a3)), some (dI (i60)), some (dI ((i61 + (-1)))), some (dI (1))]) rfl rfl rfl rfl ?_
                    refine dr_goto rfl rfl ?_
                    refine dm_wk (ls2 := [some (.ref 26), some (dI (a1)), some (dI (a2)), some (dI (a3)), some (dI (i60)), some (dI ((i61 + (-1)))), none]) ⟨Or.inr rfl, Or.inr rfl, Or.inr rfl, Or.inr rfl, Or.inr rfl, Or.inr rfl, Or.inl rfl, trivial⟩ ?_
                    exact ihL62 (i60) ((i61 + (-1))) h63 (uv66) (by omega) (by omega) (by omega) (by omega) (by omega) (by omega) hI64 hE65  hc72 ha73 (by omega)
          exact L62 _ (0) ((x59 - 1)) h47 (us52) (Nat.lt_succ_self _) (by omega) (by omega) (by omega) (by omega) (by omega) hI48 hE57  hu53 ha54 (by omega)
        · skip
          refine di_const rfl ?_
          exact dr_iret (ty := .int) rfl rfl rfl (by decide) (by decide) ⟨hI48, hE57, 0, trivial, by omega, by omega, rfl⟩
      · skip
        refine di_const rfl ?_
        refine dr_goto rfl rfl ?_
        refine di_const rfl ?_
        refine dr_virt rfl rfl rfl rfl hc38 (s_X8_refuse l hl hI35 (a1 := 1) (by omega) (by omega) (a2 := 2) (by omega) (by omega) (mth := th_37) (mni := ni_6) (mpb := pb_9) (mlo := lo_12) (mhi := hi_15) (mhb := hb_18) (mls := ls_21) (mre := re_24) (mhe := he_27) hc38 (by omega) (by omega) (by omega) (by omega) (by omega) (by omega) (by omega) (by omega) (by omega) (by omega) (by omega) (by omega) (by omega) (by omega) (by omega) (by omega) c28 (us := us39) hu40 ha41) (by decide) (by decide) (by decide) (Nat.le_of_ble_eq_true rfl) kQMN (kQMI (fun y147 h138 hI139 hE140 fs9 hc142 hM9 us143 hu144 ha145 hU146 y147f y147a y147b => ?_))
        obtain ⟨th_141, th_141a, th_141b, rfl⟩ := hM9
        have hU146 : us143 = us39 := hU146
        subst hU146
        have hE148 := Ext_tr hE44 hE140
        have y147g : 0 ≤ y147 ∧ y147 ≤ 1 ∧ (y147 = 0 → ((1) : Int) = 0) := y147f
        refine di_if_eq rfl rfl (by omega) (by omega) (fun c149 => ?_) (fun c149 => ?_)
        · skip
          refine di_const rfl ?_
          refine di_istore (ls2 := [some (.ref 26), some (dI (a1)), some (dI (a2)), some (dI (a3)), some (dI (0)), none, none]) rfl rfl rfl ?_
          refine di_aload_n rfl rfl ?_
          refine dr_getf rfl hc142 rfl ?_
          refine dr_iload_n rfl rfl ?_
          refine di_iald rfl hu144 ha145 (by omega) (by omega) (fun x150 x150f x150a x150b x150v => ?_)
          have x150g : 0 ≤ x150 ∧ x150 ≤ 8 := x150f
          have x150w : cv us143 (a1) = x150 := cv_eq x150v x150a x150b
          refine di_const rfl ?_
          refine di_isub rfl ?_
          refine di_istore (ls2 := [some (.ref 26), some (dI (a1)), some (dI (a2)), some (dI (a3)), some (dI (0)), some (dI ((x150 - 1))), none]) rfl rfl rfl ?_
          have L153 : ∀ (n : Nat) (i151 : Int) (i152 : Int) (h154 : dm_H) (uv157 : List Value), (i152 + 1).toNat < n → 0 ≤ i151 → i151 ≤ 8 → -1 ≤ i152 → i152 ≤ 8 → i151 + i152 ≤ 7 → Inv kc km h154 → Ext h h154 → h154[35]? = some (20, uv157) → arr 3 okS uv157 → i152 < cv uv157 a1 → dm_W (fun _ _ _ => True) (dm_P (QS kc km h (RI (fun x => True)) []) 0 0) l 155 2 0 0 60 [some (.ref 26), some (dI (a1)), some (dI (a2)), some (dI (a3)), some (dI (i151)), some (dI (i152)), none] [] h154 0 0 := by
            intro n
            induction n with
            | zero => intro i151 i152 h154 uv157 hm; exact absurd hm (Nat.not_lt_zero _)
            | succ n ih =>
              intro i151 i152 h154 uv157 hm166 hb158 hb159 hb160 hb161 hx162 hI155 hE156 hc163 ha164 hx165
              have ihL153 := ih
              clear ih
              refine dr_iload rfl rfl ?_
              refine di_if_lt rfl rfl (by omega) (by omega) (fun c167 => ?_) (fun c167 => ?_)
              · skip
                refine dr_iload rfl rfl ?_
                exact dr_iret (ty := .int) rfl rfl rfl (by decide) (by decide) ⟨hI155, hE156, i151, trivial, by omega, by omega, rfl⟩
              · skip
                refine di_aload_n rfl rfl ?_
                refine dr_iload_n rfl rfl ?_
                refine di_aload_n rfl rfl ?_
                obtain ⟨th_168, ni_171, pb_174, lo_177, hi_180, hb_183, ls_186, re_189, he_192, c169, c170, c172, c173, c175, c176, c178, c179, c181, c182, c184, c185, c187, c188, c190, c191, c193, hc194⟩ := I_md hI155
                have ho195 : he_192 = -1 ∨ (0 ≤ he_192 ∧ he_192 ≤ 9999 ∧ he_192 % 100 ≤ he_192 / 100) := c193
                refine dr_getf rfl hc194 rfl ?_
                refine dr_iload_n rfl rfl ?_
                have hc196 := I_mcs hI155
                refine paaD (k0 := 28) rfl hc196 (by omega) (by omega) (fun r198 hr198 => ?_)
                have mr198 : isCR r198 := isCR_of hr198 (by omega) (by omega)
                refine dr_iload rfl rfl ?_
                obtain ⟨vs199, hc200, ha201⟩ := I_cr hI155 (p := r198) mr198
                refine di_iald rfl hc200 ha201 (by omega) (by omega) (fun x202 x202f x202a x202b x202v => ?_)
                have x202w : cv vs199 (i152) = x202 := cv_eq x202v x202a x202b
                have x202g : 0 ≤ x202 ∧ x202 ≤ 9999 ∧ x202 % 100 ≤ x202 / 100 := x202f
                refine dr_virt rfl rfl rfl rfl hc194 (s_X8_at l hl hI155 (a1 := a2) (by omega) (by omega) (a2 := x202) (by omega) (by omega) (us := uv157) hc163 ha164) (by decide) (by decide) (by decide) (Nat.le_of_ble_eq_true rfl) kNP (kIP (fun y203 y203f y203a y203b => ?_))
                have y203g : -1 ≤ y203 ∧ y203 ≤ 7 ∧ y203 < cv uv157 (a2) := y203f
                refine di_if_lt rfl rfl (by omega) (by omega) (fun c204 => ?_) (fun c204 => ?_)
                · skip
                  refine di_const rfl ?_
                  refine di_istore (ls2 := [some (.ref 26), some (dI (a1)), some (dI (a2)), some (dI (a3)), some (dI (i151)), some (dI (i152)), some (dI (0))]) rfl rfl rfl ?_
                  refine dr_iload rfl rfl ?_
                  refine dr_iload_n rfl rfl ?_
                  refine di_icmp_ne rfl rfl (by omega) (by omega) (by omega) (by omega) (fun c205 => ?_) (fun c205 => ?_)
                  · skip
                    refine di_aload_n rfl rfl ?_
                    refine dr_iload_n rfl rfl ?_
                    refine dr_iload rfl rfl ?_
                    refine dr_virt rfl rfl rfl rfl hc194 (s_X8_go l hl hI155 (a1 := a1) (by omega) (by omega) (a2 := i152) (by omega) (by omega) (mth := th_168) (mni := ni_171) (mpb := pb_174) (mlo := lo_177) (mhi := hi_180) (mhb := hb_183) (mls := ls_186) (mre := re_189) (mhe := he_192) hc194 (by omega) (by omega) (by omega) (by omega) (by omega) (by omega) (by omega) (by omega) (by omega) (by omega) (by omega) (by omega) (by omega) (by omega) (by omega) (by omega) c193 (us := uv157) hc163 ha164 (by omega)) (by decide) (by decide) (by decide) (Nat.le_of_ble_eq_true rfl) kQMN (kQMV (fun h206 hI207 hE208 fs9 hc210 hM9 us211 hu212 ha213 hU214 => ?_))
                    obtain ⟨ls_209, ls_209a, ls_209b, rfl⟩ := hM9
                    have hU214 : cv us211 (a1) = cv uv157 (a1) - 1 := hU214
                    have hE216 := Ext_tr hE156 hE208
                    refine di_iinc (ls2 := [some (.ref 26), some (dI (a1)), some (dI (a2)), some (dI (a3)), some (dI ((i151 + 1))), some (dI (i152)), some (dI (0))]) rfl rfl rfl rfl ?_
                    refine di_iinc (ls2 := [some (.ref 26), some (dI (a1)), some (dI (a2)), some (dI (a3)), some (dI ((i151 + 1))), some (dI ((i152 + (-1)))), some (dI (0))]) rfl rfl rfl rfl ?_
                    refine dr_goto rfl rfl ?_
                    refine dm_wk (ls2 := [some (.ref 26), some (dI (a1)), some (dI (a2)), some (dI (a3)), some (dI ((i151 + 1))), some (dI ((i152 + (-1)))), none]) ⟨Or.inr rfl, Or.inr rfl, Or.inr rfl, Or.inr rfl, Or.inr rfl, Or.inr rfl, Or.inl rfl, trivial⟩ ?_
                    exact ihL153 ((i151 + 1)) ((i152 + (-1))) h206 (us211) (by omega) (by omega) (by omega) (by omega) (by omega) (by omega) hI207 hE216  hu212 ha213 (by omega)
                  · skip
                    refine dr_goto rfl rfl ?_
                    refine di_iinc (ls2 := [some (.ref 26), some (dI (a1)), some (dI (a2)), some (dI (a3)), some (dI (i151)), some (dI ((i152 + (-1)))), some (dI (0))]) rfl rfl rfl rfl ?_
                    refine dr_goto rfl rfl ?_
                    refine dm_wk (ls2 := [some (.ref 26), some (dI (a1)), some (dI (a2)), some (dI (a3)), some (dI (i151)), some (dI ((i152 + (-1)))), none]) ⟨Or.inr rfl, Or.inr rfl, Or.inr rfl, Or.inr rfl, Or.inr rfl, Or.inr rfl, Or.inl rfl, trivial⟩ ?_
                    exact ihL153 (i151) ((i152 + (-1))) h154 (uv157) (by omega) (by omega) (by omega) (by omega) (by omega) (by omega) hI155 hE156  hc163 ha164 (by omega)
                · skip
                  refine di_const rfl ?_
                  refine dr_goto rfl rfl ?_
                  refine di_istore (ls2 := [some (.ref 26), some (dI (a1)), some (dI (a2)), some (dI (a3)), some (dI (i151)), some (dI (i152)), some (dI (1))]) rfl rfl rfl ?_
                  refine dr_iload rfl rfl ?_
                  refine dr_iload_n rfl rfl ?_
                  refine di_icmp_ne rfl rfl (by omega) (by omega) (by omega) (by omega) (fun c217 => ?_) (fun c217 => ?_)
                  · skip
                    refine di_aload_n rfl rfl ?_
                    refine dr_iload_n rfl rfl ?_
                    refine dr_iload rfl rfl ?_
                    refine dr_virt rfl rfl rfl rfl hc194 (s_X8_go l hl hI155 (a1 := a1) (by omega) (by omega) (a2 := i152) (by omega) (by omega) (mth := th_168) (mni := ni_171) (mpb := pb_174) (mlo := lo_177) (mhi := hi_180) (mhb := hb_183) (mls := ls_186) (mre := re_189) (mhe := he_192) hc194 (by omega) (by omega) (by omega) (by omega) (by omega) (by omega) (by omega) (by omega) (by omega) (by omega) (by omega) (by omega) (by omega) (by omega) (by omega) (by omega) c193 (us := uv157) hc163 ha164 (by omega)) (by decide) (by decide) (by decide) (Nat.le_of_ble_eq_true rfl) kQMN (kQMV (fun h218 hI219 hE220 fs9 hc222 hM9 us223 hu224 ha225 hU226 => ?_))
                    obtain ⟨ls_221, ls_221a, ls_221b, rfl⟩ := hM9
                    have hU226 : cv us223 (a1) = cv uv157 (a1) - 1 := hU226
                    have hE228 := Ext_tr hE156 hE220
                    refine di_iinc (ls2 := [some (.ref 26), some (dI (a1)), some (dI (a2)), some (dI (a3)), some (dI ((i151 + 1))), some (dI (i152)), some (dI (1))]) rfl rfl rfl rfl ?_
                    refine di_iinc (ls2 := [some (.ref 26), some (dI (a1)), some (dI (a2)), some (dI (a3)), some (dI ((i151 + 1))), some (dI ((i152 + (-1)))), some (dI (1))]) rfl rfl rfl rfl ?_
                    refine dr_goto rfl rfl ?_
                    refine dm_wk (ls2 := [some (.ref 26), some (dI (a1)), some (dI (a2)), some (dI (a3)), some (dI ((i151 + 1))), some (dI ((i152 + (-1)))), none]) ⟨Or.inr rfl, Or.inr rfl, Or.inr rfl, Or.inr rfl, Or.inr rfl, Or.inr rfl, Or.inl rfl, trivial⟩ ?_
                    exact ihL153 ((i151 + 1)) ((i152 + (-1))) h218 (us223) (by omega) (by omega) (by omega) (by omega) (by omega) (by omega) hI219 hE228  hu224 ha225 (by omega)
                  · skip
                    refine dr_goto rfl rfl ?_
                    refine di_iinc (ls2 := [some (.ref 26), some (dI (a1)), some (dI (a2)), some (dI (a3)), some (dI (i151)), some (dI ((i152 + (-1)))), some (dI (1))]) rfl rfl rfl rfl ?_
                    refine dr_goto rfl rfl ?_
                    refine dm_wk (ls2 := [some (.ref 26), some (dI (a1)), some (dI (a2)), some (dI (a3)), some (dI (i151)), some (dI ((i152 + (-1)))), none]) ⟨Or.inr rfl, Or.inr rfl, Or.inr rfl, Or.inr rfl, Or.inr rfl, Or.inr rfl, Or.inl rfl, trivial⟩ ?_
                    exact ihL153 (i151) ((i152 + (-1))) h154 (uv157) (by omega) (by omega) (by omega) (by omega) (by omega) (by omega) hI155 hE156  hc163 ha164 (by omega)
          exact L153 _ (0) ((x150 - 1)) h138 (us143) (Nat.lt_succ_self _) (by omega) (by omega) (by omega) (by omega) (by omega) hI139 hE148  hu144 ha145 (by omega)
        · skip
          refine di_const rfl ?_
          exact dr_iret (ty := .int) rfl rfl rfl (by decide) (by decide) ⟨hI139, hE148, 0, trivial, by omega, by omega, rfl⟩
  · skip
    refine dr_iload_n rfl rfl ?_
    refine dr_stat rfl rfl rfl rfl (s_X8_isNoBook l hl hI (a0 := a2) (by omega) (by omega)) (by decide) (by decide) (by decide) (Nat.le_of_ble_eq_true rfl) kNP (kIP (fun y229 y229f y229a y229b => ?_))
    have y229g : 0 ≤ y229 ∧ y229 ≤ 1 ∧ (y229 = 0 → 0 ≤ (a2) ∧ (a2) ≤ 2) := y229f
    refine di_if_eq rfl rfl (by omega) (by omega) (fun c230 => ?_) (fun c230 => ?_)
    · skip
      refine di_const rfl ?_
      refine di_const rfl ?_
      obtain ⟨th_231, ni_234, pb_237, lo_240, hi_243, hb_246, ls_249, re_252, he_255, c232, c233, c235, c236, c238, c239, c241, c242, c244, c245, c247, c248, c250, c251, c253, c254, c256, hc257⟩ := I_md hI
      have ho258 : he_255 = -1 ∨ (0 ≤ he_255 ∧ he_255 ≤ 9999 ∧ he_255 % 100 ≤ he_255 / 100) := c256
      obtain ⟨vs259, hc260, ha261⟩ := I_sz hI
      refine dr_virt rfl rfl rfl rfl hc257 (s_X8_start l hl hI (a1 := 0) (by omega) (by omega) (a2 := 1) (by omega) (by omega) (mth := th_231) (mni := ni_234) (mpb := pb_237) (mlo := lo_240) (mhi := hi_243) (mhb := hb_246) (mls := ls_249) (mre := re_252) (mhe := he_255) hc257 (by omega) (by omega) (by omega) (by omega) (by omega) (by omega) (by omega) (by omega) (by omega) (by omega) (by omega) (by omega) (by omega) (by omega) (by omega) (by omega) c256 (us := vs259) hc260 ha261) (by decide) (by decide) (by decide) (Nat.le_of_ble_eq_true rfl) kQMN (kQMI (fun y271 h262 hI263 hE264 fs9 hc266 hM9 us267 hu268 ha269 hU270 y271f y271a y271b => ?_))
      obtain ⟨th_265, th_265a, th_265b, rfl⟩ := hM9
      have hU270 : us267 = vs259 := hU270
      subst hU270
      have hE272 := hE264
      have y271g : 0 ≤ y271 ∧ y271 ≤ 1 ∧ (y271 = 0 → ((0) : Int) = 0) := y271f
      refine di_if_ne rfl rfl (by omega) (by omega) (fun c273 => ?_) (fun c273 => ?_)
      · skip
        refine di_const rfl ?_
        exact dr_iret (ty := .int) rfl rfl rfl (by decide) (by decide) ⟨hI263, hE272, 0, trivial, by omega, by omega, rfl⟩
      · skip
        refine di_aload_n rfl rfl ?_
        refine dr_iload_n rfl rfl ?_
        refine dr_iload_n rfl rfl ?_
        refine di_icmp_ne rfl rfl (by omega) (by omega) (by omega) (by omega) (fun c274 => ?_) (fun c274 => ?_)
        · skip
          refine di_const rfl ?_
          refine di_const rfl ?_
          refine dr_virt rfl rfl rfl rfl hc266 (s_X8_refuse l hl hI263 (a1 := 0) (by omega) (by omega) (a2 := 2) (by omega) (by omega) (mth := th_265) (mni := ni_234) (mpb := pb_237) (mlo := lo_240) (mhi := hi_243) (mhb := hb_246) (mls := ls_249) (mre := re_252) (mhe := he_255) hc266 (by omega) (by omega) (by omega) (by omega) (by omega) (by omega) (by omega) (by omega) (by omega) (by omega) (by omega) (by omega) (by omega) (by omega) (by omega) (by omega) c256 (us := us267) hu268 ha269) (by decide) (by decide) (by decide) (Nat.le_of_ble_eq_true rfl) kQMN (kQMI (fun y284 h275 hI276 hE277 fs9 hc279 hM9 us280 hu281 ha282 hU283 y284f y284a y284b => ?_))
          obtain ⟨th_278, th_278a, th_278b, rfl⟩ := hM9
          have hU283 : us280 = us267 := hU283
          subst hU283
          have hE285 := Ext_tr hE272 hE277
          have y284g : 0 ≤ y284 ∧ y284 ≤ 1 ∧ (y284 = 0 → ((0) : Int) = 0) := y284f
          refine di_if_eq rfl rfl (by omega) (by omega) (fun c286 => ?_) (fun c286 => ?_)
          · skip
            refine di_const rfl ?_
            refine di_istore (ls2 := [some (.ref 26), some (dI (a1)), some (dI (a2)), some (dI (a3)), some (dI (0)), none, none]) rfl rfl rfl ?_
            refine di_aload_n rfl rfl ?_
            refine dr_getf rfl hc279 rfl ?_
            refine dr_iload_n rfl rfl ?_
            refine di_iald rfl hu281 ha282 (by omega) (by omega) (fun x287 x287f x287a x287b x287v => ?_)
            have x287g : 0 ≤ x287 ∧ x287 ≤ 8 := x287f
            have x287w : cv us280 (a1) = x287 := cv_eq x287v x287a x287b
            refine di_const rfl ?_
            refine di_isub rfl ?_
            refine di_istore (ls2 := [some (.ref 26), some (dI (a1)), some (dI (a2)), some (dI (a3)), some (dI (0)), some (dI ((x287 - 1))), none]) rfl rfl rfl ?_
            have L290 : ∀ (n : Nat) (i288 : Int) (i289 : Int) (h291 : dm_H) (uv294 : List Value), (i289 + 1).toNat < n → 0 ≤ i288 → i288 ≤ 8 → -1 ≤ i289 → i289 ≤ 8 → i288 + i289 ≤ 7 → Inv kc km h291 → Ext h h291 → h291[35]? = some (20, uv294) → arr 3 okS uv294 → i289 < cv uv294 a1 → dm_W (fun _ _ _ => True) (dm_P (QS kc km h (RI (fun x => True)) []) 0 0) l 155 2 0 0 60 [some (.ref 26), some (dI (a1)), some (dI (a2)), some (dI (a3)), some (dI (i288)), some (dI (i289)), none] [] h291 0 0 := by
              intro n
              induction n with
              | zero => intro i288 i289 h291 uv294 hm; exact absurd hm (Nat.not_lt_zero _)
              | succ n ih =>
                intro i288 i289 h291 uv294 hm303 hb295 hb296 hb297 hb298 hx299 hI292 hE293 hc300 ha301 hx302
                have ihL290 := ih
                clear ih
                refine dr_iload rfl rfl ?_
                refine di_if_lt rfl rfl (by omega) (by omega) (fun c304 => ?_) (fun c304 => ?_)
                · skip
                  refine dr_iload rfl rfl ?_
                  exact dr_iret (ty := .int) rfl rfl rfl (by decide) (by decide) ⟨hI292, hE293, i288, trivial, by omega, by omega, rfl⟩
                · skip
                  refine di_aload_n rfl rfl ?_
                  refine dr_iload_n rfl rfl ?_
                  refine di_aload_n rfl rfl ?_
                  obtain ⟨th_305, ni_308, pb_311, lo_314, hi_317, hb_320, ls_323, re_326, he_329, c306, c307, c309, c310, c312, c313, c315, c316, c318, c319, c321, c322, c324, c325, c327, c328, c330, hc331⟩ := I_md hI292
                  have ho332 : he_329 = -1 ∨ (0 ≤ he_329 ∧ he_329 ≤ 9999 ∧ he_329 % 100 ≤ he_329 / 100) := c330
                  refine dr_getf rfl hc331 rfl ?_
                  refine dr_iload_n rfl rfl ?_
                  have hc333 := I_mcs hI292
                  refine paaD (k0 := 28) rfl hc333 (by omega) (by omega) (fun r335 hr335 => ?_)
                  have mr335 : isCR r335 := isCR_of hr335 (by omega) (by omega)
                  refine dr_iload rfl rfl ?_
                  obtain ⟨vs336, hc337, ha338⟩ := I_cr hI292 (p := r335) mr335
                  refine di_iald rfl hc337 ha338 (by omega) (by omega) (fun x339 x339f x339a x339b x339v => ?_)
                  have x339w : cv vs336 (i289) = x339 := cv_eq x339v x339a x339b
                  have x339g : 0 ≤ x339 ∧ x339 ≤ 9999 ∧ x339 % 100 ≤ x339 / 100 := x339f
                  refine dr_virt rfl rfl rfl rfl hc331 (s_X8_at l hl hI292 (a1 := a2) (by omega) (by omega) (a2 := x339) (by omega) (by omega) (us := uv294) hc300 ha301) (by decide) (by decide) (by decide) (Nat.le_of_ble_eq_true rfl) kNP (kIP (fun y340 y340f y340a y340b => ?_))
                  have y340g : -1 ≤ y340 ∧ y340 ≤ 7 ∧ y340 < cv uv294 (a2) := y340f
                  refine di_if_lt rfl rfl (by omega) (by omega) (fun c341 => ?_) (fun c341 => ?_)
                  · skip
                    refine di_const rfl ?_
                    refine di_istore (ls2 := [some (.ref 26), some (dI (a1)), some (dI (a2)), some (dI (a3)), some (dI (i288)), some (dI (i289)), some (dI (0))]) rfl rfl rfl ?_
                    refine dr_iload rfl rfl ?_
                    refine dr_iload_n rfl rfl ?_
                    refine di_icmp_ne rfl rfl (by omega) (by omega) (by omega) (by omega) (fun c342 => ?_) (fun c342 => ?_)
                    · skip
                      refine di_aload_n rfl rfl ?_
                      refine dr_iload_n rfl rfl ?_
                      refine dr_iload rfl rfl ?_
                      refine dr_virt rfl rfl rfl rfl hc331 (s_X8_go l hl hI292 (a1 := a1) (by omega) (by omega) (a2 := i289) (by omega) (by omega) (mth := th_305) (mni := ni_308) (mpb := pb_311) (mlo := lo_314) (mhi := hi_317) (mhb := hb_320) (mls := ls_323) (mre := re_326) (mhe := he_329) hc331 (by omega) (by omega) (by omega) (by omega) (by omega) (by omega) (by omega) (by omega) (by omega) (by omega) (by omega) (by omega) (by omega) (by omega) (by omega) (by omega) c330 (us := uv294) hc300 ha301 (by omega)) (by decide) (by decide) (by decide) (Nat.le_of_ble_eq_true rfl) kQMN (kQMV (fun h343 hI344 hE345 fs9 hc347 hM9 us348 hu349 ha350 hU351 => ?_))
                      obtain ⟨ls_346, ls_346a, ls_346b, rfl⟩ := hM9
                      have hU351 : cv us348 (a1) = cv uv294 (a1) - 1 := hU351
                      have hE353 := Ext_tr hE293 hE345
                      refine di_iinc (ls2 := [some (.ref 26), some (dI (a1)), some (dI (a2)), some (dI (a3)), some (dI ((i288 + 1))), some (dI (i289)), some (dI (0))]) rfl rfl rfl rfl ?_
                      refine di_iinc (ls2 := [some (.ref 26), some (dI (a1)), some (dI (a2)), some (dI (a3)), some (dI ((i288 + 1))), some (dI ((i289 + (-1)))), some (dI (0))]) rfl rfl rfl rfl ?_
                      refine dr_goto rfl rfl ?_
                      refine dm_wk (ls2 := [some (.ref 26), some (dI (a1)), some (dI (a2)), some (dI (a3)), some (dI ((i288 + 1))), some (dI ((i289 + (-1)))), none]) ⟨Or.inr rfl, Or.inr rfl, Or.inr rfl, Or.inr rfl, Or.inr rfl, Or.inr rfl, Or.inl rfl, trivial⟩ ?_
                      exact ihL290 ((i288 + 1)) ((i289 + (-1))) h343 (us348) (by omega) (by omega) (by omega) (by omega) (by omega) (by omega) hI344 hE353  hu349 ha350 (by omega)
                    · skip
                      refine dr_goto rfl rfl ?_
                      refine di_iinc (ls2 := [some (.ref 26), some (dI (a1)), some (dI (a2)), some (dI (a3)), some (dI (i288)), some (dI ((i289 + (-1)))), some (dI (0))]) rfl rfl rfl rfl ?_
                      refine dr_goto rfl rfl ?_
                      refine dm_wk (ls2 := [some (.ref 26), some (dI (a1)), some (dI (a2)), some (dI (a3)), some (dI (i288)), some (dI ((i289 + (-1)))), none]) ⟨Or.inr rfl, Or.inr rfl, Or.inr rfl, Or.inr rfl, Or.inr rfl, Or.inr rfl, Or.inl rfl, trivial⟩ ?_
                      exact ihL290 (i288) ((i289 + (-1))) h291 (uv294) (by omega) (by omega) (by omega) (by omega) (by omega) (by omega) hI292 hE293  hc300 ha301 (by omega)
                  · skip
                    refine di_const rfl ?_
                    refine dr_goto rfl rfl ?_
                    refine di_istore (ls2 := [some (.ref 26), some (dI (a1)), some (dI (a2)), some (dI (a3)), some (dI (i288)), some (dI (i289)), some (dI (1))]) rfl rfl rfl ?_
                    refine dr_iload rfl rfl ?_
                    refine dr_iload_n rfl rfl ?_
                    refine di_icmp_ne rfl rfl (by omega) (by omega) (by omega) (by omega) (fun c354 => ?_) (fun c354 => ?_)
                    · skip
                      refine di_aload_n rfl rfl ?_
                      refine dr_iload_n rfl rfl ?_
                      refine dr_iload rfl rfl ?_
                      refine dr_virt rfl rfl rfl rfl hc331 (s_X8_go l hl hI292 (a1 := a1) (by omega) (by omega) (a2 := i289) (by omega) (by omega) (mth := th_305) (mni := ni_308) (mpb := pb_311) (mlo := lo_314) (mhi := hi_317) (mhb := hb_320) (mls := ls_323) (mre := re_326) (mhe := he_329) hc331 (by omega) (by omega) (by omega) (by omega) (by omega) (by omega) (by omega) (by omega) (by omega) (by omega) (by omega) (by omega) (by omega) (by omega) (by omega) (by omega) c330 (us := uv294) hc300 ha301 (by omega)) (by decide) (by decide) (by decide) (Nat.le_of_ble_eq_true rfl) kQMN (kQMV (fun h355 hI356 hE357 fs9 hc359 hM9 us360 hu361 ha362 hU363 => ?_))
                      obtain ⟨ls_358, ls_358a, ls_358b, rfl⟩ := hM9
                      have hU363 : cv us360 (a1) = cv uv294 (a1) - 1 := hU363
                      have hE365 := Ext_tr hE293 hE357
                      refine di_iinc (ls2 := [some (.ref 26), some (dI (a1)), some (dI (a2)), some (dI (a3)), some (dI ((i288 + 1))), some (dI (i289)), some (dI (1))]) rfl rfl rfl rfl ?_
                      refine di_iinc (ls2 := [some (.ref 26), some (dI (a1)), some (dI (a2)), some (dI (a3)), some (dI ((i288 + 1))), some (dI ((i289 + (-1)))), some (dI (1))]) rfl rfl rfl rfl ?_
                      refine dr_goto rfl rfl ?_
                      refine dm_wk (ls2 := [some (.ref 26), some (dI (a1)), some (dI (a2)), some (dI (a3)), some (dI ((i288 + 1))), some (dI ((i289 + (-1)))), none]) ⟨Or.inr rfl, Or.inr rfl, Or.inr rfl, Or.inr rfl, Or.inr rfl, Or.inr rfl, Or.inl rfl, trivial⟩ ?_
                      exact ihL290 ((i288 + 1)) ((i289 + (-1))) h355 (us360) (by omega) (by omega) (by omega) (by omega) (by omega) (by omega) hI356 hE365  hu361 ha362 (by omega)
                    · skip
                      refine dr_goto rfl rfl ?_
                      refine di_iinc (ls2 := [some (.ref 26), some (dI (a1)), some (dI (a2)), some (dI (a3)), some (dI (i288)), some (dI ((i289 + (-1)))), some (dI (1))]) rfl rfl rfl rfl ?_
                      refine dr_goto rfl rfl ?_
                      refine dm_wk (ls2 := [some (.ref 26), some (dI (a1)), some (dI (a2)), some (dI (a3)), some (dI (i288)), some (dI ((i289 + (-1)))), none]) ⟨Or.inr rfl, Or.inr rfl, Or.inr rfl, Or.inr rfl, Or.inr rfl, Or.inr rfl, Or.inl rfl, trivial⟩ ?_
                      exact ihL290 (i288) ((i289 + (-1))) h291 (uv294) (by omega) (by omega) (by omega) (by omega) (by omega) (by omega) hI292 hE293  hc300 ha301 (by omega)
            exact L290 _ (0) ((x287 - 1)) h275 (us280) (Nat.lt_succ_self _) (by omega) (by omega) (by omega) (by omega) (by omega) hI276 hE285  hu281 ha282 (by omega)
          · skip
            refine di_const rfl ?_
            exact dr_iret (ty := .int) rfl rfl rfl (by decide) (by decide) ⟨hI276, hE285, 0, trivial, by omega, by omega, rfl⟩
        · skip
          refine di_const rfl ?_
          refine dr_goto rfl rfl ?_
          refine di_const rfl ?_
          refine dr_virt rfl rfl rfl rfl hc266 (s_X8_refuse l hl hI263 (a1 := 1) (by omega) (by omega) (a2 := 2) (by omega) (by omega) (mth := th_265) (mni := ni_234) (mpb := pb_237) (mlo := lo_240) (mhi := hi_243) (mhb := hb_246) (mls := ls_249) (mre := re_252) (mhe := he_255) hc266 (by omega) (by omega) (by omega) (by omega) (by omega) (by omega) (by omega) (by omega) (by omega) (by omega) (by omega) (by omega) (by omega) (by omega) (by omega) (by omega) c256 (us := us267) hu268 ha269) (by decide) (by decide) (by decide) (Nat.le_of_ble_eq_true rfl) kQMN (kQMI (fun y375 h366 hI367 hE368 fs9 hc370 hM9 us371 hu372 ha373 hU374 y375f y375a y375b => ?_))
          obtain ⟨th_369, th_369a, th_369b, rfl⟩ := hM9
          have hU374 : us371 = us267 := hU374
          subst hU374
          have hE376 := Ext_tr hE272 hE368
          have y375g : 0 ≤ y375 ∧ y375 ≤ 1 ∧ (y375 = 0 → ((1) : Int) = 0) := y375f
          refine di_if_eq rfl rfl (by omega) (by omega) (fun c377 => ?_) (fun c377 => ?_)
          · skip
            refine di_const rfl ?_
            refine di_istore (ls2 := [some (.ref 26), some (dI (a1)), some (dI (a2)), some (dI (a3)), some (dI (0)), none, none]) rfl rfl rfl ?_
            refine di_aload_n rfl rfl ?_
            refine dr_getf rfl hc370 rfl ?_
            refine dr_iload_n rfl rfl ?_
            refine di_iald rfl hu372 ha373 (by omega) (by omega) (fun x378 x378f x378a x378b x378v => ?_)
            have x378g : 0 ≤ x378 ∧ x378 ≤ 8 := x378f
            have x378w : cv us371 (a1) = x378 := cv_eq x378v x378a x378b
            refine di_const rfl ?_
            refine di_isub rfl ?_
            refine di_istore (ls2 := [some (.ref 26), some (dI (a1)), some (dI (a2)), some (dI (a3)), some (dI (0)), some (dI ((x378 - 1))), none]) rfl rfl rfl ?_
            have L381 : ∀ (n : Nat) (i379 : Int) (i380 : Int) (h382 : dm_H) (uv385 : List Value), (i380 + 1).toNat < n → 0 ≤ i379 → i379 ≤ 8 → -1 ≤ i380 → i380 ≤ 8 → i379 + i380 ≤ 7 → Inv kc km h382 → Ext h h382 → h382[35]? = some (20, uv385) → arr 3 okS uv385 → i380 < cv uv385 a1 → dm_W (fun _ _ _ => True) (dm_P (QS kc km h (RI (fun x => True)) []) 0 0) l 155 2 0 0 60 [some (.ref 26), some (dI (a1)), some (dI (a2)), some (dI (a3)), some (dI (i379)), some (dI (i380)), none] [] h382 0 0 := by
              intro n
              induction n with
              | zero => intro i379 i380 h382 uv385 hm; exact absurd hm (Nat.not_lt_zero _)
              | succ n ih =>
                intro i379 i380 h382 uv385 hm394 hb386 hb387 hb388 hb389 hx390 hI383 hE384 hc391 ha392 hx393
                have ihL381 := ih
                clear ih
                refine dr_iload rfl rfl ?_
                refine di_if_lt rfl rfl (by omega) (by omega) (fun c395 => ?_) (fun c395 => ?_)
                · skip
                  refine dr_iload rfl rfl ?_
                  exact dr_iret (ty := .int) rfl rfl rfl (by decide) (by decide) ⟨hI383, hE384, i379, trivial, by omega, by omega, rfl⟩
                · skip
                  refine di_aload_n rfl rfl ?_
                  refine dr_iload_n rfl rfl ?_
                  refine di_aload_n rfl rfl ?_
                  obtain ⟨th_396, ni_399, pb_402, lo_405, hi_408, hb_411, ls_414, re_417, he_420, c397, c398, c400, c401, c403, c404, c406, c407, c409, c410, c412, c413, c415, c416, c418, c419, c421, hc422⟩ := I_md hI383
                  have ho423 : he_420 = -1 ∨ (0 ≤ he_420 ∧ he_420 ≤ 9999 ∧ he_420 % 100 ≤ he_420 / 100) := c421
                  refine dr_getf rfl hc422 rfl ?_
                  refine dr_iload_n rfl rfl ?_
                  have hc424 := I_mcs hI383
                  refine paaD (k0 := 28) rfl hc424 (by omega) (by omega) (fun r426 hr426 => ?_)
                  have mr426 : isCR r426 := isCR_of hr426 (by omega) (by omega)
                  refine dr_iload rfl rfl ?_
                  obtain ⟨vs427, hc428, ha429⟩ := I_cr hI383 (p := r426) mr426
                  refine di_iald rfl hc428 ha429 (by omega) (by omega) (fun x430 x430f x430a x430b x430v => ?_)
                  have x430w : cv vs427 (i380) = x430 := cv_eq x430v x430a x430b
                  have x430g : 0 ≤ x430 ∧ x430 ≤ 9999 ∧ x430 % 100 ≤ x430 / 100 := x430f
                  refine dr_virt rfl rfl rfl rfl hc422 (s_X8_at l hl hI383 (a1 := a2) (by omega) (by omega) (a2 := x430) (by omega) (by omega) (us := uv385) hc391 ha392) (by decide) (by decide) (by decide) (Nat.le_of_ble_eq_true rfl) kNP (kIP (fun y431 y431f y431a y431b => ?_))
                  have y431g : -1 ≤ y431 ∧ y431 ≤ 7 ∧ y431 < cv uv385 (a2) := y431f
                  refine di_if_lt rfl rfl (by omega) (by omega) (fun c432 => ?_) (fun c432 => ?_)
                  · skip
                    refine di_const rfl ?_
                    refine di_istore (ls2 := [some (.ref 26), some (dI (a1)), some (dI (a2)), some (dI (a3)), some (dI (i379)), some (dI (i380)), some (dI (0))]) rfl rfl rfl ?_
                    refine dr_iload rfl rfl ?_
                    refine dr_iload_n rfl rfl ?_
                    refine di_icmp_ne rfl rfl (by omega) (by omega) (by omega) (by omega) (fun c433 => ?_) (fun c433 => ?_)
                    · skip
                      refine di_aload_n rfl rfl ?_
                      refine dr_iload_n rfl rfl ?_
                      refine dr_iload rfl rfl ?_
                      refine dr_virt rfl rfl rfl rfl hc422 (s_X8_go l hl hI383 (a1 := a1) (by omega) (by omega) (a2 := i380) (by omega) (by omega) (mth := th_396) (mni := ni_399) (mpb := pb_402) (mlo := lo_405) (mhi := hi_408) (mhb := hb_411) (mls := ls_414) (mre := re_417) (mhe := he_420) hc422 (by omega) (by omega) (by omega) (by omega) (by omega) (by omega) (by omega) (by omega) (by omega) (by omega) (by omega) (by omega) (by omega) (by omega) (by omega) (by omega) c421 (us := uv385) hc391 ha392 (by omega)) (by decide) (by decide) (by decide) (Nat.le_of_ble_eq_true rfl) kQMN (kQMV (fun h434 hI435 hE436 fs9 hc438 hM9 us439 hu440 ha441 hU442 => ?_))
                      obtain ⟨ls_437, ls_437a, ls_437b, rfl⟩ := hM9
                      have hU442 : cv us439 (a1) = cv uv385 (a1) - 1 := hU442
                      have hE444 := Ext_tr hE384 hE436
                      refine di_iinc (ls2 := [some (.ref 26), some (dI (a1)), some (dI (a2)), some (dI (a3)), some (dI ((i379 + 1))), some (dI (i380)), some (dI (0))]) rfl rfl rfl rfl ?_
                      refine di_iinc (ls2 := [some (.ref 26), some (dI (a1)), some (dI (a2)), some (dI (a3)), some (dI ((i379 + 1))), some (dI ((i380 + (-1)))), some (dI (0))]) rfl rfl rfl rfl ?_
                      refine dr_goto rfl rfl ?_
                      refine dm_wk (ls2 := [some (.ref 26), some (dI (a1)), some (dI (a2)), some (dI (a3)), some (dI ((i379 + 1))), some (dI ((i380 + (-1)))), none]) ⟨Or.inr rfl, Or.inr rfl, Or.inr rfl, Or.inr rfl, Or.inr rfl, Or.inr rfl, Or.inl rfl, trivial⟩ ?_
                      exact ihL381 ((i379 + 1)) ((i380 + (-1))) h434 (us439) (by omega) (by omega) (by omega) (by omega) (by omega) (by omega) hI435 hE444  hu440 ha441 (by omega)
                    · skip
                      refine dr_goto rfl rfl ?_
                      refine di_iinc (ls2 := [some (.ref 26), some (dI (a1)), some (dI (a2)), some (dI (a3)), some (dI (i379)), some (dI ((i380 + (-1)))), some (dI (0))]) rfl rfl rfl rfl ?_
                      refine dr_goto rfl rfl ?_
                      refine dm_wk (ls2 := [some (.ref 26), some (dI (a1)), some (dI (a2)), some (dI (a3)), some (dI (i379)), some (dI ((i380 + (-1)))), none]) ⟨Or.inr rfl, Or.inr rfl, Or.inr rfl, Or.inr rfl, Or.inr rfl, Or.inr rfl, Or.inl rfl, trivial⟩ ?_
                      exact ihL381 (i379) ((i380 + (-1))) h382 (uv385) (by omega) (by omega) (by omega) (by omega) (by omega) (by omega) hI383 hE384  hc391 ha392 (by omega)
                  · skip
                    refine di_const rfl ?_
                    refine dr_goto rfl rfl ?_
                    refine di_istore (ls2 := [some (.ref 26), some (dI (a1)), some (dI (a2)), some (dI (a3)), some (dI (i379)), some (dI (i380)), some (dI (1))]) rfl rfl rfl ?_
                    refine dr_iload rfl rfl ?_
                    refine dr_iload_n rfl rfl ?_
                    refine di_icmp_ne rfl rfl (by omega) (by omega) (by omega) (by omega) (fun c445 => ?_) (fun c445 => ?_)
                    · skip
                      refine di_aload_n rfl rfl ?_
                      refine dr_iload_n rfl rfl ?_
                      refine dr_iload rfl rfl ?_
                      refine dr_virt rfl rfl rfl rfl hc422 (s_X8_go l hl hI383 (a1 := a1) (by omega) (by omega) (a2 := i380) (by omega) (by omega) (mth := th_396) (mni := ni_399) (mpb := pb_402) (mlo := lo_405) (mhi := hi_408) (mhb := hb_411) (mls := ls_414) (mre := re_417) (mhe := he_420) hc422 (by omega) (by omega) (by omega) (by omega) (by omega) (by omega) (by omega) (by omega) (by omega) (by omega) (by omega) (by omega) (by omega) (by omega) (by omega) (by omega) c421 (us := uv385) hc391 ha392 (by omega)) (by decide) (by decide) (by decide) (Nat.le_of_ble_eq_true rfl) kQMN (kQMV (fun h446 hI447 hE448 fs9 hc450 hM9 us451 hu452 ha453 hU454 => ?_))
                      obtain ⟨ls_449, ls_449a, ls_449b, rfl⟩ := hM9
                      have hU454 : cv us451 (a1) = cv uv385 (a1) - 1 := hU454
                      have hE456 := Ext_tr hE384 hE448
                      refine di_iinc (ls2 := [some (.ref 26), some (dI (a1)), some (dI (a2)), some (dI (a3)), some (dI ((i379 + 1))), some (dI (i380)), some (dI (1))]) rfl rfl rfl rfl ?_
                      refine di_iinc (ls2 := [some (.ref 26), some (dI (a1)), some (dI (a2)), some (dI (a3)), some (dI ((i379 + 1))), some (dI ((i380 + (-1)))), some (dI (1))]) rfl rfl rfl rfl ?_
                      refine dr_goto rfl rfl ?_
                      refine dm_wk (ls2 := [some (.ref 26), some (dI (a1)), some (dI (a2)), some (dI (a3)), some (dI ((i379 + 1))), some (dI ((i380 + (-1)))), none]) ⟨Or.inr rfl, Or.inr rfl, Or.inr rfl, Or.inr rfl, Or.inr rfl, Or.inr rfl, Or.inl rfl, trivial⟩ ?_
                      exact ihL381 ((i379 + 1)) ((i380 + (-1))) h446 (us451) (by omega) (by omega) (by omega) (by omega) (by omega) (by omega) hI447 hE456  hu452 ha453 (by omega)
                    · skip
                      refine dr_goto rfl rfl ?_
                      refine di_iinc (ls2 := [some (.ref 26), some (dI (a1)), some (dI (a2)), some (dI (a3)), some (dI (i379)), some (dI ((i380 + (-1)))), some (dI (1))]) rfl rfl rfl rfl ?_
                      refine dr_goto rfl rfl ?_
                      refine dm_wk (ls2 := [some (.ref 26), some (dI (a1)), some (dI (a2)), some (dI (a3)), some (dI (i379)), some (dI ((i380 + (-1)))), none]) ⟨Or.inr rfl, Or.inr rfl, Or.inr rfl, Or.inr rfl, Or.inr rfl, Or.inr rfl, Or.inl rfl, trivial⟩ ?_
                      exact ihL381 (i379) ((i380 + (-1))) h382 (uv385) (by omega) (by omega) (by omega) (by omega) (by omega) (by omega) hI383 hE384  hc391 ha392 (by omega)
            exact L381 _ (0) ((x378 - 1)) h366 (us371) (Nat.lt_succ_self _) (by omega) (by omega) (by omega) (by omega) (by omega) hI367 hE376  hu372 ha373 (by omega)
          · skip
            refine di_const rfl ?_
            exact dr_iret (ty := .int) rfl rfl rfl (by decide) (by decide) ⟨hI367, hE376, 0, trivial, by omega, by omega, rfl⟩
    · skip
      refine di_const rfl ?_
      refine dr_goto rfl rfl ?_
      refine di_const rfl ?_
      obtain ⟨th_457, ni_460, pb_463, lo_466, hi_469, hb_472, ls_475, re_478, he_481, c458, c459, c461, c462, c464, c465, c467, c468, c470, c471, c473, c474, c476, c477, c479, c480, c482, hc483⟩ := I_md hI
      have ho484 : he_481 = -1 ∨ (0 ≤ he_481 ∧ he_481 ≤ 9999 ∧ he_481 % 100 ≤ he_481 / 100) := c482
      obtain ⟨vs485, hc486, ha487⟩ := I_sz hI
      refine dr_virt rfl rfl rfl rfl hc483 (s_X8_start l hl hI (a1 := 1) (by omega) (by omega) (a2 := 1) (by omega) (by omega) (mth := th_457) (mni := ni_460) (mpb := pb_463) (mlo := lo_466) (mhi := hi_469) (mhb := hb_472) (mls := ls_475) (mre := re_478) (mhe := he_481) hc483 (by omega) (by omega) (by omega) (by omega) (by omega) (by omega) (by omega) (by omega) (by omega) (by omega) (by omega) (by omega) (by omega) (by omega) (by omega) (by omega) c482 (us := vs485) hc486 ha487) (by decide) (by decide) (by decide) (Nat.le_of_ble_eq_true rfl) kQMN (kQMI (fun y497 h488 hI489 hE490 fs9 hc492 hM9 us493 hu494 ha495 hU496 y497f y497a y497b => ?_))
      obtain ⟨th_491, th_491a, th_491b, rfl⟩ := hM9
      have hU496 : us493 = vs485 := hU496
      subst hU496
      have hE498 := hE490
      have y497g : 0 ≤ y497 ∧ y497 ≤ 1 ∧ (y497 = 0 → ((1) : Int) = 0) := y497f
      refine di_if_ne rfl rfl (by omega) (by omega) (fun c499 => ?_) (fun c499 => ?_)
      · skip
        refine di_const rfl ?_
        exact dr_iret (ty := .int) rfl rfl rfl (by decide) (by decide) ⟨hI489, hE498, 0, trivial, by omega, by omega, rfl⟩
      · skip
        refine di_aload_n rfl rfl ?_
        refine dr_iload_n rfl rfl ?_
        refine dr_iload_n rfl rfl ?_
        refine di_icmp_ne rfl rfl (by omega) (by omega) (by omega) (by omega) (fun c500 => ?_) (fun c500 => ?_)
        · skip
          refine di_const rfl ?_
          refine di_const rfl ?_
          refine dr_virt rfl rfl rfl rfl hc492 (s_X8_refuse l hl hI489 (a1 := 0) (by omega) (by omega) (a2 := 2) (by omega) (by omega) (mth := th_491) (mni := ni_460) (mpb := pb_463) (mlo := lo_466) (mhi := hi_469) (mhb := hb_472) (mls := ls_475) (mre := re_478) (mhe := he_481) hc492 (by omega) (by omega) (by omega) (by omega) (by omega) (by omega) (by omega) (by omega) (by omega) (by omega) (by omega) (by omega) (by omega) (by omega) (by omega) (by omega) c482 (us := us493) hu494 ha495) (by decide) (by decide) (by decide) (Nat.le_of_ble_eq_true rfl) kQMN (kQMI (fun y510 h501 hI502 hE503 fs9 hc505 hM9 us506 hu507 ha508 hU509 y510f y510a y510b => ?_))
          obtain ⟨th_504, th_504a, th_504b, rfl⟩ := hM9
          have hU509 : us506 = us493 := hU509
          subst hU509
          have hE511 := Ext_tr hE498 hE503
          have y510g : 0 ≤ y510 ∧ y510 ≤ 1 ∧ (y510 = 0 → ((0) : Int) = 0) := y510f
          refine di_if_eq rfl rfl (by omega) (by omega) (fun c512 => ?_) (fun c512 => ?_)
          · skip
            refine di_const rfl ?_
            refine di_istore (ls2 := [some (.ref 26), some (dI (a1)), some (dI (a2)), some (dI (a3)), some (dI (0)), none, none]) rfl rfl rfl ?_
            refine di_aload_n rfl rfl ?_
            refine dr_getf rfl hc505 rfl ?_
            refine dr_iload_n rfl rfl ?_
            refine di_iald rfl hu507 ha508 (by omega) (by omega) (fun x513 x513f x513a x513b x513v => ?_)
            have x513g : 0 ≤ x513 ∧ x513 ≤ 8 := x513f
            have x513w : cv us506 (a1) = x513 := cv_eq x513v x513a x513b
            refine di_const rfl ?_
            refine di_isub rfl ?_
            refine di_istore (ls2 := [some (.ref 26), some (dI (a1)), some (dI (a2)), some (dI (a3)), some (dI (0)), some (dI ((x513 - 1))), none]) rfl rfl rfl ?_
            have L516 : ∀ (n : Nat) (i514 : Int) (i515 : Int) (h517 : dm_H) (uv520 : List Value), (i515 + 1).toNat < n → 0 ≤ i514 → i514 ≤ 8 → -1 ≤ i515 → i515 ≤ 8 → i514 + i515 ≤ 7 → Inv kc km h517 → Ext h h517 → h517[35]? = some (20, uv520) → arr 3 okS uv520 → i515 < cv uv520 a1 → dm_W (fun _ _ _ => True) (dm_P (QS kc km h (RI (fun x => True)) []) 0 0) l 155 2 0 0 60 [some (.ref 26), some (dI (a1)), some (dI (a2)), some (dI (a3)), some (dI (i514)), some (dI (i515)), none] [] h517 0 0 := by
              intro n
              induction n with
              | zero => intro i514 i515 h517 uv520 hm; exact absurd hm (Nat.not_lt_zero _)
              | succ n ih =>
                intro i514 i515 h517 uv520 hm529 hb521 hb522 hb523 hb524 hx525 hI518 hE519 hc526 ha527 hx528
                have ihL516 := ih
                clear ih
                refine dr_iload rfl rfl ?_
                refine di_if_lt rfl rfl (by omega) (by omega) (fun c530 => ?_) (fun c530 => ?_)
                · skip
                  refine dr_iload rfl rfl ?_
                  exact dr_iret (ty := .int) rfl rfl rfl (by decide) (by decide) ⟨hI518, hE519, i514, trivial, by omega, by omega, rfl⟩
                · skip
                  refine di_aload_n rfl rfl ?_
                  refine dr_iload_n rfl rfl ?_
                  refine di_aload_n rfl rfl ?_
                  obtain ⟨th_531, ni_534, pb_537, lo_540, hi_543, hb_546, ls_549, re_552, he_555, c532, c533, c535, c536, c538, c539, c541, c542, c544, c545, c547, c548, c550, c551, c553, c554, c556, hc557⟩ := I_md hI518
                  have ho558 : he_555 = -1 ∨ (0 ≤ he_555 ∧ he_555 ≤ 9999 ∧ he_555 % 100 ≤ he_555 / 100) := c556
                  refine dr_getf rfl hc557 rfl ?_
                  refine dr_iload_n rfl rfl ?_
                  have hc559 := I_mcs hI518
                  refine paaD (k0 := 28) rfl hc559 (by omega) (by omega) (fun r561 hr561 => ?_)
                  have mr561 : isCR r561 := isCR_of hr561 (by omega) (by omega)
                  refine dr_iload rfl rfl ?_
                  obtain ⟨vs562, hc563, ha564⟩ := I_cr hI518 (p := r561) mr561
                  refine di_iald rfl hc563 ha564 (by omega) (by omega) (fun x565 x565f x565a x565b x565v => ?_)
                  have x565w : cv vs562 (i515) = x565 := cv_eq x565v x565a x565b
                  have x565g : 0 ≤ x565 ∧ x565 ≤ 9999 ∧ x565 % 100 ≤ x565 / 100 := x565f
                  refine dr_virt rfl rfl rfl rfl hc557 (s_X8_at l hl hI518 (a1 := a2) (by omega) (by omega) (a2 := x565) (by omega) (by omega) (us := uv520) hc526 ha527) (by decide) (by decide) (by decide) (Nat.le_of_ble_eq_true rfl) kNP (kIP (fun y566 y566f y566a y566b => ?_))
                  have y566g : -1 ≤ y566 ∧ y566 ≤ 7 ∧ y566 < cv uv520 (a2) := y566f
                  refine di_if_lt rfl rfl (by omega) (by omega) (fun c567 => ?_) (fun c567 => ?_)
                  · skip
                    refine di_const rfl ?_
                    refine di_istore (ls2 := [some (.ref 26), some (dI (a1)), some (dI (a2)), some (dI (a3)), some (dI (i514)), some (dI (i515)), some (dI (0))]) rfl rfl rfl ?_
                    refine dr_iload rfl rfl ?_
                    refine dr_iload_n rfl rfl ?_
                    refine di_icmp_ne rfl rfl (by omega) (by omega) (by omega) (by omega) (fun c568 => ?_) (fun c568 => ?_)
                    · skip
                      refine di_aload_n rfl rfl ?_
                      refine dr_iload_n rfl rfl ?_
                      refine dr_iload rfl rfl ?_
                      refine dr_virt rfl rfl rfl rfl hc557 (s_X8_go l hl hI518 (a1 := a1) (by omega) (by omega) (a2 := i515) (by omega) (by omega) (mth := th_531) (mni := ni_534) (mpb := pb_537) (mlo := lo_540) (mhi := hi_543) (mhb := hb_546) (mls := ls_549) (mre := re_552) (mhe := he_555) hc557 (by omega) (by omega) (by omega) (by omega) (by omega) (by omega) (by omega) (by omega) (by omega) (by omega) (by omega) (by omega) (by omega) (by omega) (by omega) (by omega) c556 (us := uv520) hc526 ha527 (by omega)) (by decide) (by decide) (by decide) (Nat.le_of_ble_eq_true rfl) kQMN (kQMV (fun h569 hI570 hE571 fs9 hc573 hM9 us574 hu575 ha576 hU577 => ?_))
                      obtain ⟨ls_572, ls_572a, ls_572b, rfl⟩ := hM9
                      have hU577 : cv us574 (a1) = cv uv520 (a1) - 1 := hU577
                      have hE579 := Ext_tr hE519 hE571
                      refine di_iinc (ls2 := [some (.ref 26), some (dI (a1)), some (dI (a2)), some (dI (a3)), some (dI ((i514 + 1))), some (dI (i515)), some (dI (0))]) rfl rfl rfl rfl ?_
                      refine di_iinc (ls2 := [some (.ref 26), some (dI (a1)), some (dI (a2)), some (dI (a3)), some (dI ((i514 + 1))), some (dI ((i515 + (-1)))), some (dI (0))]) rfl rfl rfl rfl ?_
                      refine dr_goto rfl rfl ?_
                      refine dm_wk (ls2 := [some (.ref 26), some (dI (a1)), some (dI (a2)), some (dI (a3)), some (dI ((i514 + 1))), some (dI ((i515 + (-1)))), none]) ⟨Or.inr rfl, Or.inr rfl, Or.inr rfl, Or.inr rfl, Or.inr rfl, Or.inr rfl, Or.inl rfl, trivial⟩ ?_
                      exact ihL516 ((i514 + 1)) ((i515 + (-1))) h569 (us574) (by omega) (by omega) (by omega) (by omega) (by omega) (by omega) hI570 hE579  hu575 ha576 (by omega)
                    · skip
                      refine dr_goto rfl rfl ?_
                      refine di_iinc (ls2 := [some (.ref 26), some (dI (a1)), some (dI (a2)), some (dI (a3)), some (dI (i514)), some (dI ((i515 + (-1)))), some (dI (0))]) rfl rfl rfl rfl ?_
                      refine dr_goto rfl rfl ?_
                      refine dm_wk (ls2 := [some (.ref 26), some (dI (a1)), some (dI (a2)), some (dI (a3)), some (dI (i514)), some (dI ((i515 + (-1)))), none]) ⟨Or.inr rfl, Or.inr rfl, Or.inr rfl, Or.inr rfl, Or.inr rfl, Or.inr rfl, Or.inl rfl, trivial⟩ ?_
                      exact ihL516 (i514) ((i515 + (-1))) h517 (uv520) (by omega) (by omega) (by omega) (by omega) (by omega) (by omega) hI518 hE519  hc526 ha527 (by omega)
                  · skip
                    refine di_const rfl ?_
                    refine dr_goto rfl rfl ?_
                    refine di_istore (ls2 := [some (.ref 26), some (dI (a1)), some (dI (a2)), some (dI (a3)), some (dI (i514)), some (dI (i515)), some (dI (1))]) rfl rfl rfl ?_
                    refine dr_iload rfl rfl ?_
                    refine dr_iload_n rfl rfl ?_
                    refine di_icmp_ne rfl rfl (by omega) (by omega) (by omega) (by omega) (fun c580 => ?_) (fun c580 => ?_)
                    · skip
                      refine di_aload_n rfl rfl ?_
                      refine dr_iload_n rfl rfl ?_
                      refine dr_iload rfl rfl ?_
                      refine dr_virt rfl rfl rfl rfl hc557 (s_X8_go l hl hI518 (a1 := a1) (by omega) (by omega) (a2 := i515) (by omega) (by omega) (mth := th_531) (mni := ni_534) (mpb := pb_537) (mlo := lo_540) (mhi := hi_543) (mhb := hb_546) (mls := ls_549) (mre := re_552) (mhe := he_555) hc557 (by omega) (by omega) (by omega) (by omega) (by omega) (by omega) (by omega) (by omega) (by omega) (by omega) (by omega) (by omega) (by omega) (by omega) (by omega) (by omega) c556 (us := uv520) hc526 ha527 (by omega)) (by decide) (by decide) (by decide) (Nat.le_of_ble_eq_true rfl) kQMN (kQMV (fun h581 hI582 hE583 fs9 hc585 hM9 us586 hu587 ha588 hU589 => ?_))
                      obtain ⟨ls_584, ls_584a, ls_584b, rfl⟩ := hM9
                      have hU589 : cv us586 (a1) = cv uv520 (a1) - 1 := hU589
                      have hE591 := Ext_tr hE519 hE583
                      refine di_iinc (ls2 := [some (.ref 26), some (dI (a1)), some (dI (a2)), some (dI (a3)), some (dI ((i514 + 1))), some (dI (i515)), some (dI (1))]) rfl rfl rfl rfl ?_
                      refine di_iinc (ls2 := [some (.ref 26), some (dI (a1)), some (dI (a2)), some (dI (a3)), some (dI ((i514 + 1))), some (dI ((i515 + (-1)))), some (dI (1))]) rfl rfl rfl rfl ?_
                      refine dr_goto rfl rfl ?_
                      refine dm_wk (ls2 := [some (.ref 26), some (dI (a1)), some (dI (a2)), some (dI (a3)), some (dI ((i514 + 1))), some (dI ((i515 + (-1)))), none]) ⟨Or.inr rfl, Or.inr rfl, Or.inr rfl, Or.inr rfl, Or.inr rfl, Or.inr rfl, Or.inl rfl, trivial⟩ ?_
                      exact ihL516 ((i514 + 1)) ((i515 + (-1))) h581 (us586) (by omega) (by omega) (by omega) (by omega) (by omega) (by omega) hI582 hE591  hu587 ha588 (by omega)
                    · skip
                      refine dr_goto rfl rfl ?_
                      refine di_iinc (ls2 := [some (.ref 26), some (dI (a1)), some (dI (a2)), some (dI (a3)), some (dI (i514)), some (dI ((i515 + (-1)))), some (dI (1))]) rfl rfl rfl rfl ?_
                      refine dr_goto rfl rfl ?_
                      refine dm_wk (ls2 := [some (.ref 26), some (dI (a1)), some (dI (a2)), some (dI (a3)), some (dI (i514)), some (dI ((i515 + (-1)))), none]) ⟨Or.inr rfl, Or.inr rfl, Or.inr rfl, Or.inr rfl, Or.inr rfl, Or.inr rfl, Or.inl rfl, trivial⟩ ?_
                      exact ihL516 (i514) ((i515 + (-1))) h517 (uv520) (by omega) (by omega) (by omega) (by omega) (by omega) (by omega) hI518 hE519  hc526 ha527 (by omega)
            exact L516 _ (0) ((x513 - 1)) h501 (us506) (Nat.lt_succ_self _) (by omega) (by omega) (by omega) (by omega) (by omega) hI502 hE511  hu507 ha508 (by omega)
          · skip
            refine di_const rfl ?_
            exact dr_iret (ty := .int) rfl rfl rfl (by decide) (by decide) ⟨hI502, hE511, 0, trivial, by omega, by omega, rfl⟩
        · skip
          refine di_const rfl ?_
          refine dr_goto rfl rfl ?_
          refine di_const rfl ?_
          refine dr_virt rfl rfl rfl rfl hc492 (s_X8_refuse l hl hI489 (a1 := 1) (by omega) (by omega) (a2 := 2) (by omega) (by omega) (mth := th_491) (mni := ni_460) (mpb := pb_463) (mlo := lo_466) (mhi := hi_469) (mhb := hb_472) (mls := ls_475) (mre := re_478) (mhe := he_481) hc492 (by omega) (by omega) (by omega) (by omega) (by omega) (by omega) (by omega) (by omega) (by omega) (by omega) (by omega) (by omega) (by omega) (by omega) (by omega) (by omega) c482 (us := us493) hu494 ha495) (by decide) (by decide) (by decide) (Nat.le_of_ble_eq_true rfl) kQMN (kQMI (fun y601 h592 hI593 hE594 fs9 hc596 hM9 us597 hu598 ha599 hU600 y601f y601a y601b => ?_))
          obtain ⟨th_595, th_595a, th_595b, rfl⟩ := hM9
          have hU600 : us597 = us493 := hU600
          subst hU600
          have hE602 := Ext_tr hE498 hE594
          have y601g : 0 ≤ y601 ∧ y601 ≤ 1 ∧ (y601 = 0 → ((1) : Int) = 0) := y601f
          refine di_if_eq rfl rfl (by omega) (by omega) (fun c603 => ?_) (fun c603 => ?_)
          · skip
            refine di_const rfl ?_
            refine di_istore (ls2 := [some (.ref 26), some (dI (a1)), some (dI (a2)), some (dI (a3)), some (dI (0)), none, none]) rfl rfl rfl ?_
            refine di_aload_n rfl rfl ?_
            refine dr_getf rfl hc596 rfl ?_
            refine dr_iload_n rfl rfl ?_
            refine di_iald rfl hu598 ha599 (by omega) (by omega) (fun x604 x604f x604a x604b x604v => ?_)
            have x604g : 0 ≤ x604 ∧ x604 ≤ 8 := x604f
            have x604w : cv us597 (a1) = x604 := cv_eq x604v x604a x604b
            refine di_const rfl ?_
            refine di_isub rfl ?_
            refine di_istore (ls2 := [some (.ref 26), some (dI (a1)), some (dI (a2)), some (dI (a3)), some (dI (0)), some (dI ((x604 - 1))), none]) rfl rfl rfl ?_
            have L607 : ∀ (n : Nat) (i605 : Int) (i606 : Int) (h608 : dm_H) (uv611 : List Value), (i606 + 1).toNat < n → 0 ≤ i605 → i605 ≤ 8 → -1 ≤ i606 → i606 ≤ 8 → i605 + i606 ≤ 7 → Inv kc km h608 → Ext h h608 → h608[35]? = some (20, uv611) → arr 3 okS uv611 → i606 < cv uv611 a1 → dm_W (fun _ _ _ => True) (dm_P (QS kc km h (RI (fun x => True)) []) 0 0) l 155 2 0 0 60 [some (.ref 26), some (dI (a1)), some (dI (a2)), some (dI (a3)), some (dI (i605)), some (dI (i606)), none] [] h608 0 0 := by
              intro n
              induction n with
              | zero => intro i605 i606 h608 uv611 hm; exact absurd hm (Nat.not_lt_zero _)
              | succ n ih =>
                intro i605 i606 h608 uv611 hm620 hb612 hb613 hb614 hb615 hx616 hI609 hE610 hc617 ha618 hx619
                have ihL607 := ih
                clear ih
                refine dr_iload rfl rfl ?_
                refine di_if_lt rfl rfl (by omega) (by omega) (fun c621 => ?_) (fun c621 => ?_)
                · skip
                  refine dr_iload rfl rfl ?_
                  exact dr_iret (ty := .int) rfl rfl rfl (by decide) (by decide) ⟨hI609, hE610, i605, trivial, by omega, by omega, rfl⟩
                · skip
                  refine di_aload_n rfl rfl ?_
                  refine dr_iload_n rfl rfl ?_
                  refine di_aload_n rfl rfl ?_
                  obtain ⟨th_622, ni_625, pb_628, lo_631, hi_634, hb_637, ls_640, re_643, he_646, c623, c624, c626, c627, c629, c630, c632, c633, c635, c636, c638, c639, c641, c642, c644, c645, c647, hc648⟩ := I_md hI609
                  have ho649 : he_646 = -1 ∨ (0 ≤ he_646 ∧ he_646 ≤ 9999 ∧ he_646 % 100 ≤ he_646 / 100) := c647
                  refine dr_getf rfl hc648 rfl ?_
                  refine dr_iload_n rfl rfl ?_
                  have hc650 := I_mcs hI609
                  refine paaD (k0 := 28) rfl hc650 (by omega) (by omega) (fun r652 hr652 => ?_)
                  have mr652 : isCR r652 := isCR_of hr652 (by omega) (by omega)
                  refine dr_iload rfl rfl ?_
                  obtain ⟨vs653, hc654, ha655⟩ := I_cr hI609 (p := r652) mr652
                  refine di_iald rfl hc654 ha655 (by omega) (by omega) (fun x656 x656f x656a x656b x656v => ?_)
                  have x656w : cv vs653 (i606) = x656 := cv_eq x656v x656a x656b
                  have x656g : 0 ≤ x656 ∧ x656 ≤ 9999 ∧ x656 % 100 ≤ x656 / 100 := x656f
                  refine dr_virt rfl rfl rfl rfl hc648 (s_X8_at l hl hI609 (a1 := a2) (by omega) (by omega) (a2 := x656) (by omega) (by omega) (us := uv611) hc617 ha618) (by decide) (by decide) (by decide) (Nat.le_of_ble_eq_true rfl) kNP (kIP (fun y657 y657f y657a y657b => ?_))
                  have y657g : -1 ≤ y657 ∧ y657 ≤ 7 ∧ y657 < cv uv611 (a2) := y657f
                  refine di_if_lt rfl rfl (by omega) (by omega) (fun c658 => ?_) (fun c658 => ?_)
                  · skip
                    refine di_const rfl ?_
                    refine di_istore (ls2 := [some (.ref 26), some (dI (a1)), some (dI (a2)), some (dI (a3)), some (dI (i605)), some (dI (i606)), some (dI (0))]) rfl rfl rfl ?_
                    refine dr_iload rfl rfl ?_
                    refine dr_iload_n rfl rfl ?_
                    refine di_icmp_ne rfl rfl (by omega) (by omega) (by omega) (by omega) (fun c659 => ?_) (fun c659 => ?_)
                    · skip
                      refine di_aload_n rfl rfl ?_
                      refine dr_iload_n rfl rfl ?_
                      refine dr_iload rfl rfl ?_
                      refine dr_virt rfl rfl rfl rfl hc648 (s_X8_go l hl hI609 (a1 := a1) (by omega) (by omega) (a2 := i606) (by omega) (by omega) (mth := th_622) (mni := ni_625) (mpb := pb_628) (mlo := lo_631) (mhi := hi_634) (mhb := hb_637) (mls := ls_640) (mre := re_643) (mhe := he_646) hc648 (by omega) (by omega) (by omega) (by omega) (by omega) (by omega) (by omega) (by omega) (by omega) (by omega) (by omega) (by omega) (by omega) (by omega) (by omega) (by omega) c647 (us := uv611) hc617 ha618 (by omega)) (by decide) (by decide) (by decide) (Nat.le_of_ble_eq_true rfl) kQMN (kQMV (fun h660 hI661 hE662 fs9 hc664 hM9 us665 hu666 ha667 hU668 => ?_))
                      obtain ⟨ls_663, ls_663a, ls_663b, rfl⟩ := hM9
                      have hU668 : cv us665 (a1) = cv uv611 (a1) - 1 := hU668
                      have hE670 := Ext_tr hE610 hE662
                      refine di_iinc (ls2 := [some (.ref 26), some (dI (a1)), some (dI (a2)), some (dI (a3)), some (dI ((i605 + 1))), some (dI (i606)), some (dI (0))]) rfl rfl rfl rfl ?_
                      refine di_iinc (ls2 := [some (.ref 26), some (dI (a1)), some (dI (a2)), some (dI (a3)), some (dI ((i605 + 1))), some (dI ((i606 + (-1)))), some (dI (0))]) rfl rfl rfl rfl ?_
                      refine dr_goto rfl rfl ?_
                      refine dm_wk (ls2 := [some (.ref 26), some (dI (a1)), some (dI (a2)), some (dI (a3)), some (dI ((i605 + 1))), some (dI ((i606 + (-1)))), none]) ⟨Or.inr rfl, Or.inr rfl, Or.inr rfl, Or.inr rfl, Or.inr rfl, Or.inr rfl, Or.inl rfl, trivial⟩ ?_
                      exact ihL607 ((i605 + 1)) ((i606 + (-1))) h660 (us665) (by omega) (by omega) (by omega) (by omega) (by omega) (by omega) hI661 hE670  hu666 ha667 (by omega)
                    · skip
                      refine dr_goto rfl rfl ?_
                      refine di_iinc (ls2 := [some (.ref 26), some (dI (a1)), some (dI (a2)), some (dI (a3)), some (dI (i605)), some (dI ((i606 + (-1)))), some (dI (0))]) rfl rfl rfl rfl ?_
                      refine dr_goto rfl rfl ?_
                      refine dm_wk (ls2 := [some (.ref 26), some (dI (a1)), some (dI (a2)), some (dI (a3)), some (dI (i605)), some (dI ((i606 + (-1)))), none]) ⟨Or.inr rfl, Or.inr rfl, Or.inr rfl, Or.inr rfl, Or.inr rfl, Or.inr rfl, Or.inl rfl, trivial⟩ ?_
                      exact ihL607 (i605) ((i606 + (-1))) h608 (uv611) (by omega) (by omega) (by omega) (by omega) (by omega) (by omega) hI609 hE610  hc617 ha618 (by omega)
                  · skip
                    refine di_const rfl ?_
                    refine dr_goto rfl rfl ?_
                    refine di_istore (ls2 := [some (.ref 26), some (dI (a1)), some (dI (a2)), some (dI (a3)), some (dI (i605)), some (dI (i606)), some (dI (1))]) rfl rfl rfl ?_
                    refine dr_iload rfl rfl ?_
                    refine dr_iload_n rfl rfl ?_
                    refine di_icmp_ne rfl rfl (by omega) (by omega) (by omega) (by omega) (fun c671 => ?_) (fun c671 => ?_)
                    · skip
                      refine di_aload_n rfl rfl ?_
                      refine dr_iload_n rfl rfl ?_
                      refine dr_iload rfl rfl ?_
                      refine dr_virt rfl rfl rfl rfl hc648 (s_X8_go l hl hI609 (a1 := a1) (by omega) (by omega) (a2 := i606) (by omega) (by omega) (mth := th_622) (mni := ni_625) (mpb := pb_628) (mlo := lo_631) (mhi := hi_634) (mhb := hb_637) (mls := ls_640) (mre := re_643) (mhe := he_646) hc648 (by omega) (by omega) (by omega) (by omega) (by omega) (by omega) (by omega) (by omega) (by omega) (by omega) (by omega) (by omega) (by omega) (by omega) (by omega) (by omega) c647 (us := uv611) hc617 ha618 (by omega)) (by decide) (by decide) (by decide) (Nat.le_of_ble_eq_true rfl) kQMN (kQMV (fun h672 hI673 hE674 fs9 hc676 hM9 us677 hu678 ha679 hU680 => ?_))
                      obtain ⟨ls_675, ls_675a, ls_675b, rfl⟩ := hM9
                      have hU680 : cv us677 (a1) = cv uv611 (a1) - 1 := hU680
                      have hE682 := Ext_tr hE610 hE674
                      refine di_iinc (ls2 := [some (.ref 26), some (dI (a1)), some (dI (a2)), some (dI (a3)), some (dI ((i605 + 1))), some (dI (i606)), some (dI (1))]) rfl rfl rfl rfl ?_
                      refine di_iinc (ls2 := [some (.ref 26), some (dI (a1)), some (dI (a2)), some (dI (a3)), some (dI ((i605 + 1))), some (dI ((i606 + (-1)))), some (dI (1))]) rfl rfl rfl rfl ?_
                      refine dr_goto rfl rfl ?_
                      refine dm_wk (ls2 := [some (.ref 26), some (dI (a1)), some (dI (a2)), some (dI (a3)), some (dI ((i605 + 1))), some (dI ((i606 + (-1)))), none]) ⟨Or.inr rfl, Or.inr rfl, Or.inr rfl, Or.inr rfl, Or.inr rfl, Or.inr rfl, Or.inl rfl, trivial⟩ ?_
                      exact ihL607 ((i605 + 1)) ((i606 + (-1))) h672 (us677) (by omega) (by omega) (by omega) (by omega) (by omega) (by omega) hI673 hE682  hu678 ha679 (by omega)
                    · skip
                      refine dr_goto rfl rfl ?_
                      refine di_iinc (ls2 := [some (.ref 26), some (dI (a1)), some (dI (a2)), some (dI (a3)), some (dI (i605)), some (dI ((i606 + (-1)))), some (dI (1))]) rfl rfl rfl rfl ?_
                      refine dr_goto rfl rfl ?_
                      refine dm_wk (ls2 := [some (.ref 26), some (dI (a1)), some (dI (a2)), some (dI (a3)), some (dI (i605)), some (dI ((i606 + (-1)))), none]) ⟨Or.inr rfl, Or.inr rfl, Or.inr rfl, Or.inr rfl, Or.inr rfl, Or.inr rfl, Or.inl rfl, trivial⟩ ?_
                      exact ihL607 (i605) ((i606 + (-1))) h608 (uv611) (by omega) (by omega) (by omega) (by omega) (by omega) (by omega) hI609 hE610  hc617 ha618 (by omega)
            exact L607 _ (0) ((x604 - 1)) h592 (us597) (Nat.lt_succ_self _) (by omega) (by omega) (by omega) (by omega) (by omega) hI593 hE602  hu598 ha599 (by omega)
          · skip
            refine di_const rfl ?_
            exact dr_iret (ty := .int) rfl rfl rfl (by decide) (by decide) ⟨hI593, hE602, 0, trivial, by omega, by omega, rfl⟩
