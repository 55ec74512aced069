set_option maxHeartbeats 4000000 in
set_option maxRecDepth 100000 in
/-- EarlyendsModel.isInPart -/
theorem s_X8_isInPart (l : Launch) (hl : l.stackTraces = false) {kc km : Int} {h : dm_H} (hI : Inv kc km h) {a1 : Int} (h1a : -2147483648 ≤ a1) (h1b : a1 ≤ 2147483647) : dm_M l 156 0 0 0 [.ref 26, dI (a1)] h (QP h (RI (fun x => 0 ≤ x ∧ x ≤ 1)) []) := by
  refine dm_M_of dk_156 hl rfl (Nat.le_of_ble_eq_true rfl) ?_
  show dm_W (fun _ _ _ => True) (dm_P (QP h (RI (fun x => 0 ≤ x ∧ x ≤ 1)) []) 0 0) l 156 0 0 0 0 [some (.ref 26), some (dI (a1))] [] h 0 0
  refine di_aload_n rfl rfl ?_
  obtain ⟨th_1, ni_4, pb_7, lo_10, hi_13, hb_16, ls_19, re_22, he_25, c2, c3, c5, c6, c8, c9, c11, c12, c14, c15, c17, c18, c20, c21, c23, c24, c26, hc27⟩ := I_md hI
  have ho28 : he_25 = -1 ∨ (0 ≤ he_25 ∧ he_25 ≤ 9999 ∧ he_25 % 100 ≤ he_25 / 100) := c26
  refine dr_getf rfl hc27 rfl ?_
  refine di_const rfl ?_
  refine di_icmp_eq rfl rfl (by omega) (by omega) (by omega) (by omega) (fun c29 => ?_) (fun c29 => ?_)
  · skip
    refine di_aload_n rfl rfl ?_
    refine dr_getf rfl hc27 rfl ?_
    refine di_const rfl ?_
    refine di_icmp_eq rfl rfl (by omega) (by omega) (by omega) (by omega) (fun c30 => ?_) (fun c30 => ?_)
    · skip
      refine di_const rfl ?_
      refine dr_goto rfl rfl ?_
      exact dr_iret (ty := .boolean) rfl rfl (nar_z (by omega) (by omega)) (by decide) (by decide) ⟨rfl, 1, (show 0 ≤ (1) ∧ (1) ≤ 1 by omega), by omega, by omega, rfl⟩
    · skip
      refine dr_iload_n rfl rfl ?_
      refine di_bipush rfl (by decide) ?_
      refine du_idiv rfl (by omega) (by omega) (fun u31 u31a u31b => ?_)
      refine di_aload_n rfl rfl ?_
      refine dr_getf rfl hc27 rfl ?_
      refine di_icmp_gt rfl rfl (by omega) (by omega) (by omega) (by omega) (fun c32 => ?_) (fun c32 => ?_)
      · skip
        refine di_const rfl ?_
        exact dr_iret (ty := .boolean) rfl rfl (nar_z (by omega) (by omega)) (by decide) (by decide) ⟨rfl, 0, (show 0 ≤ (0) ∧ (0) ≤ 1 by omega), by omega, by omega, rfl⟩
      · skip
        refine di_const rfl ?_
        refine dr_goto rfl rfl ?_
        exact dr_iret (ty := .boolean) rfl rfl (nar_z (by omega) (by omega)) (by decide) (by decide) ⟨rfl, 1, (show 0 ≤ (1) ∧ (1) ≤ 1 by omega), by omega, by omega, rfl⟩
  · skip
    refine dr_iload_n rfl rfl ?_
    refine di_bipush rfl (by decide) ?_
    refine du_idiv rfl (by omega) (by omega) (fun u33 u33a u33b => ?_)
    refine di_aload_n rfl rfl ?_
    refine dr_getf rfl hc27 rfl ?_
    refine di_icmp_lt rfl rfl (by omega) (by omega) (by omega) (by omega) (fun c34 => ?_) (fun c34 => ?_)
    · skip
      refine di_const rfl ?_
      exact dr_iret (ty := .boolean) rfl rfl (nar_z (by omega) (by omega)) (by decide) (by decide) ⟨rfl, 0, (show 0 ≤ (0) ∧ (0) ≤ 1 by omega), by omega, by omega, rfl⟩
    · skip
      refine di_aload_n rfl rfl ?_
      refine dr_getf rfl hc27 rfl ?_
      refine di_const rfl ?_
      refine di_icmp_eq rfl rfl (by omega) (by omega) (by omega) (by omega) (fun c35 => ?_) (fun c35 => ?_)
      · skip
        refine di_const rfl ?_
        refine dr_goto rfl rfl ?_
        exact dr_iret (ty := .boolean) rfl rfl (nar_z (by omega) (by omega)) (by decide) (by decide) ⟨rfl, 1, (show 0 ≤ (1) ∧ (1) ≤ 1 by omega), by omega, by omega, rfl⟩
      · skip
        refine dr_iload_n rfl rfl ?_
        refine di_bipush rfl (by decide) ?_
        refine du_idiv rfl (by omega) (by omega) (fun u36 u36a u36b => ?_)
        refine di_aload_n rfl rfl ?_
        refine dr_getf rfl hc27 rfl ?_
        refine di_icmp_gt rfl rfl (by omega) (by omega) (by omega) (by omega) (fun c37 => ?_) (fun c37 => ?_)
        · skip
          refine di_const rfl ?_
          exact dr_iret (ty := .boolean) rfl rfl (nar_z (by omega) (by omega)) (by decide) (by decide) ⟨rfl, 0, (show 0 ≤ (0) ∧ (0) ≤ 1 by omega), by omega, by omega, rfl⟩
        · skip
          refine di_const rfl ?_
          refine dr_goto rfl rfl ?_
          exact dr_iret (ty := .boolean) rfl rfl (nar_z (by omega) (by omega)) (by decide) (by decide) ⟨rfl, 1, (show 0 ≤ (1) ∧ (1) ≤ 1 by omega), by omega, by omega, rfl⟩
set_option maxHeartbeats 4000000 in
set_option maxRecDepth 100000 in
/-- EarlyendsModel.partSize -/
theorem s_X8_partSize (l : Launch) (hl : l.stackTraces = false) {kc km : Int} {h : dm_H} (hI : Inv kc km h) {mth mni mpb mlo mhi mhb mls mre mhe : Int} (hmd : h[26]? = some (10, [.ref 27, .ref 31, .ref 35, dI (mth), dI (mni), dI (km), dI (mpb), dI (mlo), dI (mhi), dI (mhb), dI (mls), dI (mre), dI (mhe)])) (hmtha : 0 ≤ mth) (hmthb : mth ≤ 2) (hmnia : -2147483648 ≤ mni) (hmnib : mni ≤ 2147483647) (hmpba : -1 ≤ mpb) (hmpbb : mpb ≤ 2) (hmloa : -1 ≤ mlo) (hmlob : mlo ≤ 99) (hmhia : -1 ≤ mhi) (hmhib : mhi ≤ 99) (hmhba : -1 ≤ mhb) (hmhbb : mhb ≤ 2) (hmlsa : 0 ≤ mls) (hmlsb : mls ≤ 1) (hmrea : -2147483648 ≤ mre) (hmreb : mre ≤ 2147483647) (hmok : mhe = -1 ∨ okC mhe) (hp0 : 0 ≤ mpb) : dm_M l 157 1 0 0 [.ref 26] h (QP h (RI (fun x => 0 ≤ x ∧ x ≤ 8)) []) := by
  refine dm_M_of dk_157 hl rfl (Nat.le_of_ble_eq_true rfl) ?_
  show dm_W (fun _ _ _ => True) (dm_P (QP h (RI (fun x => 0 ≤ x ∧ x ≤ 8)) []) 0 0) l 157 1 0 0 0 [some (.ref 26), none, none] [] h 0 0
  have hmo9 : mhe = -1 ∨ (0 ≤ mhe ∧ mhe ≤ 9999 ∧ mhe % 100 ≤ mhe / 100) := hmok
  refine di_const rfl ?_
  refine di_istore_n (ls2 := [some (.ref 26), some (dI (0)), none]) rfl rfl rfl ?_
  refine di_const rfl ?_
  refine di_istore_n (ls2 := [some (.ref 26), some (dI (0)), some (dI (0))]) rfl rfl rfl ?_
  have L3 : ∀ (n : Nat) (i1 : Int) (i2 : Int), (8 - i2).toNat < n → 0 ≤ i1 → i1 ≤ 8 → 0 ≤ i2 → i2 ≤ 8 → i1 ≤ i2 → dm_W (fun _ _ _ => True) (dm_P (QP h (RI (fun x => 0 ≤ x ∧ x ≤ 8)) []) 0 0) l 157 1 0 0 4 [some (.ref 26), some (dI (i1)), some (dI (i2))] [] h 0 0 := by
    intro n
    induction n with
    | zero => intro i1 i2 hm; exact absurd hm (Nat.not_lt_zero _)
    | succ n ih =>
      intro i1 i2 hm9 hb4 hb5 hb6 hb7 hx8
      have ihL3 := ih
      clear ih
      refine dr_iload_n rfl rfl ?_
      refine di_aload_n rfl rfl ?_
      refine dr_getf rfl hmd rfl ?_
      refine di_aload_n rfl rfl ?_
      refine dr_getf rfl hmd rfl ?_
      obtain ⟨vs10, hc11, ha12⟩ := I_sz hI
      refine di_iald rfl hc11 ha12 (by omega) (by omega) (fun x13 x13f x13a x13b x13v => ?_)
      have x13g : 0 ≤ x13 ∧ x13 ≤ 8 := x13f
      have x13w : cv vs10 (mpb) = x13 := cv_eq x13v x13a x13b
      refine di_icmp_ge rfl rfl (by omega) (by omega) (by omega) (by omega) (fun c14 => ?_) (fun c14 => ?_)
      · skip
        refine dr_iload_n rfl rfl ?_
        exact dr_iret (ty := .int) rfl rfl rfl (by decide) (by decide) ⟨rfl, i1, (show 0 ≤ (i1) ∧ (i1) ≤ 8 by omega), by omega, by omega, rfl⟩
      · skip
        refine di_aload_n rfl rfl ?_
        refine di_aload_n rfl rfl ?_
        refine dr_getf rfl hmd rfl ?_
        refine di_aload_n rfl rfl ?_
        refine dr_getf rfl hmd rfl ?_
        have hc15 := I_mcs hI
        refine paaD (k0 := 28) rfl hc15 (by omega) (by omega) (fun r17 hr17 => ?_)
        have mr17 : isCR r17 := isCR_of hr17 (by omega) (by omega)
        refine dr_iload_n rfl rfl ?_
        obtain ⟨vs18, hc19, ha20⟩ := I_cr hI (p := r17) mr17
        refine di_iald rfl hc19 ha20 (by omega) (by omega) (fun x21 x21f x21a x21b x21v => ?_)
        have x21w : cv vs18 (i2) = x21 := cv_eq x21v x21a x21b
        have x21g : 0 ≤ x21 ∧ x21 ≤ 9999 ∧ x21 % 100 ≤ x21 / 100 := x21f
        refine dr_virt rfl rfl rfl rfl hmd (s_X8_isInPart l hl hI (a1 := x21) (by omega) (by omega)) (by decide) (by decide) (by decide) (Nat.le_of_ble_eq_true rfl) kNP (kIP (fun y22 y22f y22a y22b => ?_))
        have y22g : 0 ≤ y22 ∧ y22 ≤ 1 := y22f
        refine di_if_eq rfl rfl (by omega) (by omega) (fun c23 => ?_) (fun c23 => ?_)
        · skip
          refine di_iinc (ls2 := [some (.ref 26), some (dI (i1)), some (dI ((i2 + 1)))]) rfl rfl rfl rfl ?_
          refine dr_goto rfl rfl ?_
          exact ihL3 (i1) ((i2 + 1)) (by omega) (by omega) (by omega) (by omega) (by omega) (by omega) 
        · skip
          refine di_iinc (ls2 := [some (.ref 26), some (dI ((i1 + 1))), some (dI (i2))]) rfl rfl rfl rfl ?_
          refine di_iinc (ls2 := [some (.ref 26), some (dI ((i1 + 1))), some (dI ((i2 + 1)))]) rfl rfl rfl rfl ?_
          refine dr_goto rfl rfl ?_
          exact ihL3 ((i1 + 1)) ((i2 + 1)) (by omega) (by omega) (by omega) (by omega) (by omega) (by omega) 
  exact L3 _ (0) (0) (Nat.lt_succ_self _) (by omega) (by omega) (by omega) (by omega) (by omega) 
set_option maxHeartbeats 4000000 in
set_option maxRecDepth 100000 in
/-- EarlyendsModel.partEnd -/
theorem s_X8_partEnd (l : Launch) (hl : l.stackTraces = false) {kc km : Int} {h : dm_H} (hI : Inv kc km h) {a1 : Int} (h1a : 0 ≤ a1) (h1b : a1 ≤ 1) {mth mni mpb mlo mhi mhb mls mre mhe : Int} (hmd : h[26]? = some (10, [.ref 27, .ref 31, .ref 35, dI (mth), dI (mni), dI (km), dI (mpb), dI (mlo), dI (mhi), dI (mhb), dI (mls), dI (mre), dI (mhe)])) (hmtha : 0 ≤ mth) (hmthb : mth ≤ 2) (hmnia : -2147483648 ≤ mni) (hmnib : mni ≤ 2147483647) (hmpba : -1 ≤ mpb) (hmpbb : mpb ≤ 2) (hmloa : -1 ≤ mlo) (hmlob : mlo ≤ 99) (hmhia : -1 ≤ mhi) (hmhib : mhi ≤ 99) (hmhba : -1 ≤ mhb) (hmhbb : mhb ≤ 2) (hmlsa : 0 ≤ mls) (hmlsb : mls ≤ 1) (hmrea : -2147483648 ≤ mre) (hmreb : mre ≤ 2147483647) (hmok : mhe = -1 ∨ okC mhe) (hp0 : 0 ≤ mpb) : dm_M l 158 1 0 0 [.ref 26, dI (a1)] h (QP h (RI (fun x => -1 ≤ x ∧ x ≤ 9999 ∧ (x = -1 ∨ (0 ≤ x ∧ x % 100 ≤ x / 100)))) []) := by
  refine dm_M_of dk_158 hl rfl (Nat.le_of_ble_eq_true rfl) ?_
  show dm_W (fun _ _ _ => True) (dm_P (QP h (RI (fun x => -1 ≤ x ∧ x ≤ 9999 ∧ (x = -1 ∨ (0 ≤ x ∧ x % 100 ≤ x / 100)))) []) 0 0) l 158 1 0 0 0 [some (.ref 26), some (dI (a1)), none, none, none] [] h 0 0
  have hmo9 : mhe = -1 ∨ (0 ≤ mhe ∧ mhe ≤ 9999 ∧ mhe % 100 ≤ mhe / 100) := hmok
  refine di_const rfl ?_
  refine di_istore_n (ls2 := [some (.ref 26), some (dI (a1)), some (dI ((-1))), none, none]) rfl rfl rfl ?_
  refine di_const rfl ?_
  refine di_istore_n (ls2 := [some (.ref 26), some (dI (a1)), some (dI ((-1))), some (dI (0)), none]) rfl rfl rfl ?_
  have L3 : ∀ (n : Nat) (i1 : Int) (i2 : Int), (8 - i2).toNat < n → -1 ≤ i1 → i1 ≤ 9999 → 0 ≤ i2 → i2 ≤ 8 → (i1 = -1 ∨ (0 ≤ i1 ∧ i1 % 100 ≤ i1 / 100)) → dm_W (fun _ _ _ => True) (dm_P (QP h (RI (fun x => -1 ≤ x ∧ x ≤ 9999 ∧ (x = -1 ∨ (0 ≤ x ∧ x % 100 ≤ x / 100)))) []) 0 0) l 158 1 0 0 4 [some (.ref 26), some (dI (a1)), some (dI (i1)), some (dI (i2)), none] [] h 0 0 := by
    intro n
    induction n with
    | zero => intro i1 i2 hm; exact absurd hm (Nat.not_lt_zero _)
    | succ n ih =>
      intro i1 i2 hm9 hb4 hb5 hb6 hb7 hx8
      have ihL3 := ih
      clear ih
      refine dr_iload_n rfl rfl ?_
      refine di_aload_n rfl rfl ?_
      refine dr_getf rfl hmd rfl ?_
      refine di_aload_n rfl rfl ?_
      refine dr_getf rfl hmd rfl ?_
      obtain ⟨vs10, hc11, ha12⟩ := I_sz hI
      refine di_iald rfl hc11 ha12 (by omega) (by omega) (fun x13 x13f x13a x13b x13v => ?_)
      have x13g : 0 ≤ x13 ∧ x13 ≤ 8 := x13f
      have x13w : cv vs10 (mpb) = x13 := cv_eq x13v x13a x13b
      refine di_icmp_ge rfl rfl (by omega) (by omega) (by omega) (by omega) (fun c14 => ?_) (fun c14 => ?_)
      · skip
        refine dr_iload_n rfl rfl ?_
        exact dr_iret (ty := .int) rfl rfl rfl (by decide) (by decide) ⟨rfl, i1, (show -1 ≤ (i1) ∧ (i1) ≤ 9999 ∧ ((i1) = -1 ∨ (0 ≤ (i1) ∧ (i1) % 100 ≤ (i1) / 100)) by omega), by omega, by omega, rfl⟩
      · skip
        refine di_aload_n rfl rfl ?_
        refine dr_getf rfl hmd rfl ?_
        refine di_aload_n rfl rfl ?_
        refine dr_getf rfl hmd rfl ?_
        have hc15 := I_mcs hI
        refine paaD (k0 := 28) rfl hc15 (by omega) (by omega) (fun r17 hr17 => ?_)
        have mr17 : isCR r17 := isCR_of hr17 (by omega) (by omega)
        refine dr_iload_n rfl rfl ?_
        obtain ⟨vs18, hc19, ha20⟩ := I_cr hI (p := r17) mr17
        refine di_iald rfl hc19 ha20 (by omega) (by omega) (fun x21 x21f x21a x21b x21v => ?_)
        have x21w : cv vs18 (i2) = x21 := cv_eq x21v x21a x21b
        have x21g : 0 ≤ x21 ∧ x21 ≤ 9999 ∧ x21 % 100 ≤ x21 / 100 := x21f
        refine di_istore (ls2 := [some (.ref 26), some (dI (a1)), some (dI (i1)), some (dI (i2)), some (dI (x21))]) rfl rfl rfl ?_
        refine di_aload_n rfl rfl ?_
        refine dr_iload rfl rfl ?_
        refine dr_virt rfl rfl rfl rfl hmd (s_X8_isInPart l hl hI (a1 := x21) (by omega) (by omega)) (by decide) (by decide) (by decide) (Nat.le_of_ble_eq_true rfl) kNP (kIP (fun y22 y22f y22a y22b => ?_))
        have y22g : 0 ≤ y22 ∧ y22 ≤ 1 := y22f
        refine di_if_eq rfl rfl (by omega) (by omega) (fun c23 => ?_) (fun c23 => ?_)
        · skip
          refine di_iinc (ls2 := [some (.ref 26), some (dI (a1)), some (dI (i1)), some (dI ((i2 + 1))), some (dI (x21))]) rfl rfl rfl rfl ?_
          refine dr_goto rfl rfl ?_
          refine dm_wk (ls2 := [some (.ref 26), some (dI (a1)), some (dI (i1)), some (dI ((i2 + 1))), none]) ⟨Or.inr rfl, Or.inr rfl, Or.inr rfl, Or.inr rfl, Or.inl rfl, trivial⟩ ?_
          exact ihL3 (i1) ((i2 + 1)) (by omega) (by omega) (by omega) (by omega) (by omega) (by omega) 
        · skip
          refine dr_iload_n rfl rfl ?_
          refine di_const rfl ?_
          refine di_icmp_eq rfl rfl (by omega) (by omega) (by omega) (by omega) (fun c24 => ?_) (fun c24 => ?_)
          · skip
            refine dr_iload rfl rfl ?_
            refine di_istore_n (ls2 := [some (.ref 26), some (dI (a1)), some (dI (x21)), some (dI (i2)), some (dI (x21))]) rfl rfl rfl ?_
            refine di_iinc (ls2 := [some (.ref 26), some (dI (a1)), some (dI (x21)), some (dI ((i2 + 1))), some (dI (x21))]) rfl rfl rfl rfl ?_
            refine dr_goto rfl rfl ?_
            refine dm_wk (ls2 := [some (.ref 26), some (dI (a1)), some (dI (x21)), some (dI ((i2 + 1))), none]) ⟨Or.inr rfl, Or.inr rfl, Or.inr rfl, Or.inr rfl, Or.inl rfl, trivial⟩ ?_
            exact ihL3 (x21) ((i2 + 1)) (by omega) (by omega) (by omega) (by omega) (by omega) (by omega) 
          · skip
            refine dr_iload_n rfl rfl ?_
            refine di_if_eq rfl rfl (by omega) (by omega) (fun c25 => ?_) (fun c25 => ?_)
            · skip
              refine dr_iload rfl rfl ?_
              refine dr_iload_n rfl rfl ?_
              refine di_icmp_ge rfl rfl (by omega) (by omega) (by omega) (by omega) (fun c26 => ?_) (fun c26 => ?_)
              · skip
                refine di_iinc (ls2 := [some (.ref 26), some (dI (a1)), some (dI (i1)), some (dI ((i2 + 1))), some (dI (x21))]) rfl rfl rfl rfl ?_
                refine dr_goto rfl rfl ?_
                refine dm_wk (ls2 := [some (.ref 26), some (dI (a1)), some (dI (i1)), some (dI ((i2 + 1))), none]) ⟨Or.inr rfl, Or.inr rfl, Or.inr rfl, Or.inr rfl, Or.inl rfl, trivial⟩ ?_
                exact ihL3 (i1) ((i2 + 1)) (by omega) (by omega) (by omega) (by omega) (by omega) (by omega) 
              · skip
                refine dr_iload rfl rfl ?_
                refine di_istore_n (ls2 := [some (.ref 26), some (dI (a1)), some (dI (x21)), some (dI (i2)), some (dI (x21))]) rfl rfl rfl ?_
                refine di_iinc (ls2 := [some (.ref 26), some (dI (a1)), some (dI (x21)), some (dI ((i2 + 1))), some (dI (x21))]) rfl rfl rfl rfl ?_
                refine dr_goto rfl rfl ?_
                refine dm_wk (ls2 := [some (.ref 26), some (dI (a1)), some (dI (x21)), some (dI ((i2 + 1))), none]) ⟨Or.inr rfl, Or.inr rfl, Or.inr rfl, Or.inr rfl, Or.inl rfl, trivial⟩ ?_
                exact ihL3 (x21) ((i2 + 1)) (by omega) (by omega) (by omega) (by omega) (by omega) (by omega) 
            · skip
              refine dr_iload rfl rfl ?_
              refine dr_iload_n rfl rfl ?_
              refine di_icmp_le rfl rfl (by omega) (by omega) (by omega) (by omega) (fun c27 => ?_) (fun c27 => ?_)
              · skip
                refine di_iinc (ls2 := [some (.ref 26), some (dI (a1)), some (dI (i1)), some (dI ((i2 + 1))), some (dI (x21))]) rfl rfl rfl rfl ?_
                refine dr_goto rfl rfl ?_
                refine dm_wk (ls2 := [some (.ref 26), some (dI (a1)), some (dI (i1)), some (dI ((i2 + 1))), none]) ⟨Or.inr rfl, Or.inr rfl, Or.inr rfl, Or.inr rfl, Or.inl rfl, trivial⟩ ?_
                exact ihL3 (i1) ((i2 + 1)) (by omega) (by omega) (by omega) (by omega) (by omega) (by omega) 
              · skip
                refine dr_goto rfl rfl ?_
                refine dr_iload rfl rfl ?_
                refine di_istore_n (ls2 := [some (.ref 26), some (dI (a1)), some (dI (x21)), some (dI (i2)), some (dI (x21))]) rfl rfl rfl ?_
                refine di_iinc (ls2 := [some (.ref 26), some (dI (a1)), some (dI (x21)), some (dI ((i2 + 1))), some (dI (x21))]) rfl rfl rfl rfl ?_
                refine dr_goto rfl rfl ?_
                refine dm_wk (ls2 := [some (.ref 26), some (dI (a1)), some (dI (x21)), some (dI ((i2 + 1))), none]) ⟨Or.inr rfl, Or.inr rfl, Or.inr rfl, Or.inr rfl, Or.inl rfl, trivial⟩ ?_
                exact ihL3 (x21) ((i2 + 1)) (by omega) (by omega) (by omega) (by omega) (by omega) (by omega) 
  exact L3 _ ((-1)) (0) (Nat.lt_succ_self _) (by omega) (by omega) (by omega) (by omega) (by omega) 
set_option maxHeartbeats 4000000 in
set_option maxRecDepth 100000 in
/-- EarlyendsModel.part -/
theorem s_X8_part (l : Launch) (hl : l.stackTraces = false) {kc km : Int} {h : dm_H} (hI : Inv kc km h) {a1 : Int} (h1a : -2147483648 ≤ a1) (h1b : a1 ≤ 2147483647) {a2 : Int} (h2a : -2147483648 ≤ a2) (h2b : a2 ≤ 2147483647) {a3 : Int} (h3a : -2147483648 ≤ a3) (h3b : a3 ≤ 2147483647) : dm_M l 159 2 0 0 [.ref 26, dI (a1), dI (a2), dI (a3)] h (QS kc km h (RI (fun x => True)) []) := by
  refine dm_M_of dk_159 hl rfl (Nat.le_of_ble_eq_true rfl) ?_
  show dm_W (fun _ _ _ => True) (dm_P (QS kc km h (RI (fun x => True)) []) 0 0) l 159 2 0 0 0 [some (.ref 26), some (dI (a1)), some (dI (a2)), some (dI (a3))] [] h 0 0
  refine di_aload_n rfl rfl ?_
  refine dr_iload_n rfl rfl ?_
  refine dr_stat rfl rfl rfl rfl (s_X8_isNoBook l hl hI (a0 := a1) (by omega) (by omega)) (by decide) (by decide) (by decide) (Nat.le_of_ble_eq_true rfl) kNP (kIP (fun y1 y1f y1a y1b => ?_))
  have y1g : 0 ≤ y1 ∧ y1 ≤ 1 ∧ (y1 = 0 → 0 ≤ (a1) ∧ (a1) ≤ 2) := y1f
  refine di_const rfl ?_
  obtain ⟨th_2, ni_5, pb_8, lo_11, hi_14, hb_17, ls_20, re_23, he_26, c3, c4, c6, c7, c9, c10, c12, c13, c15, c16, c18, c19, c21, c22, c24, c25, c27, hc28⟩ := I_md hI
  have ho29 : he_26 = -1 ∨ (0 ≤ he_26 ∧ he_26 ≤ 9999 ∧ he_26 % 100 ≤ he_26 / 100) := c27
  obtain ⟨vs30, hc31, ha32⟩ := I_sz hI
  refine dr_virt rfl rfl rfl rfl hc28 (s_X8_start l hl hI (a1 := y1) (by omega) (by omega) (a2 := 1) (by omega) (by omega) (mth := th_2) (mni := ni_5) (mpb := pb_8) (mlo := lo_11) (mhi := hi_14) (mhb := hb_17) (mls := ls_20) (mre := re_23) (mhe := he_26) hc28 (by omega) (by omega) (by omega) (by omega) (by omega) (by omega) (by omega) (by omega) (by omega) (by omega) (by omega) (by omega) (by omega) (by omega) (by omega) (by omega) c27 (us := vs30) hc31 ha32) (by decide) (by decide) (by decide) (Nat.le_of_ble_eq_true rfl) kQMN (kQMI (fun y42 h33 hI34 hE35 fs9 hc37 hM9 us38 hu39 ha40 hU41 y42f y42a y42b => ?_))
  obtain ⟨th_36, th_36a, th_36b, rfl⟩ := hM9
  have hU41 : us38 = vs30 := hU41
  subst hU41
  have hE43 := hE35
  have y42g : 0 ≤ y42 ∧ y42 ≤ 1 ∧ (y42 = 0 → (y1) = 0) := y42f
  refine di_if_ne rfl rfl (by omega) (by omega) (fun c44 => ?_) (fun c44 => ?_)
  · skip
    refine di_const rfl ?_
    exact dr_iret (ty := .int) rfl rfl rfl (by decide) (by decide) ⟨hI34, hE43, 0, trivial, by omega, by omega, rfl⟩
  · skip
    refine di_aload_n rfl rfl ?_
    refine dr_iload_n rfl rfl ?_
    refine di_const rfl ?_
    refine di_icmp_lt rfl rfl (by omega) (by omega) (by omega) (by omega) (fun c45 => ?_) (fun c45 => ?_)
    · skip
      refine di_const rfl ?_
      refine dr_goto rfl rfl ?_
      refine di_const rfl ?_
      refine dr_virt rfl rfl rfl rfl hc37 (s_X8_refuse l hl hI34 (a1 := 1) (by omega) (by omega) (a2 := 2) (by omega) (by omega) (mth := th_36) (mni := ni_5) (mpb := pb_8) (mlo := lo_11) (mhi := hi_14) (mhb := hb_17) (mls := ls_20) (mre := re_23) (mhe := he_26) hc37 (by omega) (by omega) (by omega) (by omega) (by omega) (by omega) (by omega) (by omega) (by omega) (by omega) (by omega) (by omega) (by omega) (by omega) (by omega) (by omega) c27 (us := us38) hu39 ha40) (by decide) (by decide) (by decide) (Nat.le_of_ble_eq_true rfl) kQMN (kQMI (fun y55 h46 hI47 hE48 fs9 hc50 hM9 us51 hu52 ha53 hU54 y55f y55a y55b => ?_))
      obtain ⟨th_49, th_49a, th_49b, rfl⟩ := hM9
      have hU54 : us51 = us38 := hU54
      subst hU54
      have hE56 := Ext_tr hE43 hE48
      have y55g : 0 ≤ y55 ∧ y55 ≤ 1 ∧ (y55 = 0 → ((1) : Int) = 0) := y55f
      refine di_if_eq rfl rfl (by omega) (by omega) (fun c57 => ?_) (fun c57 => ?_)
      · skip
        refine di_aload_n rfl rfl ?_
        refine dr_iload_n rfl rfl ?_
        refine pf rfl hc50 (Nat.le_of_ble_eq_true rfl) rfl hI47 (by decide) (T37_md (by omega) (by omega) (by omega) (by omega) (by omega) (by omega) (by omega) (by omega) (by first | assumption | omega)) (fun h58 hI59 hE60 hc61 hk62 => ?_)
        have hc63 := (hk62 (35) (by decide)).trans hu52
        have hE64 := Ext_tr hE56 hE60
        refine di_aload_n rfl rfl ?_
        refine dr_iload_n rfl rfl ?_
        refine pf rfl hc61 (Nat.le_of_ble_eq_true rfl) rfl hI59 (by decide) (T37_md (by omega) (by omega) (by omega) (by omega) (by omega) (by omega) (by omega) (by omega) (by first | assumption | omega)) (fun h65 hI66 hE67 hc68 hk69 => ?_)
        have hc70 := (hk69 (35) (by decide)).trans hc63
        have hE71 := Ext_tr hE64 hE67
        refine di_aload_n rfl rfl ?_
        refine dr_iload_n rfl rfl ?_
        refine pf rfl hc68 (Nat.le_of_ble_eq_true rfl) rfl hI66 (by decide) (T37_md (by omega) (by omega) (by omega) (by omega) (by omega) (by omega) (by omega) (by omega) (by first | assumption | omega)) (fun h72 hI73 hE74 hc75 hk76 => ?_)
        have hc77 := (hk76 (35) (by decide)).trans hc70
        have hE78 := Ext_tr hE71 hE74
        refine di_aload_n rfl rfl ?_
        refine dr_virt rfl rfl rfl rfl hc75 (s_X8_partSize l hl hI73 (mth := th_49) (mni := ni_5) (mpb := a1) (mlo := a2) (mhi := a3) (mhb := hb_17) (mls := ls_20) (mre := re_23) (mhe := he_26) hc75 (by omega) (by omega) (by omega) (by omega) (by omega) (by omega) (by omega) (by omega) (by omega) (by omega) (by omega) (by omega) (by omega) (by omega) (by omega) (by omega) c27 (by omega)) (by decide) (by decide) (by decide) (Nat.le_of_ble_eq_true rfl) kNP (kIP (fun y79 y79f y79a y79b => ?_))
        have y79g : 0 ≤ y79 ∧ y79 ≤ 8 := y79f
        exact dr_iret (ty := .int) rfl rfl rfl (by decide) (by decide) ⟨hI73, hE78, y79, trivial, by omega, by omega, rfl⟩
      · skip
        refine di_const rfl ?_
        exact dr_iret (ty := .int) rfl rfl rfl (by decide) (by decide) ⟨hI47, hE56, 0, trivial, by omega, by omega, rfl⟩
    · skip
      refine dr_iload_n rfl rfl ?_
      refine di_bipush rfl (by decide) ?_
      refine di_icmp_gt rfl rfl (by omega) (by omega) (by omega) (by omega) (fun c80 => ?_) (fun c80 => ?_)
      · skip
        refine di_const rfl ?_
        refine dr_goto rfl rfl ?_
        refine di_const rfl ?_
        refine dr_virt rfl rfl rfl rfl hc37 (s_X8_refuse l hl hI34 (a1 := 1) (by omega) (by omega) (a2 := 2) (by omega) (by omega) (mth := th_36) (mni := ni_5) (mpb := pb_8) (mlo := lo_11) (mhi := hi_14) (mhb := hb_17) (mls := ls_20) (mre := re_23) (mhe := he_26) hc37 (by omega) (by omega) (by omega) (by omega) (by omega) (by omega) (by omega) (by omega) (by omega) (by omega) (by omega) (by omega) (by omega) (by omega) (by omega) (by omega) c27 (us := us38) hu39 ha40) (by decide) (by decide) (by decide) (Nat.le_of_ble_eq_true rfl) kQMN (kQMI (fun y90 h81 hI82 hE83 fs9 hc85 hM9 us86 hu87 ha88 hU89 y90f y90a y90b => ?_))
        obtain ⟨th_84, th_84a, th_84b, rfl⟩ := hM9
        have hU89 : us86 = us38 := hU89
        subst hU89
        have hE91 := Ext_tr hE43 hE83
        have y90g : 0 ≤ y90 ∧ y90 ≤ 1 ∧ (y90 = 0 → ((1) : Int) = 0) := y90f
        refine di_if_eq rfl rfl (by omega) (by omega) (fun c92 => ?_) (fun c92 => ?_)
        · skip
          refine di_aload_n rfl rfl ?_
          refine dr_iload_n rfl rfl ?_
          refine pf rfl hc85 (Nat.le_of_ble_eq_true rfl) rfl hI82 (by decide) (T37_md (by omega) (by omega) (by omega) (by omega) (by omega) (by omega) (by omega) (by omega) (by first | assumption | omega)) (fun h93 hI94 hE95 hc96 hk97 => ?_)
          have hc98 := (hk97 (35) (by decide)).trans hu87
          have hE99 := Ext_tr hE91 hE95
          refine di_aload_n rfl rfl ?_
          refine dr_iload_n rfl rfl ?_
          refine pf rfl hc96 (Nat.le_of_ble_eq_true rfl) rfl hI94 (by decide) (T37_md (by omega) (by omega) (by omega) (by omega) (by omega) (by omega) (by omega) (by omega) (by first | assumption | omega)) (fun h100 hI101 hE102 hc103 hk104 => ?_)
          have hc105 := (hk104 (35) (by decide)).trans hc98
          have hE106 := Ext_tr hE99 hE102
          refine di_aload_n rfl rfl ?_
          refine dr_iload_n rfl rfl ?_
          refine pf rfl hc103 (Nat.le_of_ble_eq_true rfl) rfl hI101 (by decide) (T37_md (by omega) (by omega) (by omega) (by omega) (by omega) (by omega) (by omega) (by omega) (by first | assumption | omega)) (fun h107 hI108 hE109 hc110 hk111 => ?_)
          have hc112 := (hk111 (35) (by decide)).trans hc105
          have hE113 := Ext_tr hE106 hE109
          refine di_aload_n rfl rfl ?_
          refine dr_virt rfl rfl rfl rfl hc110 (s_X8_partSize l hl hI108 (mth := th_84) (mni := ni_5) (mpb := a1) (mlo := a2) (mhi := a3) (mhb := hb_17) (mls := ls_20) (mre := re_23) (mhe := he_26) hc110 (by omega) (by omega) (by omega) (by omega) (by omega) (by omega) (by omega) (by omega) (by omega) (by omega) (by omega) (by omega) (by omega) (by omega) (by omega) (by omega) c27 (by omega)) (by decide) (by decide) (by decide) (Nat.le_of_ble_eq_true rfl) kNP (kIP (fun y114 y114f y114a y114b => ?_))
          have y114g : 0 ≤ y114 ∧ y114 ≤ 8 := y114f
          exact dr_iret (ty := .int) rfl rfl rfl (by decide) (by decide) ⟨hI108, hE113, y114, trivial, by omega, by omega, rfl⟩
        · skip
          refine di_const rfl ?_
          exact dr_iret (ty := .int) rfl rfl rfl (by decide) (by decide) ⟨hI82, hE91, 0, trivial, by omega, by omega, rfl⟩
      · skip
        refine dr_iload_n rfl rfl ?_
        refine di_const rfl ?_
        refine di_icmp_lt rfl rfl (by omega) (by omega) (by omega) (by omega) (fun c115 => ?_) (fun c115 => ?_)
        · skip
          refine di_const rfl ?_
          refine dr_goto rfl rfl ?_
          refine di_const rfl ?_
          refine dr_virt rfl rfl rfl rfl hc37 (s_X8_refuse l hl hI34 (a1 := 1) (by omega) (by omega) (a2 := 2) (by omega) (by omega) (mth := th_36) (mni := ni_5) (mpb := pb_8) (mlo := lo_11) (mhi := hi_14) (mhb := hb_17) (mls := ls_20) (mre := re_23) (mhe := he_26) hc37 (by omega) (by omega) (by omega) (by omega) (by omega) (by omega) (by omega) (by omega) (by omega) (by omega) (by omega) (by omega) (by omega) (by omega) (by omega) (by omega) c27 (us := us38) hu39 ha40) (by decide) (by decide) (by decide) (Nat.le_of_ble_eq_true rfl) kQMN (kQMI (fun y125 h116 hI117 hE118 fs9 hc120 hM9 us121 hu122 ha123 hU124 y125f y125a y125b => ?_))
          obtain ⟨th_119, th_119a, th_119b, rfl⟩ := hM9
          have hU124 : us121 = us38 := hU124
          subst hU124
          have hE126 := Ext_tr hE43 hE118
          have y125g : 0 ≤ y125 ∧ y125 ≤ 1 ∧ (y125 = 0 → ((1) : Int) = 0) := y125f
          refine di_if_eq rfl rfl (by omega) (by omega) (fun c127 => ?_) (fun c127 => ?_)
          · skip
            refine di_aload_n rfl rfl ?_
            refine dr_iload_n rfl rfl ?_
            refine pf rfl hc120 (Nat.le_of_ble_eq_true rfl) rfl hI117 (by decide) (T37_md (by omega) (by omega) (by omega) (by omega) (by omega) (by omega) (by omega) (by omega) (by first | assumption | omega)) (fun h128 hI129 hE130 hc131 hk132 => ?_)
            have hc133 := (hk132 (35) (by decide)).trans hu122
            have hE134 := Ext_tr hE126 hE130
            refine di_aload_n rfl rfl ?_
            refine dr_iload_n rfl rfl ?_
            refine pf rfl hc131 (Nat.le_of_ble_eq_true rfl) rfl hI129 (by decide) (T37_md (by omega) (by omega) (by omega) (by omega) (by omega) (by omega) (by omega) (by omega) (by first | assumption | omega)) (fun h135 hI136 hE137 hc138 hk139 => ?_)
            have hc140 := (hk139 (35) (by decide)).trans hc133
            have hE141 := Ext_tr hE134 hE137
            refine di_aload_n rfl rfl ?_
            refine dr_iload_n rfl rfl ?_
            refine pf rfl hc138 (Nat.le_of_ble_eq_true rfl) rfl hI136 (by decide) (T37_md (by omega) (by omega) (by omega) (by omega) (by omega) (by omega) (by omega) (by omega) (by first | assumption | omega)) (fun h142 hI143 hE144 hc145 hk146 => ?_)
            have hc147 := (hk146 (35) (by decide)).trans hc140
            have hE148 := Ext_tr hE141 hE144
            refine di_aload_n rfl rfl ?_
            refine dr_virt rfl rfl rfl rfl hc145 (s_X8_partSize l hl hI143 (mth := th_119) (mni := ni_5) (mpb := a1) (mlo := a2) (mhi := a3) (mhb := hb_17) (mls := ls_20) (mre := re_23) (mhe := he_26) hc145 (by omega) (by omega) (by omega) (by omega) (by omega) (by omega) (by omega) (by omega) (by omega) (by omega) (by omega) (by omega) (by omega) (by omega) (by omega) (by omega) c27 (by omega)) (by decide) (by decide) (by decide) (Nat.le_of_ble_eq_true rfl) kNP (kIP (fun y149 y149f y149a y149b => ?_))
            have y149g : 0 ≤ y149 ∧ y149 ≤ 8 := y149f
            exact dr_iret (ty := .int) rfl rfl rfl (by decide) (by decide) ⟨hI143, hE148, y149, trivial, by omega, by omega, rfl⟩
          · skip
            refine di_const rfl ?_
            exact dr_iret (ty := .int) rfl rfl rfl (by decide) (by decide) ⟨hI117, hE126, 0, trivial, by omega, by omega, rfl⟩
        · skip
          refine dr_iload_n rfl rfl ?_
          refine di_bipush rfl (by decide) ?_
          refine di_icmp_gt rfl rfl (by omega) (by omega) (by omega) (by omega) (fun c150 => ?_) (fun c150 => ?_)
          · skip
            refine di_const rfl ?_
            refine dr_goto rfl rfl ?_
            refine di_const rfl ?_
            refine dr_virt rfl rfl rfl rfl hc37 (s_X8_refuse l hl hI34 (a1 := 1) (by omega) (by omega) (a2 := 2) (by omega) (by omega) (mth := th_36) (mni := ni_5) (mpb := pb_8) (mlo := lo_11) (mhi := hi_14) (mhb := hb_17) (mls := ls_20) (mre := re_23) (mhe := he_26) hc37 (by omega) (by omega) (by omega) (by omega) (by omega) (by omega) (by omega) (by omega) (by omega) (by omega) (by omega) (by omega) (by omega) (by omega) (by omega) (by omega) c27 (us := us38) hu39 ha40) (by decide) (by decide) (by decide) (Nat.le_of_ble_eq_true rfl) kQMN (kQMI (fun y160 h151 hI152 hE153 fs9 hc155 hM9 us156 hu157 ha158 hU159 y160f y160a y160b => ?_))
            obtain ⟨th_154, th_154a, th_154b, rfl⟩ := hM9
            have hU159 : us156 = us38 := hU159
            subst hU159
            have hE161 := Ext_tr hE43 hE153
            have y160g : 0 ≤ y160 ∧ y160 ≤ 1 ∧ (y160 = 0 → ((1) : Int) = 0) := y160f
            refine di_if_eq rfl rfl (by omega) (by omega) (fun c162 => ?_) (fun c162 => ?_)
            · skip
              refine di_aload_n rfl rfl ?_
              refine dr_iload_n rfl rfl ?_
              refine pf rfl hc155 (Nat.le_of_ble_eq_true rfl) rfl hI152 (by decide) (T37_md (by omega) (by omega) (by omega) (by omega) (by omega) (by omega) (by omega) (by omega) (by first | assumption | omega)) (fun h163 hI164 hE165 hc166 hk167 => ?_)
              have hc168 := (hk167 (35) (by decide)).trans hu157
              have hE169 := Ext_tr hE161 hE165
              refine di_aload_n rfl rfl ?_
              refine dr_iload_n rfl rfl ?_
              refine pf rfl hc166 (Nat.le_of_ble_eq_true rfl) rfl hI164 (by decide) (T37_md (by omega) (by omega) (by omega) (by omega) (by omega) (by omega) (by omega) (by omega) (by first | assumption | omega)) (fun h170 hI171 hE172 hc173 hk174 => ?_)
              have hc175 := (hk174 (35) (by decide)).trans hc168
              have hE176 := Ext_tr hE169 hE172
              refine di_aload_n rfl rfl ?_
              refine dr_iload_n rfl rfl ?_
              refine pf rfl hc173 (Nat.le_of_ble_eq_true rfl) rfl hI171 (by decide) (T37_md (by omega) (by omega) (by omega) (by omega) (by omega) (by omega) (by omega) (by omega) (by first | assumption | omega)) (fun h177 hI178 hE179 hc180 hk181 => ?_)
              have hc182 := (hk181 (35) (by decide)).trans hc175
              have hE183 := Ext_tr hE176 hE179
              refine di_aload_n rfl rfl ?_
              refine dr_virt rfl rfl rfl rfl hc180 (s_X8_partSize l hl hI178 (mth := th_154) (mni := ni_5) (mpb := a1) (mlo := a2) (mhi := a3) (mhb := hb_17) (mls := ls_20) (mre := re_23) (mhe := he_26) hc180 (by omega) (by omega) (by omega) (by omega) (by omega) (by omega) (by omega) (by omega) (by omega) (by omega) (by omega) (by omega) (by omega) (by omega) (by omega) (by omega) c27 (by omega)) (by decide) (by decide) (by decide) (Nat.le_of_ble_eq_true rfl) kNP (kIP (fun y184 y184f y184a y184b => ?_))
              have y184g : 0 ≤ y184 ∧ y184 ≤ 8 := y184f
              exact dr_iret (ty := .int) rfl rfl rfl (by decide) (by decide) ⟨hI178, hE183, y184, trivial, by omega, by omega, rfl⟩
            · skip
              refine di_const rfl ?_
              exact dr_iret (ty := .int) rfl rfl rfl (by decide) (by decide) ⟨hI152, hE161, 0, trivial, by omega, by omega, rfl⟩
          · skip
            refine dr_iload_n rfl rfl ?_
            refine di_if_lt rfl rfl (by omega) (by omega) (fun c185 => ?_) (fun c185 => ?_)
            · skip
              refine di_const rfl ?_
              refine di_const rfl ?_
              refine dr_virt rfl rfl rfl rfl hc37 (s_X8_refuse l hl hI34 (a1 := 0) (by omega) (by omega) (a2 := 2) (by omega) (by omega) (mth := th_36) (mni := ni_5) (mpb := pb_8) (mlo := lo_11) (mhi := hi_14) (mhb := hb_17) (mls := ls_20) (mre := re_23) (mhe := he_26) hc37 (by omega) (by omega) (by omega) (by omega) (by omega) (by omega) (by omega) (by omega) (by omega) (by omega) (by omega) (by omega) (by omega) (by omega) (by omega) (by omega) c27 (us := us38) hu39 ha40) (by decide) (by decide) (by decide) (Nat.le_of_ble_eq_true rfl) kQMN (kQMI (fun y195 h186 hI187 hE188 fs9 hc190 hM9 us191 hu192 ha193 hU194 y195f y195a y195b => ?_))
              obtain ⟨th_189, th_189a, th_189b, rfl⟩ := hM9
              have hU194 : us191 = us38 := hU194
              subst hU194
              have hE196 := Ext_tr hE43 hE188
              have y195g : 0 ≤ y195 ∧ y195 ≤ 1 ∧ (y195 = 0 → ((0) : Int) = 0) := y195f
              refine di_if_eq rfl rfl (by omega) (by omega) (fun c197 => ?_) (fun c197 => ?_)
              · skip
                refine di_aload_n rfl rfl ?_
                refine dr_iload_n rfl rfl ?_
                refine pf rfl hc190 (Nat.le_of_ble_eq_true rfl) rfl hI187 (by decide) (T37_md (by omega) (by omega) (by omega) (by omega) (by omega) (by omega) (by omega) (by omega) (by first | assumption | omega)) (fun h198 hI199 hE200 hc201 hk202 => ?_)
                have hc203 := (hk202 (35) (by decide)).trans hu192
                have hE204 := Ext_tr hE196 hE200
                refine di_aload_n rfl rfl ?_
                refine dr_iload_n rfl rfl ?_
                refine pf rfl hc201 (Nat.le_of_ble_eq_true rfl) rfl hI199 (by decide) (T37_md (by omega) (by omega) (by omega) (by omega) (by omega) (by omega) (by omega) (by omega) (by first | assumption | omega)) (fun h205 hI206 hE207 hc208 hk209 => ?_)
                have hc210 := (hk209 (35) (by decide)).trans hc203
                have hE211 := Ext_tr hE204 hE207
                refine di_aload_n rfl rfl ?_
                refine dr_iload_n rfl rfl ?_
                refine pf rfl hc208 (Nat.le_of_ble_eq_true rfl) rfl hI206 (by decide) (T37_md (by omega) (by omega) (by omega) (by omega) (by omega) (by omega) (by omega) (by omega) (by first | assumption | omega)) (fun h212 hI213 hE214 hc215 hk216 => ?_)
                have hc217 := (hk216 (35) (by decide)).trans hc210
                have hE218 := Ext_tr hE211 hE214
                refine di_aload_n rfl rfl ?_
                refine dr_virt rfl rfl rfl rfl hc215 (s_X8_partSize l hl hI213 (mth := th_189) (mni := ni_5) (mpb := a1) (mlo := a2) (mhi := a3) (mhb := hb_17) (mls := ls_20) (mre := re_23) (mhe := he_26) hc215 (by omega) (by omega) (by omega) (by omega) (by omega) (by omega) (by omega) (by omega) (by omega) (by omega) (by omega) (by omega) (by omega) (by omega) (by omega) (by omega) c27 (by omega)) (by decide) (by decide) (by decide) (Nat.le_of_ble_eq_true rfl) kNP (kIP (fun y219 y219f y219a y219b => ?_))
                have y219g : 0 ≤ y219 ∧ y219 ≤ 8 := y219f
                exact dr_iret (ty := .int) rfl rfl rfl (by decide) (by decide) ⟨hI213, hE218, y219, trivial, by omega, by omega, rfl⟩
              · skip
                refine di_const rfl ?_
                exact dr_iret (ty := .int) rfl rfl rfl (by decide) (by decide) ⟨hI187, hE196, 0, trivial, by omega, by omega, rfl⟩
            · skip
              refine dr_iload_n rfl rfl ?_
              refine di_if_lt rfl rfl (by omega) (by omega) (fun c220 => ?_) (fun c220 => ?_)
              · skip
                refine di_const rfl ?_
                refine di_const rfl ?_
                refine dr_virt rfl rfl rfl rfl hc37 (s_X8_refuse l hl hI34 (a1 := 0) (by omega) (by omega) (a2 := 2) (by omega) (by omega) (mth := th_36) (mni := ni_5) (mpb := pb_8) (mlo := lo_11) (mhi := hi_14) (mhb := hb_17) (mls := ls_20) (mre := re_23) (mhe := he_26) hc37 (by omega) (by omega) (by omega) (by omega) (by omega) (by omega) (by omega) (by omega) (by omega) (by omega) (by omega) (by omega) (by omega) (by omega) (by omega) (by omega) c27 (us := us38) hu39 ha40) (by decide) (by decide) (by decide) (Nat.le_of_ble_eq_true rfl) kQMN (kQMI (fun y230 h221 hI222 hE223 fs9 hc225 hM9 us226 hu227 ha228 hU229 y230f y230a y230b => ?_))
                obtain ⟨th_224, th_224a, th_224b, rfl⟩ := hM9
                have hU229 : us226 = us38 := hU229
                subst hU229
                have hE231 := Ext_tr hE43 hE223
                have y230g : 0 ≤ y230 ∧ y230 ≤ 1 ∧ (y230 = 0 → ((0) : Int) = 0) := y230f
                refine di_if_eq rfl rfl (by omega) (by omega) (fun c232 => ?_) (fun c232 => ?_)
                · skip
                  refine di_aload_n rfl rfl ?_
                  refine dr_iload_n rfl rfl ?_
                  refine pf rfl hc225 (Nat.le_of_ble_eq_true rfl) rfl hI222 (by decide) (T37_md (by omega) (by omega) (by omega) (by omega) (by omega) (by omega) (by omega) (by omega) (by first | assumption | omega)) (fun h233 hI234 hE235 hc236 hk237 => ?_)
                  have hc238 := (hk237 (35) (by decide)).trans hu227
                  have hE239 := Ext_tr hE231 hE235
                  refine di_aload_n rfl rfl ?_
                  refine dr_iload_n rfl rfl ?_
                  refine pf rfl hc236 (Nat.le_of_ble_eq_true rfl) rfl hI234 (by decide) (T37_md (by omega) (by omega) (by omega) (by omega) (by omega) (by omega) (by omega) (by omega) (by first | assumption | omega)) (fun h240 hI241 hE242 hc243 hk244 => ?_)
                  have hc245 := (hk244 (35) (by decide)).trans hc238
                  have hE246 := Ext_tr hE239 hE242
                  refine di_aload_n rfl rfl ?_
                  refine dr_iload_n rfl rfl ?_
                  refine pf rfl hc243 (Nat.le_of_ble_eq_true rfl) rfl hI241 (by decide) (T37_md (by omega) (by omega) (by omega) (by omega) (by omega) (by omega) (by omega) (by omega) (by first | assumption | omega)) (fun h247 hI248 hE249 hc250 hk251 => ?_)
                  have hc252 := (hk251 (35) (by decide)).trans hc245
                  have hE253 := Ext_tr hE246 hE249
                  refine di_aload_n rfl rfl ?_
                  refine dr_virt rfl rfl rfl rfl hc250 (s_X8_partSize l hl hI248 (mth := th_224) (mni := ni_5) (mpb := a1) (mlo := a2) (mhi := a3) (mhb := hb_17) (mls := ls_20) (mre := re_23) (mhe := he_26) hc250 (by omega) (by omega) (by omega) (by omega) (by omega) (by omega) (by omega) (by omega) (by omega) (by omega) (by omega) (by omega) (by omega) (by omega) (by omega) (by omega) c27 (by omega)) (by decide) (by decide) (by decide) (Nat.le_of_ble_eq_true rfl) kNP (kIP (fun y254 y254f y254a y254b => ?_))
                  have y254g : 0 ≤ y254 ∧ y254 ≤ 8 := y254f
                  exact dr_iret (ty := .int) rfl rfl rfl (by decide) (by decide) ⟨hI248, hE253, y254, trivial, by omega, by omega, rfl⟩
                · skip
                  refine di_const rfl ?_
                  exact dr_iret (ty := .int) rfl rfl rfl (by decide) (by decide) ⟨hI222, hE231, 0, trivial, by omega, by omega, rfl⟩
              · skip
                refine dr_iload_n rfl rfl ?_
                refine dr_iload_n rfl rfl ?_
                refine di_icmp_le rfl rfl (by omega) (by omega) (by omega) (by omega) (fun c255 => ?_) (fun c255 => ?_)
                · skip
                  refine di_const rfl ?_
                  refine di_const rfl ?_
                  refine dr_virt rfl rfl rfl rfl hc37 (s_X8_refuse l hl hI34 (a1 := 0) (by omega) (by omega) (a2 := 2) (by omega) (by omega) (mth := th_36) (mni := ni_5) (mpb := pb_8) (mlo := lo_11) (mhi := hi_14) (mhb := hb_17) (mls := ls_20) (mre := re_23) (mhe := he_26) hc37 (by omega) (by omega) (by omega) (by omega) (by omega) (by omega) (by omega) (by omega) (by omega) (by omega) (by omega) (by omega) (by omega) (by omega) (by omega) (by omega) c27 (us := us38) hu39 ha40) (by decide) (by decide) (by decide) (Nat.le_of_ble_eq_true rfl) kQMN (kQMI (fun y265 h256 hI257 hE258 fs9 hc260 hM9 us261 hu262 ha263 hU264 y265f y265a y265b => ?_))
                  obtain ⟨th_259, th_259a, th_259b, rfl⟩ := hM9
                  have hU264 : us261 = us38 := hU264
                  subst hU264
                  have hE266 := Ext_tr hE43 hE258
                  have y265g : 0 ≤ y265 ∧ y265 ≤ 1 ∧ (y265 = 0 → ((0) : Int) = 0) := y265f
                  refine di_if_eq rfl rfl (by omega) (by omega) (fun c267 => ?_) (fun c267 => ?_)
                  · skip
                    refine di_aload_n rfl rfl ?_
                    refine dr_iload_n rfl rfl ?_
                    refine pf rfl hc260 (Nat.le_of_ble_eq_true rfl) rfl hI257 (by decide) (T37_md (by omega) (by omega) (by omega) (by omega) (by omega) (by omega) (by omega) (by omega) (by first | assumption | omega)) (fun h268 hI269 hE270 hc271 hk272 => ?_)
                    have hc273 := (hk272 (35) (by decide)).trans hu262
                    have hE274 := Ext_tr hE266 hE270
                    refine di_aload_n rfl rfl ?_
                    refine dr_iload_n rfl rfl ?_
                    refine pf rfl hc271 (Nat.le_of_ble_eq_true rfl) rfl hI269 (by decide) (T37_md (by omega) (by omega) (by omega) (by omega) (by omega) (by omega) (by omega) (by omega) (by first | assumption | omega)) (fun h275 hI276 hE277 hc278 hk279 => ?_)
                    have hc280 := (hk279 (35) (by decide)).trans hc273
                    have hE281 := Ext_tr hE274 hE277
                    refine di_aload_n rfl rfl ?_
                    refine dr_iload_n rfl rfl ?_
                    refine pf rfl hc278 (Nat.le_of_ble_eq_true rfl) rfl hI276 (by decide) (T37_md (by omega) (by omega) (by omega) (by omega) (by omega) (by omega) (by omega) (by omega) (by first | assumption | omega)) (fun h282 hI283 hE284 hc285 hk286 => ?_)
                    have hc287 := (hk286 (35) (by decide)).trans hc280
                    have hE288 := Ext_tr hE281 hE284
                    refine di_aload_n rfl rfl ?_
                    refine dr_virt rfl rfl rfl rfl hc285 (s_X8_partSize l hl hI283 (mth := th_259) (mni := ni_5) (mpb := a1) (mlo := a2) (mhi := a3) (mhb := hb_17) (mls := ls_20) (mre := re_23) (mhe := he_26) hc285 (by omega) (by omega) (by omega) (by omega) (by omega) (by omega) (by omega) (by omega) (by omega) (by omega) (by omega) (by omega) (by omega) (by omega) (by omega) (by omega) c27 (by omega)) (by decide) (by decide) (by decide) (Nat.le_of_ble_eq_true rfl) kNP (kIP (fun y289 y289f y289a y289b => ?_))
                    have y289g : 0 ≤ y289 ∧ y289 ≤ 8 := y289f
                    exact dr_iret (ty := .int) rfl rfl rfl (by decide) (by decide) ⟨hI283, hE288, y289, trivial, by omega, by omega, rfl⟩
                  · skip
                    refine di_const rfl ?_
                    exact dr_iret (ty := .int) rfl rfl rfl (by decide) (by decide) ⟨hI257, hE266, 0, trivial, by omega, by omega, rfl⟩
                · skip
                  refine di_const rfl ?_
                  refine dr_goto rfl rfl ?_
                  refine di_const rfl ?_
                  refine dr_virt rfl rfl rfl rfl hc37 (s_X8_refuse l hl hI34 (a1 := 1) (by omega) (by omega) (a2 := 2) (by omega) (by omega) (mth := th_36) (mni := ni_5) (mpb := pb_8) (mlo := lo_11) (mhi := hi_14) (mhb := hb_17) (mls := ls_20) (mre := re_23) (mhe := he_26) hc37 (by omega) (by omega) (by omega) (by omega) (by omega) (by omega) (by omega) (by omega) (by omega) (by omega) (by omega) (by omega) (by omega) (by omega) (by omega) (by omega) c27 (us := us38) hu39 ha40) (by decide) (by decide) (by decide) (Nat.le_of_ble_eq_true rfl) kQMN (kQMI (fun y299 h290 hI291 hE292 fs9 hc294 hM9 us295 hu296 ha297 hU298 y299f y299a y299b => ?_))
                  obtain ⟨th_293, th_293a, th_293b, rfl⟩ := hM9
                  have hU298 : us295 = us38 := hU298
                  subst hU298
                  have hE300 := Ext_tr hE43 hE292
                  have y299g : 0 ≤ y299 ∧ y299 ≤ 1 ∧ (y299 = 0 → ((1) : Int) = 0) := y299f
                  refine di_if_eq rfl rfl (by omega) (by omega) (fun c301 => ?_) (fun c301 => ?_)
                  · skip
                    refine di_aload_n rfl rfl ?_
                    refine dr_iload_n rfl rfl ?_
                    refine pf rfl hc294 (Nat.le_of_ble_eq_true rfl) rfl hI291 (by decide) (T37_md (by omega) (by omega) (by omega) (by omega) (by omega) (by omega) (by omega) (by omega) (by first | assumption | omega)) (fun h302 hI303 hE304 hc305 hk306 => ?_)
                    have hc307 := (hk306 (35) (by decide)).trans hu296
                    have hE308 := Ext_tr hE300 hE304
                    refine di_aload_n rfl rfl ?_
                    refine dr_iload_n rfl rfl ?_
                    refine pf rfl hc305 (Nat.le_of_ble_eq_true rfl) rfl hI303 (by decide) (T37_md (by omega) (by omega) (by omega) (by omega) (by omega) (by omega) (by omega) (by omega) (by first | assumption | omega)) (fun h309 hI310 hE311 hc312 hk313 => ?_)
                    have hc314 := (hk313 (35) (by decide)).trans hc307
                    have hE315 := Ext_tr hE308 hE311
                    refine di_aload_n rfl rfl ?_
                    refine dr_iload_n rfl rfl ?_
                    refine pf rfl hc312 (Nat.le_of_ble_eq_true rfl) rfl hI310 (by decide) (T37_md (by omega) (by omega) (by omega) (by omega) (by omega) (by omega) (by omega) (by omega) (by first | assumption | omega)) (fun h316 hI317 hE318 hc319 hk320 => ?_)
                    have hc321 := (hk320 (35) (by decide)).trans hc314
                    have hE322 := Ext_tr hE315 hE318
                    refine di_aload_n rfl rfl ?_
                    refine dr_virt rfl rfl rfl rfl hc319 (s_X8_partSize l hl hI317 (mth := th_293) (mni := ni_5) (mpb := a1) (mlo := a2) (mhi := a3) (mhb := hb_17) (mls := ls_20) (mre := re_23) (mhe := he_26) hc319 (by omega) (by omega) (by omega) (by omega) (by omega) (by omega) (by omega) (by omega) (by omega) (by omega) (by omega) (by omega) (by omega) (by omega) (by omega) (by omega) c27 (by omega)) (by decide) (by decide) (by decide) (Nat.le_of_ble_eq_true rfl) kNP (kIP (fun y323 y323f y323a y323b => ?_))
                    have y323g : 0 ≤ y323 ∧ y323 ≤ 8 := y323f
                    exact dr_iret (ty := .int) rfl rfl rfl (by decide) (by decide) ⟨hI317, hE322, y323, trivial, by omega, by omega, rfl⟩
                  · skip
                    refine di_const rfl ?_
                    exact dr_iret (ty := .int) rfl rfl rfl (by decide) (by decide) ⟨hI291, hE300, 0, trivial, by omega, by omega, rfl⟩
set_option maxHeartbeats 4000000 in
set_option maxRecDepth 100000 in
/-- EarlyendsModel.narrow -/
theorem s_X8_narrow (l : Launch) (hl : l.stackTraces = false) {kc km : Int} {h : dm_H} (hI : Inv kc km h) {a1 : Int} (h1a : -2147483648 ≤ a1) (h1b : a1 ≤ 2147483647) {a2 : Int} (h2a : -2147483648 ≤ a2) (h2b : a2 ≤ 2147483647) : dm_M l 160 2 0 0 [.ref 26, dI (a1), dI (a2)] h (QS kc km h (RI (fun x => True)) []) := by
  refine dm_M_of dk_160 hl rfl (Nat.le_of_ble_eq_true rfl) ?_
  show dm_W (fun _ _ _ => True) (dm_P (QS kc km h (RI (fun x => True)) []) 0 0) l 160 2 0 0 0 [some (.ref 26), some (dI (a1)), some (dI (a2))] [] h 0 0
  refine di_aload_n rfl rfl ?_
  refine dr_iload_n rfl rfl ?_
  refine dr_stat rfl rfl rfl rfl (s_X8_isNo99 l hl hI (a0 := a1) (by omega) (by omega)) (by decide) (by decide) (by decide) (Nat.le_of_ble_eq_true rfl) kNP (kIP (fun y1 y1f y1a y1b => ?_))
  have y1g : 0 ≤ y1 ∧ y1 ≤ 1 ∧ (y1 = 0 → 0 ≤ (a1) ∧ (a1) ≤ 99) := y1f
  refine di_if_ne rfl rfl (by omega) (by omega) (fun c2 => ?_) (fun c2 => ?_)
  · skip
    refine di_const rfl ?_
    refine dr_goto rfl rfl ?_
    refine di_const rfl ?_
    obtain ⟨th_3, ni_6, pb_9, lo_12, hi_15, hb_18, ls_21, re_24, he_27, c4, c5, c7, c8, c10, c11, c13, c14, c16, c17, c19, c20, c22, c23, c25, c26, c28, hc29⟩ := I_md hI
    have ho30 : he_27 = -1 ∨ (0 ≤ he_27 ∧ he_27 ≤ 9999 ∧ he_27 % 100 ≤ he_27 / 100) := c28
    obtain ⟨vs31, hc32, ha33⟩ := I_sz hI
    refine dr_virt rfl rfl rfl rfl hc29 (s_X8_start l hl hI (a1 := 1) (by omega) (by omega) (a2 := 1) (by omega) (by omega) (mth := th_3) (mni := ni_6) (mpb := pb_9) (mlo := lo_12) (mhi := hi_15) (mhb := hb_18) (mls := ls_21) (mre := re_24) (mhe := he_27) hc29 (by omega) (by omega) (by omega) (by omega) (by omega) (by omega) (by omega) (by omega) (by omega) (by omega) (by omega) (by omega) (by omega) (by omega) (by omega) (by omega) c28 (us := vs31) hc32 ha33) (by decide) (by decide) (by decide) (Nat.le_of_ble_eq_true rfl) kQMN (kQMI (fun y43 h34 hI35 hE36 fs9 hc38 hM9 us39 hu40 ha41 hU42 y43f y43a y43b => ?_))
    obtain ⟨th_37, th_37a, th_37b, rfl⟩ := hM9
    have hU42 : us39 = vs31 := hU42
    subst hU42
    have hE44 := hE36
    have y43g : 0 ≤ y43 ∧ y43 ≤ 1 ∧ (y43 = 0 → ((1) : Int) = 0) := y43f
    refine di_if_ne rfl rfl (by omega) (by omega) (fun c45 => ?_) (fun c45 => ?_)
    · skip
      refine di_const rfl ?_
      exact dr_iret (ty := .int) rfl rfl rfl (by decide) (by decide) ⟨hI35, hE44, 0, trivial, by omega, by omega, rfl⟩
    · skip
      refine di_aload_n rfl rfl ?_
      refine di_aload_n rfl rfl ?_
      refine dr_getf rfl hc38 rfl ?_
      refine di_const rfl ?_
      refine di_icmp_ne rfl rfl (by omega) (by omega) (by omega) (by omega) (fun c46 => ?_) (fun c46 => ?_)
      · skip
        refine di_const rfl ?_
        refine di_const rfl ?_
        refine dr_virt rfl rfl rfl rfl hc38 (s_X8_refuse l hl hI35 (a1 := 0) (by omega) (by omega) (a2 := 2) (by omega) (by omega) (mth := th_37) (mni := ni_6) (mpb := pb_9) (mlo := lo_12) (mhi := hi_15) (mhb := hb_18) (mls := ls_21) (mre := re_24) (mhe := he_27) hc38 (by omega) (by omega) (by omega) (by omega) (by omega) (by omega) (by omega) (by omega) (by omega) (by omega) (by omega) (by omega) (by omega) (by omega) (by omega) (by omega) c28 (us := us39) hu40 ha41) (by decide) (by decide) (by decide) (Nat.le_of_ble_eq_true rfl) kQMN (kQMI (fun y56 h47 hI48 hE49 fs9 hc51 hM9 us52 hu53 ha54 hU55 y56f y56a y56b => ?_))
        obtain ⟨th_50, th_50a, th_50b, rfl⟩ := hM9
        have hU55 : us52 = us39 := hU55
        subst hU55
        have hE57 := Ext_tr hE44 hE49
        have y56g : 0 ≤ y56 ∧ y56 ≤ 1 ∧ (y56 = 0 → ((0) : Int) = 0) := y56f
        refine di_if_eq rfl rfl (by omega) (by omega) (fun c58 => ?_) (fun c58 => ?_)
        · skip
          refine di_aload_n rfl rfl ?_
          refine dr_getf rfl hc51 rfl ?_
          refine di_const rfl ?_
          refine di_icmp_eq rfl rfl (by omega) (by omega) (by omega) (by omega) (fun c59 => ?_) (fun c59 => ?_)
          · skip
            refine di_aload_n rfl rfl ?_
            refine dr_getf rfl hc51 rfl ?_
            refine di_const rfl ?_
            refine di_icmp_eq rfl rfl (by omega) (by omega) (by omega) (by omega) (fun c60 => ?_) (fun c60 => ?_)
            · skip
              refine di_aload_n rfl rfl ?_
              refine dr_iload_n rfl rfl ?_
              refine pf rfl hc51 (Nat.le_of_ble_eq_true rfl) rfl hI48 (by decide) (T37_md (by omega) (by omega) (by omega) (by omega) (by omega) (by omega) (by omega) (by omega) (by first | assumption | omega)) (fun h61 hI62 hE63 hc64 hk65 => ?_)
              have hc66 := (hk65 (35) (by decide)).trans hu53
              have hE67 := Ext_tr hE57 hE63
              refine di_aload_n rfl rfl ?_
              refine dr_iload_n rfl rfl ?_
              refine pf rfl hc64 (Nat.le_of_ble_eq_true rfl) rfl hI62 (by decide) (T37_md (by omega) (by omega) (by omega) (by omega) (by omega) (by omega) (by omega) (by omega) (by first | assumption | omega)) (fun h68 hI69 hE70 hc71 hk72 => ?_)
              have hc73 := (hk72 (35) (by decide)).trans hc66
              have hE74 := Ext_tr hE67 hE70
              refine di_aload_n rfl rfl ?_
              refine dr_virt rfl rfl rfl rfl hc71 (s_X8_partSize l hl hI69 (mth := th_50) (mni := ni_6) (mpb := pb_9) (mlo := a1) (mhi := a2) (mhb := hb_18) (mls := ls_21) (mre := re_24) (mhe := he_27) hc71 (by omega) (by omega) (by omega) (by omega) (by omega) (by omega) (by omega) (by omega) (by omega) (by omega) (by omega) (by omega) (by omega) (by omega) (by omega) (by omega) c28 (by omega)) (by decide) (by decide) (by decide) (Nat.le_of_ble_eq_true rfl) kNP (kIP (fun y75 y75f y75a y75b => ?_))
              have y75g : 0 ≤ y75 ∧ y75 ≤ 8 := y75f
              exact dr_iret (ty := .int) rfl rfl rfl (by decide) (by decide) ⟨hI69, hE74, y75, trivial, by omega, by omega, rfl⟩
            · skip
              refine dr_iload_n rfl rfl ?_
              refine di_aload_n rfl rfl ?_
              refine dr_getf rfl hc51 rfl ?_
              refine di_icmp_le rfl rfl (by omega) (by omega) (by omega) (by omega) (fun c76 => ?_) (fun c76 => ?_)
              · skip
                refine di_aload_n rfl rfl ?_
                refine dr_iload_n rfl rfl ?_
                refine pf rfl hc51 (Nat.le_of_ble_eq_true rfl) rfl hI48 (by decide) (T37_md (by omega) (by omega) (by omega) (by omega) (by omega) (by omega) (by omega) (by omega) (by first | assumption | omega)) (fun h77 hI78 hE79 hc80 hk81 => ?_)
                have hc82 := (hk81 (35) (by decide)).trans hu53
                have hE83 := Ext_tr hE57 hE79
                refine di_aload_n rfl rfl ?_
                refine dr_iload_n rfl rfl ?_
                refine pf rfl hc80 (Nat.le_of_ble_eq_true rfl) rfl hI78 (by decide) (T37_md (by omega) (by omega) (by omega) (by omega) (by omega) (by omega) (by omega) (by omega) (by first | assumption | omega)) (fun h84 hI85 hE86 hc87 hk88 => ?_)
                have hc89 := (hk88 (35) (by decide)).trans hc82
                have hE90 := Ext_tr hE83 hE86
                refine di_aload_n rfl rfl ?_
                refine dr_virt rfl rfl rfl rfl hc87 (s_X8_partSize l hl hI85 (mth := th_50) (mni := ni_6) (mpb := pb_9) (mlo := a1) (mhi := a2) (mhb := hb_18) (mls := ls_21) (mre := re_24) (mhe := he_27) hc87 (by omega) (by omega) (by omega) (by omega) (by omega) (by omega) (by omega) (by omega) (by omega) (by omega) (by omega) (by omega) (by omega) (by omega) (by omega) (by omega) c28 (by omega)) (by decide) (by decide) (by decide) (Nat.le_of_ble_eq_true rfl) kNP (kIP (fun y91 y91f y91a y91b => ?_))
                have y91g : 0 ≤ y91 ∧ y91 ≤ 8 := y91f
                exact dr_iret (ty := .int) rfl rfl rfl (by decide) (by decide) ⟨hI85, hE90, y91, trivial, by omega, by omega, rfl⟩
              · skip
                refine di_aload_n rfl rfl ?_
                refine dr_virt rfl rfl rfl rfl hc51 (s_X8_nine l hl hI48 ) (by decide) (by decide) (by decide) (Nat.le_of_ble_eq_true rfl) kNS (kIS (fun y95 h92 hI93 hE94 y95f y95a y95b => ?_))
                have hE96 := Ext_tr hE57 hE94
                exact dr_iret (ty := .int) rfl rfl rfl (by decide) (by decide) ⟨hI93, hE96, y95, trivial, by omega, by omega, rfl⟩
          · skip
            refine dr_iload_n rfl rfl ?_
            refine di_aload_n rfl rfl ?_
            refine dr_getf rfl hc51 rfl ?_
            refine di_icmp_lt rfl rfl (by omega) (by omega) (by omega) (by omega) (fun c97 => ?_) (fun c97 => ?_)
            · skip
              refine di_aload_n rfl rfl ?_
              refine dr_virt rfl rfl rfl rfl hc51 (s_X8_nine l hl hI48 ) (by decide) (by decide) (by decide) (Nat.le_of_ble_eq_true rfl) kNS (kIS (fun y101 h98 hI99 hE100 y101f y101a y101b => ?_))
              have hE102 := Ext_tr hE57 hE100
              exact dr_iret (ty := .int) rfl rfl rfl (by decide) (by decide) ⟨hI99, hE102, y101, trivial, by omega, by omega, rfl⟩
            · skip
              refine di_aload_n rfl rfl ?_
              refine dr_getf rfl hc51 rfl ?_
              refine di_const rfl ?_
              refine di_icmp_eq rfl rfl (by omega) (by omega) (by omega) (by omega) (fun c103 => ?_) (fun c103 => ?_)
              · skip
                refine di_aload_n rfl rfl ?_
                refine dr_iload_n rfl rfl ?_
                refine pf rfl hc51 (Nat.le_of_ble_eq_true rfl) rfl hI48 (by decide) (T37_md (by omega) (by omega) (by omega) (by omega) (by omega) (by omega) (by omega) (by omega) (by first | assumption | omega)) (fun h104 hI105 hE106 hc107 hk108 => ?_)
                have hc109 := (hk108 (35) (by decide)).trans hu53
                have hE110 := Ext_tr hE57 hE106
                refine di_aload_n rfl rfl ?_
                refine dr_iload_n rfl rfl ?_
                refine pf rfl hc107 (Nat.le_of_ble_eq_true rfl) rfl hI105 (by decide) (T37_md (by omega) (by omega) (by omega) (by omega) (by omega) (by omega) (by omega) (by omega) (by first | assumption | omega)) (fun h111 hI112 hE113 hc114 hk115 => ?_)
                have hc116 := (hk115 (35) (by decide)).trans hc109
                have hE117 := Ext_tr hE110 hE113
                refine di_aload_n rfl rfl ?_
                refine dr_virt rfl rfl rfl rfl hc114 (s_X8_partSize l hl hI112 (mth := th_50) (mni := ni_6) (mpb := pb_9) (mlo := a1) (mhi := a2) (mhb := hb_18) (mls := ls_21) (mre := re_24) (mhe := he_27) hc114 (by omega) (by omega) (by omega) (by omega) (by omega) (by omega) (by omega) (by omega) (by omega) (by omega) (by omega) (by omega) (by omega) (by omega) (by omega) (by omega) c28 (by omega)) (by decide) (by decide) (by decide) (Nat.le_of_ble_eq_true rfl) kNP (kIP (fun y118 y118f y118a y118b => ?_))
                have y118g : 0 ≤ y118 ∧ y118 ≤ 8 := y118f
                exact dr_iret (ty := .int) rfl rfl rfl (by decide) (by decide) ⟨hI112, hE117, y118, trivial, by omega, by omega, rfl⟩
              · skip
                refine dr_iload_n rfl rfl ?_
                refine di_aload_n rfl rfl ?_
                refine dr_getf rfl hc51 rfl ?_
                refine di_icmp_le rfl rfl (by omega) (by omega) (by omega) (by omega) (fun c119 => ?_) (fun c119 => ?_)
                · skip
                  refine di_aload_n rfl rfl ?_
                  refine dr_iload_n rfl rfl ?_
                  refine pf rfl hc51 (Nat.le_of_ble_eq_true rfl) rfl hI48 (by decide) (T37_md (by omega) (by omega) (by omega) (by omega) (by omega) (by omega) (by omega) (by omega) (by first | assumption | omega)) (fun h120 hI121 hE122 hc123 hk124 => ?_)
                  have hc125 := (hk124 (35) (by decide)).trans hu53
                  have hE126 := Ext_tr hE57 hE122
                  refine di_aload_n rfl rfl ?_
                  refine dr_iload_n rfl rfl ?_
                  refine pf rfl hc123 (Nat.le_of_ble_eq_true rfl) rfl hI121 (by decide) (T37_md (by omega) (by omega) (by omega) (by omega) (by omega) (by omega) (by omega) (by omega) (by first | assumption | omega)) (fun h127 hI128 hE129 hc130 hk131 => ?_)
                  have hc132 := (hk131 (35) (by decide)).trans hc125
                  have hE133 := Ext_tr hE126 hE129
                  refine di_aload_n rfl rfl ?_
                  refine dr_virt rfl rfl rfl rfl hc130 (s_X8_partSize l hl hI128 (mth := th_50) (mni := ni_6) (mpb := pb_9) (mlo := a1) (mhi := a2) (mhb := hb_18) (mls := ls_21) (mre := re_24) (mhe := he_27) hc130 (by omega) (by omega) (by omega) (by omega) (by omega) (by omega) (by omega) (by omega) (by omega) (by omega) (by omega) (by omega) (by omega) (by omega) (by omega) (by omega) c28 (by omega)) (by decide) (by decide) (by decide) (Nat.le_of_ble_eq_true rfl) kNP (kIP (fun y134 y134f y134a y134b => ?_))
                  have y134g : 0 ≤ y134 ∧ y134 ≤ 8 := y134f
                  exact dr_iret (ty := .int) rfl rfl rfl (by decide) (by decide) ⟨hI128, hE133, y134, trivial, by omega, by omega, rfl⟩
                · skip
                  refine di_aload_n rfl rfl ?_
                  refine dr_virt rfl rfl rfl rfl hc51 (s_X8_nine l hl hI48 ) (by decide) (by decide) (by decide) (Nat.le_of_ble_eq_true rfl) kNS (kIS (fun y138 h135 hI136 hE137 y138f y138a y138b => ?_))
                  have hE139 := Ext_tr hE57 hE137
                  exact dr_iret (ty := .int) rfl rfl rfl (by decide) (by decide) ⟨hI136, hE139, y138, trivial, by omega, by omega, rfl⟩
        · skip
          refine di_const rfl ?_
          exact dr_iret (ty := .int) rfl rfl rfl (by decide) (by decide) ⟨hI48, hE57, 0, trivial, by omega, by omega, rfl⟩
      · skip
        refine di_const rfl ?_
        refine dr_goto rfl rfl ?_
        refine di_const rfl ?_
        refine dr_virt rfl rfl rfl rfl hc38 (s_X8_refuse l hl hI35 (a1 := 1) (by omega) (by omega) (a2 := 2) (by omega) (by omega) (mth := th_37) (mni := ni_6) (mpb := pb_9) (mlo := lo_12) (mhi := hi_15) (mhb := hb_18) (mls := ls_21) (mre := re_24) (mhe := he_27) hc38 (by omega) (by omega) (by omega) (by omega) (by omega) (by omega) (by omega) (by omega) (by omega) (by omega) (by omega) (by omega) (by omega) (by omega) (by omega) (by omega) c28 (us := us39) hu40 ha41) (by decide) (by decide) (by decide) (Nat.le_of_ble_eq_true rfl) kQMN (kQMI (fun y149 h140 hI141 hE142 fs9 hc144 hM9 us145 hu146 ha147 hU148 y149f y149a y149b => ?_))
        obtain ⟨th_143, th_143a, th_143b, rfl⟩ := hM9
        have hU148 : us145 = us39 := hU148
        subst hU148
        have hE150 := Ext_tr hE44 hE142
        have y149g : 0 ≤ y149 ∧ y149 ≤ 1 ∧ (y149 = 0 → ((1) : Int) = 0) := y149f
        refine di_if_eq rfl rfl (by omega) (by omega) (fun c151 => ?_) (fun c151 => ?_)
        · skip
          refine di_aload_n rfl rfl ?_
          refine dr_getf rfl hc144 rfl ?_
          refine di_const rfl ?_
          refine di_icmp_eq rfl rfl (by omega) (by omega) (by omega) (by omega) (fun c152 => ?_) (fun c152 => ?_)
          · skip
            refine di_aload_n rfl rfl ?_
            refine dr_getf rfl hc144 rfl ?_
            refine di_const rfl ?_
            refine di_icmp_eq rfl rfl (by omega) (by omega) (by omega) (by omega) (fun c153 => ?_) (fun c153 => ?_)
            · skip
              refine di_aload_n rfl rfl ?_
              refine dr_iload_n rfl rfl ?_
              refine pf rfl hc144 (Nat.le_of_ble_eq_true rfl) rfl hI141 (by decide) (T37_md (by omega) (by omega) (by omega) (by omega) (by omega) (by omega) (by omega) (by omega) (by first | assumption | omega)) (fun h154 hI155 hE156 hc157 hk158 => ?_)
              have hc159 := (hk158 (35) (by decide)).trans hu146
              have hE160 := Ext_tr hE150 hE156
              refine di_aload_n rfl rfl ?_
              refine dr_iload_n rfl rfl ?_
              refine pf rfl hc157 (Nat.le_of_ble_eq_true rfl) rfl hI155 (by decide) (T37_md (by omega) (by omega) (by omega) (by omega) (by omega) (by omega) (by omega) (by omega) (by first | assumption | omega)) (fun h161 hI162 hE163 hc164 hk165 => ?_)
              have hc166 := (hk165 (35) (by decide)).trans hc159
              have hE167 := Ext_tr hE160 hE163
              refine di_aload_n rfl rfl ?_
              refine dr_virt rfl rfl rfl rfl hc164 (s_X8_partSize l hl hI162 (mth := th_143) (mni := ni_6) (mpb := pb_9) (mlo := a1) (mhi := a2) (mhb := hb_18) (mls := ls_21) (mre := re_24) (mhe := he_27) hc164 (by omega) (by omega) (by omega) (by omega) (by omega) (by omega) (by omega) (by omega) (by omega) (by omega) (by omega) (by omega) (by omega) (by omega) (by omega) (by omega) c28 (by omega)) (by decide) (by decide) (by decide) (Nat.le_of_ble_eq_true rfl) kNP (kIP (fun y168 y168f y168a y168b => ?_))
              have y168g : 0 ≤ y168 ∧ y168 ≤ 8 := y168f
              exact dr_iret (ty := .int) rfl rfl rfl (by decide) (by decide) ⟨hI162, hE167, y168, trivial, by omega, by omega, rfl⟩
            · skip
              refine dr_iload_n rfl rfl ?_
              refine di_aload_n rfl rfl ?_
              refine dr_getf rfl hc144 rfl ?_
              refine di_icmp_le rfl rfl (by omega) (by omega) (by omega) (by omega) (fun c169 => ?_) (fun c169 => ?_)
              · skip
                refine di_aload_n rfl rfl ?_
                refine dr_iload_n rfl rfl ?_
                refine pf rfl hc144 (Nat.le_of_ble_eq_true rfl) rfl hI141 (by decide) (T37_md (by omega) (by omega) (by omega) (by omega) (by omega) (by omega) (by omega) (by omega) (by first | assumption | omega)) (fun h170 hI171 hE172 hc173 hk174 => ?_)
                have hc175 := (hk174 (35) (by decide)).trans hu146
                have hE176 := Ext_tr hE150 hE172
                refine di_aload_n rfl rfl ?_
                refine dr_iload_n rfl rfl ?_
                refine pf rfl hc173 (Nat.le_of_ble_eq_true rfl) rfl hI171 (by decide) (T37_md (by omega) (by omega) (by omega) (by omega) (by omega) (by omega) (by omega) (by omega) (by first | assumption | omega)) (fun h177 hI178 hE179 hc180 hk181 => ?_)
                have hc182 := (hk181 (35) (by decide)).trans hc175
                have hE183 := Ext_tr hE176 hE179
                refine di_aload_n rfl rfl ?_
                refine dr_virt rfl rfl rfl rfl hc180 (s_X8_partSize l hl hI178 (mth := th_143) (mni := ni_6) (mpb := pb_9) (mlo := a1) (mhi := a2) (mhb := hb_18) (mls := ls_21) (mre := re_24) (mhe := he_27) hc180 (by omega) (by omega) (by omega) (by omega) (by omega) (by omega) (by omega) (by omega) (by omega) (by omega) (by omega) (by omega) (by omega) (by omega) (by omega) (by omega) c28 (by omega)) (by decide) (by decide) (by decide) (Nat.le_of_ble_eq_true rfl) kNP (kIP (fun y184 y184f y184a y184b => ?_))
                have y184g : 0 ≤ y184 ∧ y184 ≤ 8 := y184f
                exact dr_iret (ty := .int) rfl rfl rfl (by decide) (by decide) ⟨hI178, hE183, y184, trivial, by omega, by omega, rfl⟩
              · skip
                refine di_aload_n rfl rfl ?_
                refine dr_virt rfl rfl rfl rfl hc144 (s_X8_nine l hl hI141 ) (by decide) (by decide) (by decide) (Nat.le_of_ble_eq_true rfl) kNS (kIS (fun y188 h185 hI186 hE187 y188f y188a y188b => ?_))
                have hE189 := Ext_tr hE150 hE187
                exact dr_iret (ty := .int) rfl rfl rfl (by decide) (by decide) ⟨hI186, hE189, y188, trivial, by omega, by omega, rfl⟩
          · skip
            refine dr_iload_n rfl rfl ?_
            refine di_aload_n rfl rfl ?_
            refine dr_getf rfl hc144 rfl ?_
            refine di_icmp_lt rfl rfl (by omega) (by omega) (by omega) (by omega) (fun c190 => ?_) (fun c190 => ?_)
            · skip
              refine di_aload_n rfl rfl ?_
              refine dr_virt rfl rfl rfl rfl hc144 (s_X8_nine l hl hI141 ) (by decide) (by decide) (by decide) (Nat.le_of_ble_eq_true rfl) kNS (kIS (fun y194 h191 hI192 hE193 y194f y194a y194b => ?_))
              have hE195 := Ext_tr hE150 hE193
              exact dr_iret (ty := .int) rfl rfl rfl (by decide) (by decide) ⟨hI192, hE195, y194, trivial, by omega, by omega, rfl⟩
            · skip
              refine di_aload_n rfl rfl ?_
              refine dr_getf rfl hc144 rfl ?_
              refine di_const rfl ?_
              refine di_icmp_eq rfl rfl (by omega) (by omega) (by omega) (by omega) (fun c196 => ?_) (fun c196 => ?_)
              · skip
                refine di_aload_n rfl rfl ?_
                refine dr_iload_n rfl rfl ?_
                refine pf rfl hc144 (Nat.le_of_ble_eq_true rfl) rfl hI141 (by decide) (T37_md (by omega) (by omega) (by omega) (by omega) (by omega) (by omega) (by omega) (by omega) (by first | assumption | omega)) (fun h197 hI198 hE199 hc200 hk201 => ?_)
                have hc202 := (hk201 (35) (by decide)).trans hu146
                have hE203 := Ext_tr hE150 hE199
                refine di_aload_n rfl rfl ?_
                refine dr_iload_n rfl rfl ?_
                refine pf rfl hc200 (Nat.le_of_ble_eq_true rfl) rfl hI198 (by decide) (T37_md (by omega) (by omega) (by omega) (by omega) (by omega) (by omega) (by omega) (by omega) (by first | assumption | omega)) (fun h204 hI205 hE206 hc207 hk208 => ?_)
                have hc209 := (hk208 (35) (by decide)).trans hc202
                have hE210 := Ext_tr hE203 hE206
                refine di_aload_n rfl rfl ?_
                refine dr_virt rfl rfl rfl rfl hc207 (s_X8_partSize l hl hI205 (mth := th_143) (mni := ni_6) (mpb := pb_9) (mlo := a1) (mhi := a2) (mhb := hb_18) (mls := ls_21) (mre := re_24) (mhe := he_27) hc207 (by omega) (by omega) (by omega) (by omega) (by omega) (by omega) (by omega) (by omega) (by omega) (by omega) (by omega) (by omega) (by omega) (by omega) (by omega) (by omega) c28 (by omega)) (by decide) (by decide) (by decide) (Nat.le_of_ble_eq_true rfl) kNP (kIP (fun y211 y211f y211a y211b => ?_))
                have y211g : 0 ≤ y211 ∧ y211 ≤ 8 := y211f
                exact dr_iret (ty := .int) rfl rfl rfl (by decide) (by decide) ⟨hI205, hE210, y211, trivial, by omega, by omega, rfl⟩
              · skip
                refine dr_iload_n rfl rfl ?_
                refine di_aload_n rfl rfl ?_
                refine dr_getf rfl hc144 rfl ?_
                refine di_icmp_le rfl rfl (by omega) (by omega) (by omega) (by omega) (fun c212 => ?_) (fun c212 => ?_)
                · skip
                  refine di_aload_n rfl rfl ?_
                  refine dr_iload_n rfl rfl ?_
                  refine pf rfl hc144 (Nat.le_of_ble_eq_true rfl) rfl hI141 (by decide) (T37_md (by omega) (by omega) (by omega) (by omega) (by omega) (by omega) (by omega) (by omega) (by first | assumption | omega)) (fun h213 hI214 hE215 hc216 hk217 => ?_)
                  have hc218 := (hk217 (35) (by decide)).trans hu146
                  have hE219 := Ext_tr hE150 hE215
                  refine di_aload_n rfl rfl ?_
                  refine dr_iload_n rfl rfl ?_
                  refine pf rfl hc216 (Nat.le_of_ble_eq_true rfl) rfl hI214 (by decide) (T37_md (by omega) (by omega) (by omega) (by omega) (by omega) (by omega) (by omega) (by omega) (by first | assumption | omega)) (fun h220 hI221 hE222 hc223 hk224 => ?_)
                  have hc225 := (hk224 (35) (by decide)).trans hc218
                  have hE226 := Ext_tr hE219 hE222
                  refine di_aload_n rfl rfl ?_
                  refine dr_virt rfl rfl rfl rfl hc223 (s_X8_partSize l hl hI221 (mth := th_143) (mni := ni_6) (mpb := pb_9) (mlo := a1) (mhi := a2) (mhb := hb_18) (mls := ls_21) (mre := re_24) (mhe := he_27) hc223 (by omega) (by omega) (by omega) (by omega) (by omega) (by omega) (by omega) (by omega) (by omega) (by omega) (by omega) (by omega) (by omega) (by omega) (by omega) (by omega) c28 (by omega)) (by decide) (by decide) (by decide) (Nat.le_of_ble_eq_true rfl) kNP (kIP (fun y227 y227f y227a y227b => ?_))
                  have y227g : 0 ≤ y227 ∧ y227 ≤ 8 := y227f
                  exact dr_iret (ty := .int) rfl rfl rfl (by decide) (by decide) ⟨hI221, hE226, y227, trivial, by omega, by omega, rfl⟩
                · skip
                  refine di_aload_n rfl rfl ?_
                  refine dr_virt rfl rfl rfl rfl hc144 (s_X8_nine l hl hI141 ) (by decide) (by decide) (by decide) (Nat.le_of_ble_eq_true rfl) kNS (kIS (fun y231 h228 hI229 hE230 y231f y231a y231b => ?_))
                  have hE232 := Ext_tr hE150 hE230
                  exact dr_iret (ty := .int) rfl rfl rfl (by decide) (by decide) ⟨hI229, hE232, y231, trivial, by omega, by omega, rfl⟩
        · skip
          refine di_const rfl ?_
          exact dr_iret (ty := .int) rfl rfl rfl (by decide) (by decide) ⟨hI141, hE150, 0, trivial, by omega, by omega, rfl⟩
  · skip
    refine dr_iload_n rfl rfl ?_
    refine dr_stat rfl rfl rfl rfl (s_X8_isNo99 l hl hI (a0 := a2) (by omega) (by omega)) (by decide) (by decide) (by decide) (Nat.le_of_ble_eq_true rfl) kNP (kIP (fun y233 y233f y233a y233b => ?_))
    have y233g : 0 ≤ y233 ∧ y233 ≤ 1 ∧ (y233 = 0 → 0 ≤ (a2) ∧ (a2) ≤ 99) := y233f
    refine di_if_ne rfl rfl (by omega) (by omega) (fun c234 => ?_) (fun c234 => ?_)
    · skip
      refine di_const rfl ?_
      refine dr_goto rfl rfl ?_
      refine di_const rfl ?_
      obtain ⟨th_235, ni_238, pb_241, lo_244, hi_247, hb_250, ls_253, re_256, he_259, c236, c237, c239, c240, c242, c243, c245, c246, c248, c249, c251, c252, c254, c255, c257, c258, c260, hc261⟩ := I_md hI
      have ho262 : he_259 = -1 ∨ (0 ≤ he_259 ∧ he_259 ≤ 9999 ∧ he_259 % 100 ≤ he_259 / 100) := c260
      obtain ⟨vs263, hc264, ha265⟩ := I_sz hI
      refine dr_virt rfl rfl rfl rfl hc261 (s_X8_start l hl hI (a1 := 1) (by omega) (by omega) (a2 := 1) (by omega) (by omega) (mth := th_235) (mni := ni_238) (mpb := pb_241) (mlo := lo_244) (mhi := hi_247) (mhb := hb_250) (mls := ls_253) (mre := re_256) (mhe := he_259) hc261 (by omega) (by omega) (by omega) (by omega) (by omega) (by omega) (by omega) (by omega) (by omega) (by omega) (by omega) (by omega) (by omega) (by omega) (by omega) (by omega) c260 (us := vs263) hc264 ha265) (by decide) (by decide) (by decide) (Nat.le_of_ble_eq_true rfl) kQMN (kQMI (fun y275 h266 hI267 hE268 fs9 hc270 hM9 us271 hu272 ha273 hU274 y275f y275a y275b => ?_))
      obtain ⟨th_269, th_269a, th_269b, rfl⟩ := hM9
      have hU274 : us271 = vs263 := hU274
      subst hU274
      have hE276 := hE268
      have y275g : 0 ≤ y275 ∧ y275 ≤ 1 ∧ (y275 = 0 → ((1) : Int) = 0) := y275f
      refine di_if_ne rfl rfl (by omega) (by omega) (fun c277 => ?_) (fun c277 => ?_)
      · skip
        refine di_const rfl ?_
        exact dr_iret (ty := .int) rfl rfl rfl (by decide) (by decide) ⟨hI267, hE276, 0, trivial, by omega, by omega, rfl⟩
      · skip
        refine di_aload_n rfl rfl ?_
        refine di_aload_n rfl rfl ?_
        refine dr_getf rfl hc270 rfl ?_
        refine di_const rfl ?_
        refine di_icmp_ne rfl rfl (by omega) (by omega) (by omega) (by omega) (fun c278 => ?_) (fun c278 => ?_)
        · skip
          refine di_const rfl ?_
          refine di_const rfl ?_
          refine dr_virt rfl rfl rfl rfl hc270 (s_X8_refuse l hl hI267 (a1 := 0) (by omega) (by omega) (a2 := 2) (by omega) (by omega) (mth := th_269) (mni := ni_238) (mpb := pb_241) (mlo := lo_244) (mhi := hi_247) (mhb := hb_250) (mls := ls_253) (mre := re_256) (mhe := he_259) hc270 (by omega) (by omega) (by omega) (by omega) (by omega) (by omega) (by omega) (by omega) (by omega) (by omega) (by omega) (by omega) (by omega) (by omega) (by omega) (by omega) c260 (us := us271) hu272 ha273) (by decide) (by decide) (by decide) (Nat.le_of_ble_eq_true rfl) kQMN (kQMI (fun y288 h279 hI280 hE281 fs9 hc283 hM9 us284 hu285 ha286 hU287 y288f y288a y288b => ?_))
          obtain ⟨th_282, th_282a, th_282b, rfl⟩ := hM9
          have hU287 : us284 = us271 := hU287
          subst hU287
          have hE289 := Ext_tr hE276 hE281
          have y288g : 0 ≤ y288 ∧ y288 ≤ 1 ∧ (y288 = 0 → ((0) : Int) = 0) := y288f
          refine di_if_eq rfl rfl (by omega) (by omega) (fun c290 => ?_) (fun c290 => ?_)
          · skip
            refine di_aload_n rfl rfl ?_
            refine dr_getf rfl hc283 rfl ?_
            refine di_const rfl ?_
            refine di_icmp_eq rfl rfl (by omega) (by omega) (by omega) (by omega) (fun c291 => ?_) (fun c291 => ?_)
            · skip
              refine di_aload_n rfl rfl ?_
              refine dr_getf rfl hc283 rfl ?_
              refine di_const rfl ?_
              refine di_icmp_eq rfl rfl (by omega) (by omega) (by omega) (by omega) (fun c292 => ?_) (fun c292 => ?_)
              · skip
                refine di_aload_n rfl rfl ?_
                refine dr_iload_n rfl rfl ?_
                refine pf rfl hc283 (Nat.le_of_ble_eq_true rfl) rfl hI280 (by decide) (T37_md (by omega) (by omega) (by omega) (by omega) (by omega) (by omega) (by omega) (by omega) (by first | assumption | omega)) (fun h293 hI294 hE295 hc296 hk297 => ?_)
                have hc298 := (hk297 (35) (by decide)).trans hu285
                have hE299 := Ext_tr hE289 hE295
                refine di_aload_n rfl rfl ?_
                refine dr_iload_n rfl rfl ?_
                refine pf rfl hc296 (Nat.le_of_ble_eq_true rfl) rfl hI294 (by decide) (T37_md (by omega) (by omega) (by omega) (by omega) (by omega) (by omega) (by omega) (by omega) (by first | assumption | omega)) (fun h300 hI301 hE302 hc303 hk304 => ?_)
                have hc305 := (hk304 (35) (by decide)).trans hc298
                have hE306 := Ext_tr hE299 hE302
                refine di_aload_n rfl rfl ?_
                refine dr_virt rfl rfl rfl rfl hc303 (s_X8_partSize l hl hI301 (mth := th_282) (mni := ni_238) (mpb := pb_241) (mlo := a1) (mhi := a2) (mhb := hb_250) (mls := ls_253) (mre := re_256) (mhe := he_259) hc303 (by omega) (by omega) (by omega) (by omega) (by omega) (by omega) (by omega) (by omega) (by omega) (by omega) (by omega) (by omega) (by omega) (by omega) (by omega) (by omega) c260 (by omega)) (by decide) (by decide) (by decide) (Nat.le_of_ble_eq_true rfl) kNP (kIP (fun y307 y307f y307a y307b => ?_))
                have y307g : 0 ≤ y307 ∧ y307 ≤ 8 := y307f
                exact dr_iret (ty := .int) rfl rfl rfl (by decide) (by decide) ⟨hI301, hE306, y307, trivial, by omega, by omega, rfl⟩
              · skip
                refine dr_iload_n rfl rfl ?_
                refine di_aload_n rfl rfl ?_
                refine dr_getf rfl hc283 rfl ?_
                refine di_icmp_le rfl rfl (by omega) (by omega) (by omega) (by omega) (fun c308 => ?_) (fun c308 => ?_)
                · skip
                  refine di_aload_n rfl rfl ?_
                  refine dr_iload_n rfl rfl ?_
                  refine pf rfl hc283 (Nat.le_of_ble_eq_true rfl) rfl hI280 (by decide) (T37_md (by omega) (by omega) (by omega) (by omega) (by omega) (by omega) (by omega) (by omega) (by first | assumption | omega)) (fun h309 hI310 hE311 hc312 hk313 => ?_)
                  have hc314 := (hk313 (35) (by decide)).trans hu285
                  have hE315 := Ext_tr hE289 hE311
                  refine di_aload_n rfl rfl ?_
                  refine dr_iload_n rfl rfl ?_
                  refine pf rfl hc312 (Nat.le_of_ble_eq_true rfl) rfl hI310 (by decide) (T37_md (by omega) (by omega) (by omega) (by omega) (by omega) (by omega) (by omega) (by omega) (by first | assumption | omega)) (fun h316 hI317 hE318 hc319 hk320 => ?_)
                  have hc321 := (hk320 (35) (by decide)).trans hc314
                  have hE322 := Ext_tr hE315 hE318
                  refine di_aload_n rfl rfl ?_
                  refine dr_virt rfl rfl rfl rfl hc319 (s_X8_partSize l hl hI317 (mth := th_282) (mni := ni_238) (mpb := pb_241) (mlo := a1) (mhi := a2) (mhb := hb_250) (mls := ls_253) (mre := re_256) (mhe := he_259) hc319 (by omega) (by omega) (by omega) (by omega) (by omega) (by omega) (by omega) (by omega) (by omega) (by omega) (by omega) (by omega) (by omega) (by omega) (by omega) (by omega) c260 (by omega)) (by decide) (by decide) (by decide) (Nat.le_of_ble_eq_true rfl) kNP (kIP (fun y323 y323f y323a y323b => ?_))
                  have y323g : 0 ≤ y323 ∧ y323 ≤ 8 := y323f
                  exact dr_iret (ty := .int) rfl rfl rfl (by decide) (by decide) ⟨hI317, hE322, y323, trivial, by omega, by omega, rfl⟩
                · skip
                  refine di_aload_n rfl rfl ?_
                  refine dr_virt rfl rfl rfl rfl hc283 (s_X8_nine l hl hI280 ) (by decide) (by decide) (by decide) (Nat.le_of_ble_eq_true rfl) kNS (kIS (fun y327 h324 hI325 hE326 y327f y327a y327b => ?_))
                  have hE328 := Ext_tr hE289 hE326
                  exact dr_iret (ty := .int) rfl rfl rfl (by decide) (by decide) ⟨hI325, hE328, y327, trivial, by omega, by omega, rfl⟩
            · skip
              refine dr_iload_n rfl rfl ?_
              refine di_aload_n rfl rfl ?_
              refine dr_getf rfl hc283 rfl ?_
              refine di_icmp_lt rfl rfl (by omega) (by omega) (by omega) (by omega) (fun c329 => ?_) (fun c329 => ?_)
              · skip
                refine di_aload_n rfl rfl ?_
                refine dr_virt rfl rfl rfl rfl hc283 (s_X8_nine l hl hI280 ) (by decide) (by decide) (by decide) (Nat.le_of_ble_eq_true rfl) kNS (kIS (fun y333 h330 hI331 hE332 y333f y333a y333b => ?_))
                have hE334 := Ext_tr hE289 hE332
                exact dr_iret (ty := .int) rfl rfl rfl (by decide) (by decide) ⟨hI331, hE334, y333, trivial, by omega, by omega, rfl⟩
              · skip
                refine di_aload_n rfl rfl ?_
                refine dr_getf rfl hc283 rfl ?_
                refine di_const rfl ?_
                refine di_icmp_eq rfl rfl (by omega) (by omega) (by omega) (by omega) (fun c335 => ?_) (fun c335 => ?_)
                · skip
                  refine di_aload_n rfl rfl ?_
                  refine dr_iload_n rfl rfl ?_
                  refine pf rfl hc283 (Nat.le_of_ble_eq_true rfl) rfl hI280 (by decide) (T37_md (by omega) (by omega) (by omega) (by omega) (by omega) (by omega) (by omega) (by omega) (by first | assumption | omega)) (fun h336 hI337 hE338 hc339 hk340 => ?_)
                  have hc341 := (hk340 (35) (by decide)).trans hu285
                  have hE342 := Ext_tr hE289 hE338
                  refine di_aload_n rfl rfl ?_
                  refine dr_iload_n rfl rfl ?_
                  refine pf rfl hc339 (Nat.le_of_ble_eq_true rfl) rfl hI337 (by decide) (T37_md (by omega) (by omega) (by omega) (by omega) (by omega) (by omega) (by omega) (by omega) (by first | assumption | omega)) (fun h343 hI344 hE345 hc346 hk347 => ?_)
                  have hc348 := (hk347 (35) (by decide)).trans hc341
                  have hE349 := Ext_tr hE342 hE345
                  refine di_aload_n rfl rfl ?_
                  refine dr_virt rfl rfl rfl rfl hc346 (s_X8_partSize l hl hI344 (mth := th_282) (mni := ni_238) (mpb := pb_241) (mlo := a1) (mhi := a2) (mhb := hb_250) (mls := ls_253) (mre := re_256) (mhe := he_259) hc346 (by omega) (by omega) (by omega) (by omega) (by omega) (by omega) (by omega) (by omega) (by omega) (by omega) (by omega) (by omega) (by omega) (by omega) (by omega) (by omega) c260 (by omega)) (by decide) (by decide) (by decide) (Nat.le_of_ble_eq_true rfl) kNP (kIP (fun y350 y350f y350a y350b => ?_))
                  have y350g : 0 ≤ y350 ∧ y350 ≤ 8 := y350f
                  exact dr_iret (ty := .int) rfl rfl rfl (by decide) (by decide) ⟨hI344, hE349, y350, trivial, by omega, by omega, rfl⟩
                · skip
                  refine dr_iload_n rfl rfl ?_
                  refine di_aload_n rfl rfl ?_
                  refine dr_getf rfl hc283 rfl ?_
                  refine di_icmp_le rfl rfl (by omega) (by omega) (by omega) (by omega) (fun c351 => ?_) (fun c351 => ?_)
                  · skip
                    refine di_aload_n rfl rfl ?_
                    refine dr_iload_n rfl rfl ?_
                    refine pf rfl hc283 (Nat.le_of_ble_eq_true rfl) rfl hI280 (by decide) (T37_md (by omega) (by omega) (by omega) (by omega) (by omega) (by omega) (by omega) (by omega) (by first | assumption | omega)) (fun h352 hI353 hE354 hc355 hk356 => ?_)
                    have hc357 := (hk356 (35) (by decide)).trans hu285
                    have hE358 := Ext_tr hE289 hE354
                    refine di_aload_n rfl rfl ?_
                    refine dr_iload_n rfl rfl ?_
                    refine pf rfl hc355 (Nat.le_of_ble_eq_true rfl) rfl hI353 (by decide) (T37_md (by omega) (by omega) (by omega) (by omega) (by omega) (by omega) (by omega) (by omega) (by first | assumption | omega)) (fun h359 hI360 hE361 hc362 hk363 => ?_)
                    have hc364 := (hk363 (35) (by decide)).trans hc357
                    have hE365 := Ext_tr hE358 hE361
                    refine di_aload_n rfl rfl ?_
                    refine dr_virt rfl rfl rfl rfl hc362 (s_X8_partSize l hl hI360 (mth := th_282) (mni := ni_238) (mpb := pb_241) (mlo := a1) (mhi := a2) (mhb := hb_250) (mls := ls_253) (mre := re_256) (mhe := he_259) hc362 (by omega) (by omega) (by omega) (by omega) (by omega) (by omega) (by omega) (by omega) (by omega) (by omega) (by omega) (by omega) (by omega) (by omega) (by omega) (by omega) c260 (by omega)) (by decide) (by decide) (by decide) (Nat.le_of_ble_eq_true rfl) kNP (kIP (fun y366 y366f y366a y366b => ?_))
                    have y366g : 0 ≤ y366 ∧ y366 ≤ 8 := y366f
                    exact dr_iret (ty := .int) rfl rfl rfl (by decide) (by decide) ⟨hI360, hE365, y366, trivial, by omega, by omega, rfl⟩
                  · skip
                    refine di_aload_n rfl rfl ?_
                    refine dr_virt rfl rfl rfl rfl hc283 (s_X8_nine l hl hI280 ) (by decide) (by decide) (by decide) (Nat.le_of_ble_eq_true rfl) kNS (kIS (fun y370 h367 hI368 hE369 y370f y370a y370b => ?_))
                    have hE371 := Ext_tr hE289 hE369
                    exact dr_iret (ty := .int) rfl rfl rfl (by decide) (by decide) ⟨hI368, hE371, y370, trivial, by omega, by omega, rfl⟩
          · skip
            refine di_const rfl ?_
            exact dr_iret (ty := .int) rfl rfl rfl (by decide) (by decide) ⟨hI280, hE289, 0, trivial, by omega, by omega, rfl⟩
        · skip
          refine di_const rfl ?_
          refine dr_goto rfl rfl ?_
          refine di_const rfl ?_
          refine dr_virt rfl rfl rfl rfl hc270 (s_X8_refuse l hl hI267 (a1 := 1) (by omega) (by omega) (a2 := 2) (by omega) (by omega) (mth := th_269) (mni := ni_238) (mpb := pb_241) (mlo := lo_244) (mhi := hi_247) (mhb := hb_250) (mls := ls_253) (mre := re_256) (mhe := he_259) hc270 (by omega) (by omega) (by omega) (by omega) (by omega) (by omega) (by omega) (by omega) (by omega) (by omega) (by omega) (by omega) (by omega) (by omega) (by omega) (by omega) c260 (us := us271) hu272 ha273) (by decide) (by decide) (by decide) (Nat.le_of_ble_eq_true rfl) kQMN (kQMI (fun y381 h372 hI373 hE374 fs9 hc376 hM9 us377 hu378 ha379 hU380 y381f y381a y381b => ?_))
          obtain ⟨th_375, th_375a, th_375b, rfl⟩ := hM9
          have hU380 : us377 = us271 := hU380
          subst hU380
          have hE382 := Ext_tr hE276 hE374
          have y381g : 0 ≤ y381 ∧ y381 ≤ 1 ∧ (y381 = 0 → ((1) : Int) = 0) := y381f
          refine di_if_eq rfl rfl (by omega) (by omega) (fun c383 => ?_) (fun c383 => ?_)
          · skip
            refine di_aload_n rfl rfl ?_
            refine dr_getf rfl hc376 rfl ?_
            refine di_const rfl ?_
            refine di_icmp_eq rfl rfl (by omega) (by omega) (by omega) (by omega) (fun c384 => ?_) (fun c384 => ?_)
            · skip
              refine di_aload_n rfl rfl ?_
              refine dr_getf rfl hc376 rfl ?_
              refine di_const rfl ?_
              refine di_icmp_eq rfl rfl (by omega) (by omega) (by omega) (by omega) (fun c385 => ?_) (fun c385 => ?_)
              · skip
                refine di_aload_n rfl rfl ?_
                refine dr_iload_n rfl rfl ?_
                refine pf rfl hc376 (Nat.le_of_ble_eq_true rfl) rfl hI373 (by decide) (T37_md (by omega) (by omega) (by omega) (by omega) (by omega) (by omega) (by omega) (by omega) (by first | assumption | omega)) (fun h386 hI387 hE388 hc389 hk390 => ?_)
                have hc391 := (hk390 (35) (by decide)).trans hu378
                have hE392 := Ext_tr hE382 hE388
                refine di_aload_n rfl rfl ?_
                refine dr_iload_n rfl rfl ?_
                refine pf rfl hc389 (Nat.le_of_ble_eq_true rfl) rfl hI387 (by decide) (T37_md (by omega) (by omega) (by omega) (by omega) (by omega) (by omega) (by omega) (by omega) (by first | assumption | omega)) (fun h393 hI394 hE395 hc396 hk397 => ?_)
                have hc398 := (hk397 (35) (by decide)).trans hc391
                have hE399 := Ext_tr hE392 hE395
                refine di_aload_n rfl rfl ?_
                refine dr_virt rfl rfl rfl rfl hc396 (s_X8_partSize l hl hI394 (mth := th_375) (mni := ni_238) (mpb := pb_241) (mlo := a1) (mhi := a2) (mhb := hb_250) (mls := ls_253) (mre := re_256) (mhe := he_259) hc396 (by omega) (by omega) (by omega) (by omega) (by omega) (by omega) (by omega) (by omega) (by omega) (by omega) (by omega) (by omega) (by omega) (by omega) (by omega) (by omega) c260 (by omega)) (by decide) (by decide) (by decide) (Nat.le_of_ble_eq_true rfl) kNP (kIP (fun y400 y400f y400a y400b => ?_))
                have y400g : 0 ≤ y400 ∧ y400 ≤ 8 := y400f
                exact dr_iret (ty := .int) rfl rfl rfl (by decide) (by decide) ⟨hI394, hE399, y400, trivial, by omega, by omega, rfl⟩
              · skip
                refine dr_iload_n rfl rfl ?_
                refine di_aload_n rfl rfl ?_
                refine dr_getf rfl hc376 rfl ?_
                refine di_icmp_le rfl rfl (by omega) (by omega) (by omega) (by omega) (fun c401 => ?_) (fun c401 => ?_)
                · skip
                  refine di_aload_n rfl rfl ?_
                  refine dr_iload_n rfl rfl ?_
                  refine pf rfl hc376 (Nat.le_of_ble_eq_true rfl) rfl hI373 (by decide) (T37_md (by omega) (by omega) (by omega) (by omega) (by omega) (by omega) (by omega) (by omega) (by first | assumption | omega)) (fun h402 hI403 hE404 hc405 hk406 => ?_)
                  have hc407 := (hk406 (35) (by decide)).trans hu378
                  have hE408 := Ext_tr hE382 hE404
                  refine di_aload_n rfl rfl ?_
                  refine dr_iload_n rfl rfl ?_
                  refine pf rfl hc405 (Nat.le_of_ble_eq_true rfl) rfl hI403 (by decide) (T37_md (by omega) (by omega) (by omega) (by omega) (by omega) (by omega) (by omega) (by omega) (by first | assumption | omega)) (fun h409 hI410 hE411 hc412 hk413 => ?_)
                  have hc414 := (hk413 (35) (by decide)).trans hc407
                  have hE415 := Ext_tr hE408 hE411
                  refine di_aload_n rfl rfl ?_
                  refine dr_virt rfl rfl rfl rfl hc412 (s_X8_partSize l hl hI410 (mth := th_375) (mni := ni_238) (mpb := pb_241) (mlo := a1) (mhi := a2) (mhb := hb_250) (mls := ls_253) (mre := re_256) (mhe := he_259) hc412 (by omega) (by omega) (by omega) (by omega) (by omega) (by omega) (by omega) (by omega) (by omega) (by omega) (by omega) (by omega) (by omega) (by omega) (by omega) (by omega) c260 (by omega)) (by decide) (by decide) (by decide) (Nat.le_of_ble_eq_true rfl) kNP (kIP (fun y416 y416f y416a y416b => ?_))
                  have y416g : 0 ≤ y416 ∧ y416 ≤ 8 := y416f
                  exact dr_iret (ty := .int) rfl rfl rfl (by decide) (by decide) ⟨hI410, hE415, y416, trivial, by omega, by omega, rfl⟩
                · skip
                  refine di_aload_n rfl rfl ?_
                  refine dr_virt rfl rfl rfl rfl hc376 (s_X8_nine l hl hI373 ) (by decide) (by decide) (by decide) (Nat.le_of_ble_eq_true rfl) kNS (kIS (fun y420 h417 hI418 hE419 y420f y420a y420b => ?_))
                  have hE421 := Ext_tr hE382 hE419
                  exact dr_iret (ty := .int) rfl rfl rfl (by decide) (by decide) ⟨hI418, hE421, y420, trivial, by omega, by omega, rfl⟩
            · skip
              refine dr_iload_n rfl rfl ?_
              refine di_aload_n rfl rfl ?_
              refine dr_getf rfl hc376 rfl ?_
              refine di_icmp_lt rfl rfl (by omega) (by omega) (by omega) (by omega) (fun c422 => ?_) (fun c422 => ?_)
              · skip
                refine di_aload_n rfl rfl ?_
                refine dr_virt rfl rfl rfl rfl hc376 (s_X8_nine l hl hI373 ) (by decide) (by decide) (by decide) (Nat.le_of_ble_eq_true rfl) kNS (kIS (fun y426 h423 hI424 hE425 y426f y426a y426b => ?_))
                have hE427 := Ext_tr hE382 hE425
                exact dr_iret (ty := .int) rfl rfl rfl (by decide) (by decide) ⟨hI424, hE427, y426, trivial, by omega, by omega, rfl⟩
              · skip
                refine di_aload_n rfl rfl ?_
                refine dr_getf rfl hc376 rfl ?_
                refine di_const rfl ?_
                refine di_icmp_eq rfl rfl (by omega) (by omega) (by omega) (by omega) (fun c428 => ?_) (fun c428 => ?_)
                · skip
                  refine di_aload_n rfl rfl ?_
                  refine dr_iload_n rfl rfl ?_
                  refine pf rfl hc376 (Nat.le_of_ble_eq_true rfl) rfl hI373 (by decide) (T37_md (by omega) (by omega) (by omega) (by omega) (by omega) (by omega) (by omega) (by omega) (by first | assumption | omega)) (fun h429 hI430 hE431 hc432 hk433 => ?_)
                  have hc434 := (hk433 (35) (by decide)).trans hu378
                  have hE435 := Ext_tr hE382 hE431
                  refine di_aload_n rfl rfl ?_
                  refine dr_iload_n rfl rfl ?_
                  refine pf rfl hc432 (Nat.le_of_ble_eq_true rfl) rfl hI430 (by decide) (T37_md (by omega) (by omega) (by omega) (by omega) (by omega) (by omega) (by omega) (by omega) (by first | assumption | omega)) (fun h436 hI437 hE438 hc439 hk440 => ?_)
                  have hc441 := (hk440 (35) (by decide)).trans hc434
                  have hE442 := Ext_tr hE435 hE438
                  refine di_aload_n rfl rfl ?_
                  refine dr_virt rfl rfl rfl rfl hc439 (s_X8_partSize l hl hI437 (mth := th_375) (mni := ni_238) (mpb := pb_241) (mlo := a1) (mhi := a2) (mhb := hb_250) (mls := ls_253) (mre := re_256) (mhe := he_259) hc439 (by omega) (by omega) (by omega) (by omega) (by omega) (by omega) (by omega) (by omega) (by omega) (by omega) (by omega) (by omega) (by omega) (by omega) (by omega) (by omega) c260 (by omega)) (by decide) (by decide) (by decide) (Nat.le_of_ble_eq_true rfl) kNP (kIP (fun y443 y443f y443a y443b => ?_))
                  have y443g : 0 ≤ y443 ∧ y443 ≤ 8 := y443f
                  exact dr_iret (ty := .int) rfl rfl rfl (by decide) (by decide) ⟨hI437, hE442, y443, trivial, by omega, by omega, rfl⟩
                · skip
                  refine dr_iload_n rfl rfl ?_
                  refine di_aload_n rfl rfl ?_
                  refine dr_getf rfl hc376 rfl ?_
                  refine di_icmp_le rfl rfl (by omega) (by omega) (by omega) (by omega) (fun c444 => ?_) (fun c444 => ?_)
                  · skip
                    refine di_aload_n rfl rfl ?_
                    refine dr_iload_n rfl rfl ?_
                    refine pf rfl hc376 (Nat.le_of_ble_eq_true rfl) rfl hI373 (by decide) (T37_md (by omega) (by omega) (by omega) (by omega) (by omega) (by omega) (by omega) (by omega) (by first | assumption | omega)) (fun h445 hI446 hE447 hc448 hk449 => ?_)
                    have hc450 := (hk449 (35) (by decide)).trans hu378
                    have hE451 := Ext_tr hE382 hE447
                    refine di_aload_n rfl rfl ?_
                    refine dr_iload_n rfl rfl ?_
                    refine pf rfl hc448 (Nat.le_of_ble_eq_true rfl) rfl hI446 (by decide) (T37_md (by omega) (by omega) (by omega) (by omega) (by omega) (by omega) (by omega) (by omega) (by first | assumption | omega)) (fun h452 hI453 hE454 hc455 hk456 => ?_)
                    have hc457 := (hk456 (35) (by decide)).trans hc450
                    have hE458 := Ext_tr hE451 hE454
                    refine di_aload_n rfl rfl ?_
                    refine dr_virt rfl rfl rfl rfl hc455 (s_X8_partSize l hl hI453 (mth := th_375) (mni := ni_238) (mpb := pb_241) (mlo := a1) (mhi := a2) (mhb := hb_250) (mls := ls_253) (mre := re_256) (mhe := he_259) hc455 (by omega) (by omega) (by omega) (by omega) (by omega) (by omega) (by omega) (by omega) (by omega) (by omega) (by omega) (by omega) (by omega) (by omega) (by omega) (by omega) c260 (by omega)) (by decide) (by decide) (by decide) (Nat.le_of_ble_eq_true rfl) kNP (kIP (fun y459 y459f y459a y459b => ?_))
                    have y459g : 0 ≤ y459 ∧ y459 ≤ 8 := y459f
                    exact dr_iret (ty := .int) rfl rfl rfl (by decide) (by decide) ⟨hI453, hE458, y459, trivial, by omega, by omega, rfl⟩
                  · skip
                    refine di_aload_n rfl rfl ?_
                    refine dr_virt rfl rfl rfl rfl hc376 (s_X8_nine l hl hI373 ) (by decide) (by decide) (by decide) (Nat.le_of_ble_eq_true rfl) kNS (kIS (fun y463 h460 hI461 hE462 y463f y463a y463b => ?_))
                    have hE464 := Ext_tr hE382 hE462
                    exact dr_iret (ty := .int) rfl rfl rfl (by decide) (by decide) ⟨hI461, hE464, y463, trivial, by omega, by omega, rfl⟩
          · skip
            refine di_const rfl ?_
            exact dr_iret (ty := .int) rfl rfl rfl (by decide) (by decide) ⟨hI373, hE382, 0, trivial, by omega, by omega, rfl⟩
    · skip
      refine dr_iload_n rfl rfl ?_
      refine dr_iload_n rfl rfl ?_
      refine di_icmp_le rfl rfl (by omega) (by omega) (by omega) (by omega) (fun c465 => ?_) (fun c465 => ?_)
      · skip
        refine di_const rfl ?_
        refine di_const rfl ?_
        obtain ⟨th_466, ni_469, pb_472, lo_475, hi_478, hb_481, ls_484, re_487, he_490, c467, c468, c470, c471, c473, c474, c476, c477, c479, c480, c482, c483, c485, c486, c488, c489, c491, hc492⟩ := I_md hI
        have ho493 : he_490 = -1 ∨ (0 ≤ he_490 ∧ he_490 ≤ 9999 ∧ he_490 % 100 ≤ he_490 / 100) := c491
        obtain ⟨vs494, hc495, ha496⟩ := I_sz hI
        refine dr_virt rfl rfl rfl rfl hc492 (s_X8_start l hl hI (a1 := 0) (by omega) (by omega) (a2 := 1) (by omega) (by omega) (mth := th_466) (mni := ni_469) (mpb := pb_472) (mlo := lo_475) (mhi := hi_478) (mhb := hb_481) (mls := ls_484) (mre := re_487) (mhe := he_490) hc492 (by omega) (by omega) (by omega) (by omega) (by omega) (by omega) (by omega) (by omega) (by omega) (by omega) (by omega) (by omega) (by omega) (by omega) (by omega) (by omega) c491 (us := vs494) hc495 ha496) (by decide) (by decide) (by decide) (Nat.le_of_ble_eq_true rfl) kQMN (kQMI (fun y506 h497 hI498 hE499 fs9 hc501 hM9 us502 hu503 ha504 hU505 y506f y506a y506b => ?_))
        obtain ⟨th_500, th_500a, th_500b, rfl⟩ := hM9
        have hU505 : us502 = vs494 := hU505
        subst hU505
        have hE507 := hE499
        have y506g : 0 ≤ y506 ∧ y506 ≤ 1 ∧ (y506 = 0 → ((0) : Int) = 0) := y506f
        refine di_if_ne rfl rfl (by omega) (by omega) (fun c508 => ?_) (fun c508 => ?_)
        · skip
          refine di_const rfl ?_
          exact dr_iret (ty := .int) rfl rfl rfl (by decide) (by decide) ⟨hI498, hE507, 0, trivial, by omega, by omega, rfl⟩
        · skip
          refine di_aload_n rfl rfl ?_
          refine di_aload_n rfl rfl ?_
          refine dr_getf rfl hc501 rfl ?_
          refine di_const rfl ?_
          refine di_icmp_ne rfl rfl (by omega) (by omega) (by omega) (by omega) (fun c509 => ?_) (fun c509 => ?_)
          · skip
            refine di_const rfl ?_
            refine di_const rfl ?_
            refine dr_virt rfl rfl rfl rfl hc501 (s_X8_refuse l hl hI498 (a1 := 0) (by omega) (by omega) (a2 := 2) (by omega) (by omega) (mth := th_500) (mni := ni_469) (mpb := pb_472) (mlo := lo_475) (mhi := hi_478) (mhb := hb_481) (mls := ls_484) (mre := re_487) (mhe := he_490) hc501 (by omega) (by omega) (by omega) (by omega) (by omega) (by omega) (by omega) (by omega) (by omega) (by omega) (by omega) (by omega) (by omega) (by omega) (by omega) (by omega) c491 (us := us502) hu503 ha504) (by decide) (by decide) (by decide) (Nat.le_of_ble_eq_true rfl) kQMN (kQMI (fun y519 h510 hI511 hE512 fs9 hc514 hM9 us515 hu516 ha517 hU518 y519f y519a y519b => ?_))
            obtain ⟨th_513, th_513a, th_513b, rfl⟩ := hM9
            have hU518 : us515 = us502 := hU518
            subst hU518
            have hE520 := Ext_tr hE507 hE512
            have y519g : 0 ≤ y519 ∧ y519 ≤ 1 ∧ (y519 = 0 → ((0) : Int) = 0) := y519f
            refine di_if_eq rfl rfl (by omega) (by omega) (fun c521 => ?_) (fun c521 => ?_)
            · skip
              refine di_aload_n rfl rfl ?_
              refine dr_getf rfl hc514 rfl ?_
              refine di_const rfl ?_
              refine di_icmp_eq rfl rfl (by omega) (by omega) (by omega) (by omega) (fun c522 => ?_) (fun c522 => ?_)
              · skip
                refine di_aload_n rfl rfl ?_
                refine dr_getf rfl hc514 rfl ?_
                refine di_const rfl ?_
                refine di_icmp_eq rfl rfl (by omega) (by omega) (by omega) (by omega) (fun c523 => ?_) (fun c523 => ?_)
                · skip
                  refine di_aload_n rfl rfl ?_
                  refine dr_iload_n rfl rfl ?_
                  refine pf rfl hc514 (Nat.le_of_ble_eq_true rfl) rfl hI511 (by decide) (T37_md (by omega) (by omega) (by omega) (by omega) (by omega) (by omega) (by omega) (by omega) (by first | assumption | omega)) (fun h524 hI525 hE526 hc527 hk528 => ?_)
                  have hc529 := (hk528 (35) (by decide)).trans hu516
                  have hE530 := Ext_tr hE520 hE526
                  refine di_aload_n rfl rfl ?_
                  refine dr_iload_n rfl rfl ?_
                  refine pf rfl hc527 (Nat.le_of_ble_eq_true rfl) rfl hI525 (by decide) (T37_md (by omega) (by omega) (by omega) (by omega) (by omega) (by omega) (by omega) (by omega) (by first | assumption | omega)) (fun h531 hI532 hE533 hc534 hk535 => ?_)
                  have hc536 := (hk535 (35) (by decide)).trans hc529
                  have hE537 := Ext_tr hE530 hE533
                  refine di_aload_n rfl rfl ?_
                  refine dr_virt rfl rfl rfl rfl hc534 (s_X8_partSize l hl hI532 (mth := th_513) (mni := ni_469) (mpb := pb_472) (mlo := a1) (mhi := a2) (mhb := hb_481) (mls := ls_484) (mre := re_487) (mhe := he_490) hc534 (by omega) (by omega) (by omega) (by omega) (by omega) (by omega) (by omega) (by omega) (by omega) (by omega) (by omega) (by omega) (by omega) (by omega) (by omega) (by omega) c491 (by omega)) (by decide) (by decide) (by decide) (Nat.le_of_ble_eq_true rfl) kNP (kIP (fun y538 y538f y538a y538b => ?_))
                  have y538g : 0 ≤ y538 ∧ y538 ≤ 8 := y538f
                  exact dr_iret (ty := .int) rfl rfl rfl (by decide) (by decide) ⟨hI532, hE537, y538, trivial, by omega, by omega, rfl⟩
                · skip
                  refine dr_iload_n rfl rfl ?_
                  refine di_aload_n rfl rfl ?_
                  refine dr_getf rfl hc514 rfl ?_
                  refine di_icmp_le rfl rfl (by omega) (by omega) (by omega) (by omega) (fun c539 => ?_) (fun c539 => ?_)
                  · skip
                    refine di_aload_n rfl rfl ?_
                    refine dr_iload_n rfl rfl ?_
                    refine pf rfl hc514 (Nat.le_of_ble_eq_true rfl) rfl hI511 (by decide) (T37_md (by omega) (by omega) (by omega) (by omega) (by omega) (by omega) (by omega) (by omega) (by first | assumption | omega)) (fun h540 hI541 hE542 hc543 hk544 => ?_)
                    have hc545 := (hk544 (35) (by decide)).trans hu516
                    have hE546 := Ext_tr hE520 hE542
                    refine di_aload_n rfl rfl ?_
                    refine dr_iload_n rfl rfl ?_
                    refine pf rfl hc543 (Nat.le_of_ble_eq_true rfl) rfl hI541 (by decide) (T37_md (by omega) (by omega) (by omega) (by omega) (by omega) (by omega) (by omega) (by omega) (by first | assumption | omega)) (fun h547 hI548 hE549 hc550 hk551 => ?_)
                    have hc552 := (hk551 (35) (by decide)).trans hc545
                    have hE553 := Ext_tr hE546 hE549
                    refine di_aload_n rfl rfl ?_
                    refine dr_virt rfl rfl rfl rfl hc550 (s_X8_partSize l hl hI548 (mth := th_513) (mni := ni_469) (mpb := pb_472) (mlo := a1) (mhi := a2) (mhb := hb_481) (mls := ls_484) (mre := re_487) (mhe := he_490) hc550 (by omega) (by omega) (by omega) (by omega) (by omega) (by omega) (by omega) (by omega) (by omega) (by omega) (by omega) (by omega) (by omega) (by omega) (by omega) (by omega) c491 (by omega)) (by decide) (by decide) (by decide) (Nat.le_of_ble_eq_true rfl) kNP (kIP (fun y554 y554f y554a y554b => ?_))
                    have y554g : 0 ≤ y554 ∧ y554 ≤ 8 := y554f
                    exact dr_iret (ty := .int) rfl rfl rfl (by decide) (by decide) ⟨hI548, hE553, y554, trivial, by omega, by omega, rfl⟩
                  · skip
                    refine di_aload_n rfl rfl ?_
                    refine dr_virt rfl rfl rfl rfl hc514 (s_X8_nine l hl hI511 ) (by decide) (by decide) (by decide) (Nat.le_of_ble_eq_true rfl) kNS (kIS (fun y558 h555 hI556 hE557 y558f y558a y558b => ?_))
                    have hE559 := Ext_tr hE520 hE557
                    exact dr_iret (ty := .int) rfl rfl rfl (by decide) (by decide) ⟨hI556, hE559, y558, trivial, by omega, by omega, rfl⟩
              · skip
                refine dr_iload_n rfl rfl ?_
                refine di_aload_n rfl rfl ?_
                refine dr_getf rfl hc514 rfl ?_
                refine di_icmp_lt rfl rfl (by omega) (by omega) (by omega) (by omega) (fun c560 => ?_) (fun c560 => ?_)
                · skip
                  refine di_aload_n rfl rfl ?_
                  refine dr_virt rfl rfl rfl rfl hc514 (s_X8_nine l hl hI511 ) (by decide) (by decide) (by decide) (Nat.le_of_ble_eq_true rfl) kNS (kIS (fun y564 h561 hI562 hE563 y564f y564a y564b => ?_))
                  have hE565 := Ext_tr hE520 hE563
                  exact dr_iret (ty := .int) rfl rfl rfl (by decide) (by decide) ⟨hI562, hE565, y564, trivial, by omega, by omega, rfl⟩
                · skip
                  refine di_aload_n rfl rfl ?_
                  refine dr_getf rfl hc514 rfl ?_
                  refine di_const rfl ?_
                  refine di_icmp_eq rfl rfl (by omega) (by omega) (by omega) (by omega) (fun c566 => ?_) (fun c566 => ?_)
                  · skip
                    refine di_aload_n rfl rfl ?_
                    refine dr_iload_n rfl rfl ?_
                    refine pf rfl hc514 (Nat.le_of_ble_eq_true rfl) rfl hI511 (by decide) (T37_md (by omega) (by omega) (by omega) (by omega) (by omega) (by omega) (by omega) (by omega) (by first | assumption | omega)) (fun h567 hI568 hE569 hc570 hk571 => ?_)
                    have hc572 := (hk571 (35) (by decide)).trans hu516
                    have hE573 := Ext_tr hE520 hE569
                    refine di_aload_n rfl rfl ?_
                    refine dr_iload_n rfl rfl ?_
                    refine pf rfl hc570 (Nat.le_of_ble_eq_true rfl) rfl hI568 (by decide) (T37_md (by omega) (by omega) (by omega) (by omega) (by omega) (by omega) (by omega) (by omega) (by first | assumption | omega)) (fun h574 hI575 hE576 hc577 hk578 => ?_)
                    have hc579 := (hk578 (35) (by decide)).trans hc572
                    have hE580 := Ext_tr hE573 hE576
                    refine di_aload_n rfl rfl ?_
                    refine dr_virt rfl rfl rfl rfl hc577 (s_X8_partSize l hl hI575 (mth := th_513) (mni := ni_469) (mpb := pb_472) (mlo := a1) (mhi := a2) (mhb := hb_481) (mls := ls_484) (mre := re_487) (mhe := he_490) hc577 (by omega) (by omega) (by omega) (by omega) (by omega) (by omega) (by omega) (by omega) (by omega) (by omega) (by omega) (by omega) (by omega) (by omega) (by omega) (by omega) c491 (by omega)) (by decide) (by decide) (by decide) (Nat.le_of_ble_eq_true rfl) kNP (kIP (fun y581 y581f y581a y581b => ?_))
                    have y581g : 0 ≤ y581 ∧ y581 ≤ 8 := y581f
                    exact dr_iret (ty := .int) rfl rfl rfl (by decide) (by decide) ⟨hI575, hE580, y581, trivial, by omega, by omega, rfl⟩
                  · skip
                    refine dr_iload_n rfl rfl ?_
                    refine di_aload_n rfl rfl ?_
                    refine dr_getf rfl hc514 rfl ?_
                    refine di_icmp_le rfl rfl (by omega) (by omega) (by omega) (by omega) (fun c582 => ?_) (fun c582 => ?_)
                    · skip
                      refine di_aload_n rfl rfl ?_
                      refine dr_iload_n rfl rfl ?_
                      refine pf rfl hc514 (Nat.le_of_ble_eq_true rfl) rfl hI511 (by decide) (T37_md (by omega) (by omega) (by omega) (by omega) (by omega) (by omega) (by omega) (by omega) (by first | assumption | omega)) (fun h583 hI584 hE585 hc586 hk587 => ?_)
                      have hc588 := (hk587 (35) (by decide)).trans hu516
                      have hE589 := Ext_tr hE520 hE585
                      refine di_aload_n rfl rfl ?_
                      refine dr_iload_n rfl rfl ?_
                      refine pf rfl hc586 (Nat.le_of_ble_eq_true rfl) rfl hI584 (by decide) (T37_md (by omega) (by omega) (by omega) (by omega) (by omega) (by omega) (by omega) (by omega) (by first | assumption | omega)) (fun h590 hI591 hE592 hc593 hk594 => ?_)
                      have hc595 := (hk594 (35) (by decide)).trans hc588
                      have hE596 := Ext_tr hE589 hE592
                      refine di_aload_n rfl rfl ?_
                      refine dr_virt rfl rfl rfl rfl hc593 (s_X8_partSize l hl hI591 (mth := th_513) (mni := ni_469) (mpb := pb_472) (mlo := a1) (mhi := a2) (mhb := hb_481) (mls := ls_484) (mre := re_487) (mhe := he_490) hc593 (by omega) (by omega) (by omega) (by omega) (by omega) (by omega) (by omega) (by omega) (by omega) (by omega) (by omega) (by omega) (by omega) (by omega) (by omega) (by omega) c491 (by omega)) (by decide) (by decide) (by decide) (Nat.le_of_ble_eq_true rfl) kNP (kIP (fun y597 y597f y597a y597b => ?_))
                      have y597g : 0 ≤ y597 ∧ y597 ≤ 8 := y597f
                      exact dr_iret (ty := .int) rfl rfl rfl (by decide) (by decide) ⟨hI591, hE596, y597, trivial, by omega, by omega, rfl⟩
                    · skip
                      refine di_aload_n rfl rfl ?_
                      refine dr_virt rfl rfl rfl rfl hc514 (s_X8_nine l hl hI511 ) (by decide) (by decide) (by decide) (Nat.le_of_ble_eq_true rfl) kNS (kIS (fun y601 h598 hI599 hE600 y601f y601a y601b => ?_))
                      have hE602 := Ext_tr hE520 hE600
                      exact dr_iret (ty := .int) rfl rfl rfl (by decide) (by decide) ⟨hI599, hE602, y601, trivial, by omega, by omega, rfl⟩
            · skip
              refine di_const rfl ?_
              exact dr_iret (ty := .int) rfl rfl rfl (by decide) (by decide) ⟨hI511, hE520, 0, trivial, by omega, by omega, rfl⟩
          · skip
            refine di_const rfl ?_
            refine dr_goto rfl rfl ?_
            refine di_const rfl ?_
            refine dr_virt rfl rfl rfl rfl hc501 (s_X8_refuse l hl hI498 (a1 := 1) (by omega) (by omega) (a2 := 2) (by omega) (by omega) (mth := th_500) (mni := ni_469) (mpb := pb_472) (mlo := lo_475) (mhi := hi_478) (mhb := hb_481) (mls := ls_484) (mre := re_487) (mhe := he_490) hc501 (by omega) (by omega) (by omega) (by omega) (by omega) (by omega) (by omega) (by omega) (by omega) (by omega) (by omega) (by omega) (by omega) (by omega) (by omega) (by omega) c491 (us := us502) hu503 ha504) (by decide) (by decide) (by decide) (Nat.le_of_ble_eq_true rfl) kQMN (kQMI (fun y612 h603 hI604 hE605 fs9 hc607 hM9 us608 hu609 ha610 hU611 y612f y612a y612b => ?_))
            obtain ⟨th_606, th_606a, th_606b, rfl⟩ := hM9
            have hU611 : us608 = us502 := hU611
            subst hU611
            have hE613 := Ext_tr hE507 hE605
            have y612g : 0 ≤ y612 ∧ y612 ≤ 1 ∧ (y612 = 0 → ((1) : Int) = 0) := y612f
            refine di_if_eq rfl rfl (by omega) (by omega) (fun c614 => ?_) (fun c614 => ?_)
            · skip
              refine di_aload_n rfl rfl ?_
              refine dr_getf rfl hc607 rfl ?_
              refine di_const rfl ?_
              refine di_icmp_eq rfl rfl (by omega) (by omega) (by omega) (by omega) (fun c615 => ?_) (fun c615 => ?_)
              · skip
                refine di_aload_n rfl rfl ?_
                refine dr_getf rfl hc607 rfl ?_
                refine di_const rfl ?_
                refine di_icmp_eq rfl rfl (by omega) (by omega) (by omega) (by omega) (fun c616 => ?_) (fun c616 => ?_)
                · skip
                  refine di_aload_n rfl rfl ?_
                  refine dr_iload_n rfl rfl ?_
                  refine pf rfl hc607 (Nat.le_of_ble_eq_true rfl) rfl hI604 (by decide) (T37_md (by omega) (by omega) (by omega) (by omega) (by omega) (by omega) (by omega) (by omega) (by first | assumption | omega)) (fun h617 hI618 hE619 hc620 hk621 => ?_)
                  have hc622 := (hk621 (35) (by decide)).trans hu609
                  have hE623 := Ext_tr hE613 hE619
                  refine di_aload_n rfl rfl ?_
                  refine dr_iload_n rfl rfl ?_
                  refine pf rfl hc620 (Nat.le_of_ble_eq_true rfl) rfl hI618 (by decide) (T37_md (by omega) (by omega) (by omega) (by omega) (by omega) (by omega) (by omega) (by omega) (by first | assumption | omega)) (fun h624 hI625 hE626 hc627 hk628 => ?_)
                  have hc629 := (hk628 (35) (by decide)).trans hc622
                  have hE630 := Ext_tr hE623 hE626
                  refine di_aload_n rfl rfl ?_
                  refine dr_virt rfl rfl rfl rfl hc627 (s_X8_partSize l hl hI625 (mth := th_606) (mni := ni_469) (mpb := pb_472) (mlo := a1) (mhi := a2) (mhb := hb_481) (mls := ls_484) (mre := re_487) (mhe := he_490) hc627 (by omega) (by omega) (by omega) (by omega) (by omega) (by omega) (by omega) (by omega) (by omega) (by omega) (by omega) (by omega) (by omega) (by omega) (by omega) (by omega) c491 (by omega)) (by decide) (by decide) (by decide) (Nat.le_of_ble_eq_true rfl) kNP (kIP (fun y631 y631f y631a y631b => ?_))
                  have y631g : 0 ≤ y631 ∧ y631 ≤ 8 := y631f
                  exact dr_iret (ty := .int) rfl rfl rfl (by decide) (by decide) ⟨hI625, hE630, y631, trivial, by omega, by omega, rfl⟩
                · skip
                  refine dr_iload_n rfl rfl ?_
                  refine di_aload_n rfl rfl ?_
                  refine dr_getf rfl hc607 rfl ?_
                  refine di_icmp_le rfl rfl (by omega) (by omega) (by omega) (by omega) (fun c632 => ?_) (fun c632 => ?_)
                  · skip
                    refine di_aload_n rfl rfl ?_
                    refine dr_iload_n rfl rfl ?_
                    refine pf rfl hc607 (Nat.le_of_ble_eq_true rfl) rfl hI604 (by decide) (T37_md (by omega) (by omega) (by omega) (by omega) (by omega) (by omega) (by omega) (by omega) (by first | assumption | omega)) (fun h633 hI634 hE635 hc636 hk637 => ?_)
                    have hc638 := (hk637 (35) (by decide)).trans hu609
                    have hE639 := Ext_tr hE613 hE635
                    refine di_aload_n rfl rfl ?_
                    refine dr_iload_n rfl rfl ?_
                    refine pf rfl hc636 (Nat.le_of_ble_eq_true rfl) rfl hI634 (by decide) (T37_md (by omega) (by omega) (by omega) (by omega) (by omega) (by omega) (by omega) (by omega) (by first | assumption | omega)) (fun h640 hI641 hE642 hc643 hk644 => ?_)
                    have hc645 := (hk644 (35) (by decide)).trans hc638
                    have hE646 := Ext_tr hE639 hE642
                    refine di_aload_n rfl rfl ?_
                    refine dr_virt rfl rfl rfl rfl hc643 (s_X8_partSize l hl hI641 (mth := th_606) (mni := ni_469) (mpb := pb_472) (mlo := a1) (mhi := a2) (mhb := hb_481) (mls := ls_484) (mre := re_487) (mhe := he_490) hc643 (by omega) (by omega) (by omega) (by omega) (by omega) (by omega) (by omega) (by omega) (by omega) (by omega) (by omega) (by omega) (by omega) (by omega) (by omega) (by omega) c491 (by omega)) (by decide) (by decide) (by decide) (Nat.le_of_ble_eq_true rfl) kNP (kIP (fun y647 y647f y647a y647b => ?_))
                    have y647g : 0 ≤ y647 ∧ y647 ≤ 8 := y647f
                    exact dr_iret (ty := .int) rfl rfl rfl (by decide) (by decide) ⟨hI641, hE646, y647, trivial, by omega, by omega, rfl⟩
                  · skip
                    refine di_aload_n rfl rfl ?_
                    refine dr_virt rfl rfl rfl rfl hc607 (s_X8_nine l hl hI604 ) (by decide) (by decide) (by decide) (Nat.le_of_ble_eq_true rfl) kNS (kIS (fun y651 h648 hI649 hE650 y651f y651a y651b => ?_))
                    have hE652 := Ext_tr hE613 hE650
                    exact dr_iret (ty := .int) rfl rfl rfl (by decide) (by decide) ⟨hI649, hE652, y651, trivial, by omega, by omega, rfl⟩
              · skip
                refine dr_iload_n rfl rfl ?_
                refine di_aload_n rfl rfl ?_
                refine dr_getf rfl hc607 rfl ?_
                refine di_icmp_lt rfl rfl (by omega) (by omega) (by omega) (by omega) (fun c653 => ?_) (fun c653 => ?_)
                · skip
                  refine di_aload_n rfl rfl ?_
                  refine dr_virt rfl rfl rfl rfl hc607 (s_X8_nine l hl hI604 ) (by decide) (by decide) (by decide) (Nat.le_of_ble_eq_true rfl) kNS (kIS (fun y657 h654 hI655 hE656 y657f y657a y657b => ?_))
                  have hE658 := Ext_tr hE613 hE656
                  exact dr_iret (ty := .int) rfl rfl rfl (by decide) (by decide) ⟨hI655, hE658, y657, trivial, by omega, by omega, rfl⟩
                · skip
                  refine di_aload_n rfl rfl ?_
                  refine dr_getf rfl hc607 rfl ?_
                  refine di_const rfl ?_
                  refine di_icmp_eq rfl rfl (by omega) (by omega) (by omega) (by omega) (fun c659 => ?_) (fun c659 => ?_)
                  · skip
                    refine di_aload_n rfl rfl ?_
                    refine dr_iload_n rfl rfl ?_
                    refine pf rfl hc607 (Nat.le_of_ble_eq_true rfl) rfl hI604 (by decide) (T37_md (by omega) (by omega) (by omega) (by omega) (by omega) (by omega) (by omega) (by omega) (by first | assumption | omega)) (fun h660 hI661 hE662 hc663 hk664 => ?_)
                    have hc665 := (hk664 (35) (by decide)).trans hu609
                    have hE666 := Ext_tr hE613 hE662
                    refine di_aload_n rfl rfl ?_
                    refine dr_iload_n rfl rfl ?_
                    refine pf rfl hc663 (Nat.le_of_ble_eq_true rfl) rfl hI661 (by decide) (T37_md (by omega) (by omega) (by omega) (by omega) (by omega) (by omega) (by omega) (by omega) (by first | assumption | omega)) (fun h667 hI668 hE669 hc670 hk671 => ?_)
                    have hc672 := (hk671 (35) (by decide)).trans hc665
                    have hE673 := Ext_tr hE666 hE669
                    refine di_aload_n rfl rfl ?_
                    refine dr_virt rfl rfl rfl rfl hc670 (s_X8_partSize l hl hI668 (mth := th_606) (mni := ni_469) (mpb := pb_472) (mlo := a1) (mhi := a2) (mhb := hb_481) (mls := ls_484) (mre := re_487) (mhe := he_490) hc670 (by omega) (by omega) (by omega) (by omega) (by omega) (by omega) (by omega) (by omega) (by omega) (by omega) (by omega) (by omega) (by omega) (by omega) (by omega) (by omega) c491 (by omega)) (by decide) (by decide) (by decide) (Nat.le_of_ble_eq_true rfl) kNP (kIP (fun y674 y674f y674a y674b => ?_))
                    have y674g : 0 ≤ y674 ∧ y674 ≤ 8 := y674f
                    exact dr_iret (ty := .int) rfl rfl rfl (by decide) (by decide) ⟨hI668, hE673, y674, trivial, by omega, by omega, rfl⟩
                  · skip
                    refine dr_iload_n rfl rfl ?_
                    refine di_aload_n rfl rfl ?_
                    refine dr_getf rfl hc607 rfl ?_
                    refine di_icmp_le rfl rfl (by omega) (by omega) (by omega) (by omega) (fun c675 => ?_) (fun c675 => ?_)
                    · skip
                      refine di_aload_n rfl rfl ?_
                      refine dr_iload_n rfl rfl ?_
                      refine pf rfl hc607 (Nat.le_of_ble_eq_true rfl) rfl hI604 (by decide) (T37_md (by omega) (by omega) (by omega) (by omega) (by omega) (by omega) (by omega) (by omega) (by first | assumption | omega)) (fun h676 hI677 hE678 hc679 hk680 => ?_)
                      have hc681 := (hk680 (35) (by decide)).trans hu609
                      have hE682 := Ext_tr hE613 hE678
                      refine di_aload_n rfl rfl ?_
                      refine dr_iload_n rfl rfl ?_
                      refine pf rfl hc679 (Nat.le_of_ble_eq_true rfl) rfl hI677 (by decide) (T37_md (by omega) (by omega) (by omega) (by omega) (by omega) (by omega) (by omega) (by omega) (by first | assumption | omega)) (fun h683 hI684 hE685 hc686 hk687 => ?_)
                      have hc688 := (hk687 (35) (by decide)).trans hc681
                      have hE689 := Ext_tr hE682 hE685
                      refine di_aload_n rfl rfl ?_
                      refine dr_virt rfl rfl rfl rfl hc686 (s_X8_partSize l hl hI684 (mth := th_606) (mni := ni_469) (mpb := pb_472) (mlo := a1) (mhi := a2) (mhb := hb_481) (mls := ls_484) (mre := re_487) (mhe := he_490) hc686 (by omega) (by omega) (by omega) (by omega) (by omega) (by omega) (by omega) (by omega) (by omega) (by omega) (by omega) (by omega) (by omega) (by omega) (by omega) (by omega) c491 (by omega)) (by decide) (by decide) (by decide) (Nat.le_of_ble_eq_true rfl) kNP (kIP (fun y690 y690f y690a y690b => ?_))
                      have y690g : 0 ≤ y690 ∧ y690 ≤ 8 := y690f
                      exact dr_iret (ty := .int) rfl rfl rfl (by decide) (by decide) ⟨hI684, hE689, y690, trivial, by omega, by omega, rfl⟩
                    · skip
                      refine di_aload_n rfl rfl ?_
                      refine dr_virt rfl rfl rfl rfl hc607 (s_X8_nine l hl hI604 ) (by decide) (by decide) (by decide) (Nat.le_of_ble_eq_true rfl) kNS (kIS (fun y694 h691 hI692 hE693 y694f y694a y694b => ?_))
                      have hE695 := Ext_tr hE613 hE693
                      exact dr_iret (ty := .int) rfl rfl rfl (by decide) (by decide) ⟨hI692, hE695, y694, trivial, by omega, by omega, rfl⟩
            · skip
              refine di_const rfl ?_
              exact dr_iret (ty := .int) rfl rfl rfl (by decide) (by decide) ⟨hI604, hE613, 0, trivial, by omega, by omega, rfl⟩
      · skip
        refine di_const rfl ?_
        refine dr_goto rfl rfl ?_
        refine di_const rfl ?_
        obtain ⟨th_696, ni_699, pb_702, lo_705, hi_708, hb_711, ls_714, re_717, he_720, c697, c698, c700, c701, c703, c704, c706, c707, c709, c710, c712, c713, c715, c716, c718, c719, c721, hc722⟩ := I_md hI
        have ho723 : he_720 = -1 ∨ (0 ≤ he_720 ∧ he_720 ≤ 9999 ∧ he_720 % 100 ≤ he_720 / 100) := c721
        obtain ⟨vs724, hc725, ha726⟩ := I_sz hI
        refine dr_virt rfl rfl rfl rfl hc722 (s_X8_start l hl hI (a1 := 1) (by omega) (by omega) (a2 := 1) (by omega) (by omega) (mth := th_696) (mni := ni_699) (mpb := pb_702) (mlo := lo_705) (mhi := hi_708) (mhb := hb_711) (mls := ls_714) (mre := re_717) (mhe := he_720) hc722 (by omega) (by omega) (by omega) (by omega) (by omega) (by omega) (by omega) (by omega) (by omega) (by omega) (by omega) (by omega) (by omega) (by omega) (by omega) (by omega) c721 (us := vs724) hc725 ha726) (by decide) (by decide) (by decide) (Nat.le_of_ble_eq_true rfl) kQMN (kQMI (fun y736 h727 hI728 hE729 fs9 hc731 hM9 us732 hu733 ha734 hU735 y736f y736a y736b => ?_))
        obtain ⟨th_730, th_730a, th_730b, rfl⟩ := hM9
        have hU735 : us732 = vs724 := hU735
        subst hU735
        have hE737 := hE729
        have y736g : 0 ≤ y736 ∧ y736 ≤ 1 ∧ (y736 = 0 → ((1) : Int) = 0) := y736f
        refine di_if_ne rfl rfl (by omega) (by omega) (fun c738 => ?_) (fun c738 => ?_)
        · skip
          refine di_const rfl ?_
          exact dr_iret (ty := .int) rfl rfl rfl (by decide) (by decide) ⟨hI728, hE737, 0, trivial, by omega, by omega, rfl⟩
        · skip
          refine di_aload_n rfl rfl ?_
          refine di_aload_n rfl rfl ?_
          refine dr_getf rfl hc731 rfl ?_
          refine di_const rfl ?_
          refine di_icmp_ne rfl rfl (by omega) (by omega) (by omega) (by omega) (fun c739 => ?_) (fun c739 => ?_)
          · skip
            refine di_const rfl ?_
            refine di_const rfl ?_
            refine dr_virt rfl rfl rfl rfl hc731 (s_X8_refuse l hl hI728 (a1 := 0) (by omega) (by omega) (a2 := 2) (by omega) (by omega) (mth := th_730) (mni := ni_699) (mpb := pb_702) (mlo := lo_705) (mhi := hi_708) (mhb := hb_711) (mls := ls_714) (mre := re_717) (mhe := he_720) hc731 (by omega) (by omega) (by omega) (by omega) (by omega) (by omega) (by omega) (by omega) (by omega) (by omega) (by omega) (by omega) (by omega) (by omega) (by omega) (by omega) c721 (us := us732) hu733 ha734) (by decide) (by decide) (by decide) (Nat.le_of_ble_eq_true rfl) kQMN (kQMI (fun y749 h740 hI741 hE742 fs9 hc744 hM9 us745 hu746 ha747 hU748 y749f y749a y749b => ?_))
            obtain ⟨th_743, th_743a, th_743b, rfl⟩ := hM9
            have hU748 : us745 = us732 := hU748
            subst hU748
            have hE750 := Ext_tr hE737 hE742
            have y749g : 0 ≤ y749 ∧ y749 ≤ 1 ∧ (y749 = 0 → ((0) : Int) = 0) := y749f
            refine di_if_eq rfl rfl (by omega) (by omega) (fun c751 => ?_) (fun c751 => ?_)
            · skip
              refine di_aload_n rfl rfl ?_
              refine dr_getf rfl hc744 rfl ?_
              refine di_const rfl ?_
              refine di_icmp_eq rfl rfl (by omega) (by omega) (by omega) (by omega) (fun c752 => ?_) (fun c752 => ?_)
              · skip
                refine di_aload_n rfl rfl ?_
                refine dr_getf rfl hc744 rfl ?_
                refine di_const rfl ?_
                refine di_icmp_eq rfl rfl (by omega) (by omega) (by omega) (by omega) (fun c753 => ?_) (fun c753 => ?_)
                · skip
                  refine di_aload_n rfl rfl ?_
                  refine dr_iload_n rfl rfl ?_
                  refine pf rfl hc744 (Nat.le_of_ble_eq_true rfl) rfl hI741 (by decide) (T37_md (by omega) (by omega) (by omega) (by omega) (by omega) (by omega) (by omega) (by omega) (by first | assumption | omega)) (fun h754 hI755 hE756 hc757 hk758 => ?_)
                  have hc759 := (hk758 (35) (by decide)).trans hu746
                  have hE760 := Ext_tr hE750 hE756
                  refine di_aload_n rfl rfl ?_
                  refine dr_iload_n rfl rfl ?_
                  refine pf rfl hc757 (Nat.le_of_ble_eq_true rfl) rfl hI755 (by decide) (T37_md (by omega) (by omega) (by omega) (by omega) (by omega) (by omega) (by omega) (by omega) (by first | assumption | omega)) (fun h761 hI762 hE763 hc764 hk765 => ?_)
                  have hc766 := (hk765 (35) (by decide)).trans hc759
                  have hE767 := Ext_tr hE760 hE763
                  refine di_aload_n rfl rfl ?_
                  refine dr_virt rfl rfl rfl rfl hc764 (s_X8_partSize l hl hI762 (mth := th_743) (mni := ni_699) (mpb := pb_702) (mlo := a1) (mhi := a2) (mhb := hb_711) (mls := ls_714) (mre := re_717) (mhe := he_720) hc764 (by omega) (by omega) (by omega) (by omega) (by omega) (by omega) (by omega) (by omega) (by omega) (by omega) (by omega) (by omega) (by omega) (by omega) (by omega) (by omega) c721 (by omega)) (by decide) (by decide) (by decide) (Nat.le_of_ble_eq_true rfl) kNP (kIP (fun y768 y768f y768a y768b => ?_))
                  have y768g : 0 ≤ y768 ∧ y768 ≤ 8 := y768f
                  exact dr_iret (ty := .int) rfl rfl rfl (by decide) (by decide) ⟨hI762, hE767, y768, trivial, by omega, by omega, rfl⟩
                · skip
                  refine dr_iload_n rfl rfl ?_
                  refine di_aload_n rfl rfl ?_
                  refine dr_getf rfl hc744 rfl ?_
                  refine di_icmp_le rfl rfl (by omega) (by omega) (by omega) (by omega) (fun c769 => ?_) (fun c769 => ?_)
                  · skip
                    refine di_aload_n rfl rfl ?_
                    refine dr_iload_n rfl rfl ?_
                    refine pf rfl hc744 (Nat.le_of_ble_eq_true rfl) rfl hI741 (by decide) (T37_md (by omega) (by omega) (by omega) (by omega) (by omega) (by omega) (by omega) (by omega) (by first | assumption | omega)) (fun h770 hI771 hE772 hc773 hk774 => ?_)
                    have hc775 := (hk774 (35) (by decide)).trans hu746
                    have hE776 := Ext_tr hE750 hE772
                    refine di_aload_n rfl rfl ?_
                    refine dr_iload_n rfl rfl ?_
                    refine pf rfl hc773 (Nat.le_of_ble_eq_true rfl) rfl hI771 (by decide) (T37_md (by omega) (by omega) (by omega) (by omega) (by omega) (by omega) (by omega) (by omega) (by first | assumption | omega)) (fun h777 hI778 hE779 hc780 hk781 => ?_)
                    have hc782 := (hk781 (35) (by decide)).trans hc775
                    have hE783 := Ext_tr hE776 hE779
                    refine di_aload_n rfl rfl ?_
                    refine dr_virt rfl rfl rfl rfl hc780 (s_X8_partSize l hl hI778 (mth := th_743) (mni := ni_699) (mpb := pb_702) (mlo := a1) (mhi := a2) (mhb := hb_711) (mls := ls_714) (mre := re_717) (mhe := he_720) hc780 (by omega) (by omega) (by omega) (by omega) (by omega) (by omega) (by omega) (by omega) (by omega) (by omega) (by omega) (by omega) (by omega) (by omega) (by omega) (by omega) c721 (by omega)) (by decide) (by decide) (by decide) (Nat.le_of_ble_eq_true rfl) kNP (kIP (fun y784 y784f y784a y784b => ?_))
                    have y784g : 0 ≤ y784 ∧ y784 ≤ 8 := y784f
                    exact dr_iret (ty := .int) rfl rfl rfl (by decide) (by decide) ⟨hI778, hE783, y784, trivial, by omega, by omega, rfl⟩
                  · skip
                    refine di_aload_n rfl rfl ?_
                    refine dr_virt rfl rfl rfl rfl hc744 (s_X8_nine l hl hI741 ) (by decide) (by decide) (by decide) (Nat.le_of_ble_eq_true rfl) kNS (kIS (fun y788 h785 hI786 hE787 y788f y788a y788b => ?_))
                    have hE789 := Ext_tr hE750 hE787
                    exact dr_iret (ty := .int) rfl rfl rfl (by decide) (by decide) ⟨hI786, hE789, y788, trivial, by omega, by omega, rfl⟩
              · skip
                refine dr_iload_n rfl rfl ?_
                refine di_aload_n rfl rfl ?_
                refine dr_getf rfl hc744 rfl ?_
                refine di_icmp_lt rfl rfl (by omega) (by omega) (by omega) (by omega) (fun c790 => ?_) (fun c790 => ?_)
                · skip
                  refine di_aload_n rfl rfl ?_
                  refine dr_virt rfl rfl rfl rfl hc744 (s_X8_nine l hl hI741 ) (by decide) (by decide) (by decide) (Nat.le_of_ble_eq_true rfl) kNS (kIS (fun y794 h791 hI792 hE793 y794f y794a y794b => ?_))
                  have hE795 := Ext_tr hE750 hE793
                  exact dr_iret (ty := .int) rfl rfl rfl (by decide) (by decide) ⟨hI792, hE795, y794, trivial, by omega, by omega, rfl⟩
                · skip
                  refine di_aload_n rfl rfl ?_
                  refine dr_getf rfl hc744 rfl ?_
                  refine di_const rfl ?_
                  refine di_icmp_eq rfl rfl (by omega) (by omega) (by omega) (by omega) (fun c796 => ?_) (fun c796 => ?_)
                  · skip
                    refine di_aload_n rfl rfl ?_
                    refine dr_iload_n rfl rfl ?_
                    refine pf rfl hc744 (Nat.le_of_ble_eq_true rfl) rfl hI741 (by decide) (T37_md (by omega) (by omega) (by omega) (by omega) (by omega) (by omega) (by omega) (by omega) (by first | assumption | omega)) (fun h797 hI798 hE799 hc800 hk801 => ?_)
                    have hc802 := (hk801 (35) (by decide)).trans hu746
                    have hE803 := Ext_tr hE750 hE799
                    refine di_aload_n rfl rfl ?_
                    refine dr_iload_n rfl rfl ?_
                    refine pf rfl hc800 (Nat.le_of_ble_eq_true rfl) rfl hI798 (by decide) (T37_md (by omega) (by omega) (by omega) (by omega) (by omega) (by omega) (by omega) (by omega) (by first | assumption | omega)) (fun h804 hI805 hE806 hc807 hk808 => ?_)
                    have hc809 := (hk808 (35) (by decide)).trans hc802
                    have hE810 := Ext_tr hE803 hE806
                    refine di_aload_n rfl rfl ?_
                    refine dr_virt rfl rfl rfl rfl hc807 (s_X8_partSize l hl hI805 (mth := th_743) (mni := ni_699) (mpb := pb_702) (mlo := a1) (mhi := a2) (mhb := hb_711) (mls := ls_714) (mre := re_717) (mhe := he_720) hc807 (by omega) (by omega) (by omega) (by omega) (by omega) (by omega) (by omega) (by omega) (by omega) (by omega) (by omega) (by omega) (by omega) (by omega) (by omega) (by omega) c721 (by omega)) (by decide) (by decide) (by decide) (Nat.le_of_ble_eq_true rfl) kNP (kIP (fun y811 y811f y811a y811b => ?_))
                    have y811g : 0 ≤ y811 ∧ y811 ≤ 8 := y811f
                    exact dr_iret (ty := .int) rfl rfl rfl (by decide) (by decide) ⟨hI805, hE810, y811, trivial, by omega, by omega, rfl⟩
                  · skip
                    refine dr_iload_n rfl rfl ?_
                    refine di_aload_n rfl rfl ?_
                    refine dr_getf rfl hc744 rfl ?_
                    refine di_icmp_le rfl rfl (by omega) (by omega) (by omega) (by omega) (fun c812 => ?_) (fun c812 => ?_)
                    · skip
                      refine di_aload_n rfl rfl ?_
                      refine dr_iload_n rfl rfl ?_
                      refine pf rfl hc744 (Nat.le_of_ble_eq_true rfl) rfl hI741 (by decide) (T37_md (by omega) (by omega) (by omega) (by omega) (by omega) (by omega) (by omega) (by omega) (by first | assumption | omega)) (fun h813 hI814 hE815 hc816 hk817 => ?_)
                      have hc818 := (hk817 (35) (by decide)).trans hu746
                      have hE819 := Ext_tr hE750 hE815
                      refine di_aload_n rfl rfl ?_
                      refine dr_iload_n rfl rfl ?_
                      refine pf rfl hc816 (Nat.le_of_ble_eq_true rfl) rfl hI814 (by decide) (T37_md (by omega) (by omega) (by omega) (by omega) (by omega) (by omega) (by omega) (by omega) (by first | assumption | omega)) (fun h820 hI821 hE822 hc823 hk824 => ?_)
                      have hc825 := (hk824 (35) (by decide)).trans hc818
                      have hE826 := Ext_tr hE819 hE822
                      refine di_aload_n rfl rfl ?_
                      refine dr_virt rfl rfl rfl rfl hc823 (s_X8_partSize l hl hI821 (mth := th_743) (mni := ni_699) (mpb := pb_702) (mlo := a1) (mhi := a2) (mhb := hb_711) (mls := ls_714) (mre := re_717) (mhe := he_720) hc823 (by omega) (by omega) (by omega) (by omega) (by omega) (by omega) (by omega) (by omega) (by omega) (by omega) (by omega) (by omega) (by omega) (by omega) (by omega) (by omega) c721 (by omega)) (by decide) (by decide) (by decide) (Nat.le_of_ble_eq_true rfl) kNP (kIP (fun y827 y827f y827a y827b => ?_))
                      have y827g : 0 ≤ y827 ∧ y827 ≤ 8 := y827f
                      exact dr_iret (ty := .int) rfl rfl rfl (by decide) (by decide) ⟨hI821, hE826, y827, trivial, by omega, by omega, rfl⟩
                    · skip
                      refine di_aload_n rfl rfl ?_
                      refine dr_virt rfl rfl rfl rfl hc744 (s_X8_nine l hl hI741 ) (by decide) (by decide) (by decide) (Nat.le_of_ble_eq_true rfl) kNS (kIS (fun y831 h828 hI829 hE830 y831f y831a y831b => ?_))
                      have hE832 := Ext_tr hE750 hE830
                      exact dr_iret (ty := .int) rfl rfl rfl (by decide) (by decide) ⟨hI829, hE832, y831, trivial, by omega, by omega, rfl⟩
            · skip
              refine di_const rfl ?_
              exact dr_iret (ty := .int) rfl rfl rfl (by decide) (by decide) ⟨hI741, hE750, 0, trivial, by omega, by omega, rfl⟩
          · skip
            refine di_const rfl ?_
            refine dr_goto rfl rfl ?_
            refine di_const rfl ?_
            refine dr_virt rfl rfl rfl rfl hc731 (s_X8_refuse l hl hI728 (a1 := 1) (by omega) (by omega) (a2 := 2) (by omega) (by omega) (mth := th_730) (mni := ni_699) (mpb := pb_702) (mlo := lo_705) (mhi := hi_708) (mhb := hb_711) (mls := ls_714) (mre := re_717) (mhe := he_720) hc731 (by omega) (by omega) (by omega) (by omega) (by omega) (by omega) (by omega) (by omega) (by omega) (by omega) (by omega) (by omega) (by omega) (by omega) (by omega) (by omega) c721 (us := us732) hu733 ha734) (by decide) (by decide) (by decide) (Nat.le_of_ble_eq_true rfl) kQMN (kQMI (fun y842 h833 hI834 hE835 fs9 hc837 hM9 us838 hu839 ha840 hU841 y842f y842a y842b => ?_))
            obtain ⟨th_836, th_836a, th_836b, rfl⟩ := hM9
            have hU841 : us838 = us732 := hU841
            subst hU841
            have hE843 := Ext_tr hE737 hE835
            have y842g : 0 ≤ y842 ∧ y842 ≤ 1 ∧ (y842 = 0 → ((1) : Int) = 0) := y842f
            refine di_if_eq rfl rfl (by omega) (by omega) (fun c844 => ?_) (fun c844 => ?_)
            · skip
              refine di_aload_n rfl rfl ?_
              refine dr_getf rfl hc837 rfl ?_
              refine di_const rfl ?_
              refine di_icmp_eq rfl rfl (by omega) (by omega) (by omega) (by omega) (fun c845 => ?_) (fun c845 => ?_)
              · skip
                refine di_aload_n rfl rfl ?_
                refine dr_getf rfl hc837 rfl ?_
                refine di_const rfl ?_
                refine di_icmp_eq rfl rfl (by omega) (by omega) (by omega) (by omega) (fun c846 => ?_) (fun c846 => ?_)
                · skip
                  refine di_aload_n rfl rfl ?_
                  refine dr_iload_n rfl rfl ?_
                  refine pf rfl hc837 (Nat.le_of_ble_eq_true rfl) rfl hI834 (by decide) (T37_md (by omega) (by omega) (by omega) (by omega) (by omega) (by omega) (by omega) (by omega) (by first | assumption | omega)) (fun h847 hI848 hE849 hc850 hk851 => ?_)
                  have hc852 := (hk851 (35) (by decide)).trans hu839
                  have hE853 := Ext_tr hE843 hE849
                  refine di_aload_n rfl rfl ?_
                  refine dr_iload_n rfl rfl ?_
                  refine pf rfl hc850 (Nat.le_of_ble_eq_true rfl) rfl hI848 (by decide) (T37_md (by omega) (by omega) (by omega) (by omega) (by omega) (by omega) (by omega) (by omega) (by first | assumption | omega)) (fun h854 hI855 hE856 hc857 hk858 => ?_)
                  have hc859 := (hk858 (35) (by decide)).trans hc852
                  have hE860 := Ext_tr hE853 hE856
                  refine di_aload_n rfl rfl ?_
                  refine dr_virt rfl rfl rfl rfl hc857 (s_X8_partSize l hl hI855 (mth := th_836) (mni := ni_699) (mpb := pb_702) (mlo := a1) (mhi := a2) (mhb := hb_711) (mls := ls_714) (mre := re_717) (mhe := he_720) hc857 (by omega) (by omega) (by omega) (by omega) (by omega) (by omega) (by omega) (by omega) (by omega) (by omega) (by omega) (by omega) (by omega) (by omega) (by omega) (by omega) c721 (by omega)) (by decide) (by decide) (by decide) (Nat.le_of_ble_eq_true rfl) kNP (kIP (fun y861 y861f y861a y861b => ?_))
                  have y861g : 0 ≤ y861 ∧ y861 ≤ 8 := y861f
                  exact dr_iret (ty := .int) rfl rfl rfl (by decide) (by decide) ⟨hI855, hE860, y861, trivial, by omega, by omega, rfl⟩
                · skip
                  refine dr_iload_n rfl rfl ?_
                  refine di_aload_n rfl rfl ?_
                  refine dr_getf rfl hc837 rfl ?_
                  refine di_icmp_le rfl rfl (by omega) (by omega) (by omega) (by omega) (fun c862 => ?_) (fun c862 => ?_)
                  · skip
                    refine di_aload_n rfl rfl ?_
                    refine dr_iload_n rfl rfl ?_
                    refine pf rfl hc837 (Nat.le_of_ble_eq_true rfl) rfl hI834 (by decide) (T37_md (by omega) (by omega) (by omega) (by omega) (by omega) (by omega) (by omega) (by omega) (by first | assumption | omega)) (fun h863 hI864 hE865 hc866 hk867 => ?_)
                    have hc868 := (hk867 (35) (by decide)).trans hu839
                    have hE869 := Ext_tr hE843 hE865
                    refine di_aload_n rfl rfl ?_
                    refine dr_iload_n rfl rfl ?_
                    refine pf rfl hc866 (Nat.le_of_ble_eq_true rfl) rfl hI864 (by decide) (T37_md (by omega) (by omega) (by omega) (by omega) (by omega) (by omega) (by omega) (by omega) (by first | assumption | omega)) (fun h870 hI871 hE872 hc873 hk874 => ?_)
                    have hc875 := (hk874 (35) (by decide)).trans hc868
                    have hE876 := Ext_tr hE869 hE872
                    refine di_aload_n rfl rfl ?_
                    refine dr_virt rfl rfl rfl rfl hc873 (s_X8_partSize l hl hI871 (mth := th_836) (mni := ni_699) (mpb := pb_702) (mlo := a1) (mhi := a2) (mhb := hb_711) (mls := ls_714) (mre := re_717) (mhe := he_720) hc873 (by omega) (by omega) (by omega) (by omega) (by omega) (by omega) (by omega) (by omega) (by omega) (by omega) (by omega) (by omega) (by omega) (by omega) (by omega) (by omega) c721 (by omega)) (by decide) (by decide) (by decide) (Nat.le_of_ble_eq_true rfl) kNP (kIP (fun y877 y877f y877a y877b => ?_))
                    have y877g : 0 ≤ y877 ∧ y877 ≤ 8 := y877f
                    exact dr_iret (ty := .int) rfl rfl rfl (by decide) (by decide) ⟨hI871, hE876, y877, trivial, by omega, by omega, rfl⟩
                  · skip
                    refine di_aload_n rfl rfl ?_
                    refine dr_virt rfl rfl rfl rfl hc837 (s_X8_nine l hl hI834 ) (by decide) (by decide) (by decide) (Nat.le_of_ble_eq_true rfl) kNS (kIS (fun y881 h878 hI879 hE880 y881f y881a y881b => ?_))
                    have hE882 := Ext_tr hE843 hE880
                    exact dr_iret (ty := .int) rfl rfl rfl (by decide) (by decide) ⟨hI879, hE882, y881, trivial, by omega, by omega, rfl⟩
              · skip
                refine dr_iload_n rfl rfl ?_
                refine di_aload_n rfl rfl ?_
                refine dr_getf rfl hc837 rfl ?_
                refine di_icmp_lt rfl rfl (by omega) (by omega) (by omega) (by omega) (fun c883 => ?_) (fun c883 => ?_)
                · skip
                  refine di_aload_n rfl rfl ?_
                  refine dr_virt rfl rfl rfl rfl hc837 (s_X8_nine l hl hI834 ) (by decide) (by decide) (by decide) (Nat.le_of_ble_eq_true rfl) kNS (kIS (fun y887 h884 hI885 hE886 y887f y887a y887b => ?_))
                  have hE888 := Ext_tr hE843 hE886
                  exact dr_iret (ty := .int) rfl rfl rfl (by decide) (by decide) ⟨hI885, hE888, y887, trivial, by omega, by omega, rfl⟩
                · skip
                  refine di_aload_n rfl rfl ?_
                  refine dr_getf rfl hc837 rfl ?_
                  refine di_const rfl ?_
                  refine di_icmp_eq rfl rfl (by omega) (by omega) (by omega) (by omega) (fun c889 => ?_) (fun c889 => ?_)
                  · skip
                    refine di_aload_n rfl rfl ?_
                    refine dr_iload_n rfl rfl ?_
                    refine pf rfl hc837 (Nat.le_of_ble_eq_true rfl) rfl hI834 (by decide) (T37_md (by omega) (by omega) (by omega) (by omega) (by omega) (by omega) (by omega) (by omega) (by first | assumption | omega)) (fun h890 hI891 hE892 hc893 hk894 => ?_)
                    have hc895 := (hk894 (35) (by decide)).trans hu839
                    have hE896 := Ext_tr hE843 hE892
                    refine di_aload_n rfl rfl ?_
                    refine dr_iload_n rfl rfl ?_
                    refine pf rfl hc893 (Nat.le_of_ble_eq_true rfl) rfl hI891 (by decide) (T37_md (by omega) (by omega) (by omega) (by omega) (by omega) (by omega) (by omega) (by omega) (by first | assumption | omega)) (fun h897 hI898 hE899 hc900 hk901 => ?_)
                    have hc902 := (hk901 (35) (by decide)).trans hc895
                    have hE903 := Ext_tr hE896 hE899
                    refine di_aload_n rfl rfl ?_
                    refine dr_virt rfl rfl rfl rfl hc900 (s_X8_partSize l hl hI898 (mth := th_836) (mni := ni_699) (mpb := pb_702) (mlo := a1) (mhi := a2) (mhb := hb_711) (mls := ls_714) (mre := re_717) (mhe := he_720) hc900 (by omega) (by omega) (by omega) (by omega) (by omega) (by omega) (by omega) (by omega) (by omega) (by omega) (by omega) (by omega) (by omega) (by omega) (by omega) (by omega) c721 (by omega)) (by decide) (by decide) (by decide) (Nat.le_of_ble_eq_true rfl) kNP (kIP (fun y904 y904f y904a y904b => ?_))
                    have y904g : 0 ≤ y904 ∧ y904 ≤ 8 := y904f
                    exact dr_iret (ty := .int) rfl rfl rfl (by decide) (by decide) ⟨hI898, hE903, y904, trivial, by omega, by omega, rfl⟩
                  · skip
                    refine dr_iload_n rfl rfl ?_
                    refine di_aload_n rfl rfl ?_
                    refine dr_getf rfl hc837 rfl ?_
                    refine di_icmp_le rfl rfl (by omega) (by omega) (by omega) (by omega) (fun c905 => ?_) (fun c905 => ?_)
                    · skip
                      refine di_aload_n rfl rfl ?_
                      refine dr_iload_n rfl rfl ?_
                      refine pf rfl hc837 (Nat.le_of_ble_eq_true rfl) rfl hI834 (by decide) (T37_md (by omega) (by omega) (by omega) (by omega) (by omega) (by omega) (by omega) (by omega) (by first | assumption | omega)) (fun h906 hI907 hE908 hc909 hk910 => ?_)
                      have hc911 := (hk910 (35) (by decide)).trans hu839
                      have hE912 := Ext_tr hE843 hE908
                      refine di_aload_n rfl rfl ?_
                      refine dr_iload_n rfl rfl ?_
                      refine pf rfl hc909 (Nat.le_of_ble_eq_true rfl) rfl hI907 (by decide) (T37_md (by omega) (by omega) (by omega) (by omega) (by omega) (by omega) (by omega) (by omega) (by first | assumption | omega)) (fun h913 hI914 hE915 hc916 hk917 => ?_)
                      have hc918 := (hk917 (35) (by decide)).trans hc911
                      have hE919 := Ext_tr hE912 hE915
                      refine di_aload_n rfl rfl ?_
                      refine dr_virt rfl rfl rfl rfl hc916 (s_X8_partSize l hl hI914 (mth := th_836) (mni := ni_699) (mpb := pb_702) (mlo := a1) (mhi := a2) (mhb := hb_711) (mls := ls_714) (mre := re_717) (mhe := he_720) hc916 (by omega) (by omega) (by omega) (by omega) (by omega) (by omega) (by omega) (by omega) (by omega) (by omega) (by omega) (by omega) (by omega) (by omega) (by omega) (by omega) c721 (by omega)) (by decide) (by decide) (by decide) (Nat.le_of_ble_eq_true rfl) kNP (kIP (fun y920 y920f y920a y920b => ?_))
                      have y920g : 0 ≤ y920 ∧ y920 ≤ 8 := y920f
                      exact dr_iret (ty := .int) rfl rfl rfl (by decide) (by decide) ⟨hI914, hE919, y920, trivial, by omega, by omega, rfl⟩
                    · skip
                      refine di_aload_n rfl rfl ?_
                      refine dr_virt rfl rfl rfl rfl hc837 (s_X8_nine l hl hI834 ) (by decide) (by decide) (by decide) (Nat.le_of_ble_eq_true rfl) kNS (kIS (fun y924 h921 hI922 hE923 y924f y924a y924b => ?_))
                      have hE925 := Ext_tr hE843 hE923
                      exact dr_iret (ty := .int) rfl rfl rfl (by decide) (by decide) ⟨hI922, hE925, y924, trivial, by omega, by omega, rfl⟩
            · skip
              refine di_const rfl ?_
              exact dr_iret (ty := .int) rfl rfl rfl (by decide) (by decide) ⟨hI834, hE843, 0, trivial, by omega, by omega, rfl⟩
set_option maxHeartbeats 4000000 in
set_option maxRecDepth 100000 in
/-- EarlyendsModel.partPut -/
theorem s_X8_partPut (l : Launch) (hl : l.stackTraces = false) {kc km : Int} {h : dm_H} (hI : Inv kc km h) {a1 : Int} (h1a : -2147483648 ≤ a1) (h1b : a1 ≤ 2147483647) {a2 : Int} (h2a : -2147483648 ≤ a2) (h2b : a2 ≤ 2147483647) {a3 : Int} (h3a : -2147483648 ≤ a3) (h3b : a3 ≤ 2147483647) : dm_M l 161 3 0 0 [.ref 26, dI (a1), dI (a2), dI (a3)] h (QS kc km h (RI (fun x => True)) []) := by
  refine dm_M_of dk_161 hl rfl (Nat.le_of_ble_eq_true rfl) ?_
  show dm_W (fun _ _ _ => True) (dm_P (QS kc km h (RI (fun x => True)) []) 0 0) l 161 3 0 0 0 [some (.ref 26), some (dI (a1)), some (dI (a2)), some (dI (a3))] [] h 0 0
  refine di_aload_n rfl rfl ?_
  refine dr_iload_n rfl rfl ?_
  refine dr_iload_n rfl rfl ?_
  refine dr_stat rfl rfl rfl rfl (s_X8_isNoSpan l hl hI (a0 := a1) (by omega) (by omega) (a1 := a2) (by omega) (by omega)) (by decide) (by decide) (by decide) (Nat.le_of_ble_eq_true rfl) kNP (kIP (fun y1 y1f y1a y1b => ?_))
  have y1g : 0 ≤ y1 ∧ y1 ≤ 1 ∧ (y1 = 0 → 0 ≤ (a1) ∧ (a1) ≤ (a2) ∧ (a2) ≤ 99) := y1f
  refine di_if_ne rfl rfl (by omega) (by omega) (fun c2 => ?_) (fun c2 => ?_)
  · skip
    refine di_const rfl ?_
    refine dr_goto rfl rfl ?_
    refine di_const rfl ?_
    obtain ⟨th_3, ni_6, pb_9, lo_12, hi_15, hb_18, ls_21, re_24, he_27, c4, c5, c7, c8, c10, c11, c13, c14, c16, c17, c19, c20, c22, c23, c25, c26, c28, hc29⟩ := I_md hI
    have ho30 : he_27 = -1 ∨ (0 ≤ he_27 ∧ he_27 ≤ 9999 ∧ he_27 % 100 ≤ he_27 / 100) := c28
    obtain ⟨vs31, hc32, ha33⟩ := I_sz hI
    refine dr_virt rfl rfl rfl rfl hc29 (s_X8_start l hl hI (a1 := 1) (by omega) (by omega) (a2 := 1) (by omega) (by omega) (mth := th_3) (mni := ni_6) (mpb := pb_9) (mlo := lo_12) (mhi := hi_15) (mhb := hb_18) (mls := ls_21) (mre := re_24) (mhe := he_27) hc29 (by omega) (by omega) (by omega) (by omega) (by omega) (by omega) (by omega) (by omega) (by omega) (by omega) (by omega) (by omega) (by omega) (by omega) (by omega) (by omega) c28 (us := vs31) hc32 ha33) (by decide) (by decide) (by decide) (Nat.le_of_ble_eq_true rfl) kQMN (kQMI (fun y43 h34 hI35 hE36 fs9 hc38 hM9 us39 hu40 ha41 hU42 y43f y43a y43b => ?_))
    obtain ⟨th_37, th_37a, th_37b, rfl⟩ := hM9
    have hU42 : us39 = vs31 := hU42
    subst hU42
    have hE44 := hE36
    have y43g : 0 ≤ y43 ∧ y43 ≤ 1 ∧ (y43 = 0 → ((1) : Int) = 0) := y43f
    refine di_if_ne rfl rfl (by omega) (by omega) (fun c45 => ?_) (fun c45 => ?_)
    · skip
      refine di_const rfl ?_
      exact dr_iret (ty := .int) rfl rfl rfl (by decide) (by decide) ⟨hI35, hE44, 0, trivial, by omega, by omega, rfl⟩
    · skip
      refine di_aload_n rfl rfl ?_
      refine di_aload_n rfl rfl ?_
      refine dr_getf rfl hc38 rfl ?_
      refine di_const rfl ?_
      refine di_icmp_ne rfl rfl (by omega) (by omega) (by omega) (by omega) (fun c46 => ?_) (fun c46 => ?_)
      · skip
        refine di_const rfl ?_
        refine di_const rfl ?_
        refine dr_virt rfl rfl rfl rfl hc38 (s_X8_refuse l hl hI35 (a1 := 0) (by omega) (by omega) (a2 := 2) (by omega) (by omega) (mth := th_37) (mni := ni_6) (mpb := pb_9) (mlo := lo_12) (mhi := hi_15) (mhb := hb_18) (mls := ls_21) (mre := re_24) (mhe := he_27) hc38 (by omega) (by omega) (by omega) (by omega) (by omega) (by omega) (by omega) (by omega) (by omega) (by omega) (by omega) (by omega) (by omega) (by omega) (by omega) (by omega) c28 (us := us39) hu40 ha41) (by decide) (by decide) (by decide) (Nat.le_of_ble_eq_true rfl) kQMN (kQMI (fun y56 h47 hI48 hE49 fs9 hc51 hM9 us52 hu53 ha54 hU55 y56f y56a y56b => ?_))
        obtain ⟨th_50, th_50a, th_50b, rfl⟩ := hM9
        have hU55 : us52 = us39 := hU55
        subst hU55
        have hE57 := Ext_tr hE44 hE49
        have y56g : 0 ≤ y56 ∧ y56 ≤ 1 ∧ (y56 = 0 → ((0) : Int) = 0) := y56f
        refine di_if_eq rfl rfl (by omega) (by omega) (fun c58 => ?_) (fun c58 => ?_)
        · skip
          refine di_aload_n rfl rfl ?_
          refine di_bipush rfl (by decide) ?_
          refine dr_iload_n rfl rfl ?_
          refine di_imul rfl ?_
          refine dr_iload_n rfl rfl ?_
          refine di_iadd rfl ?_
          refine dr_virt rfl rfl rfl rfl hc51 (s_X8_isInPart l hl hI48 (a1 := ((100 * a2) + a1)) (by omega) (by omega)) (by decide) (by decide) (by decide) (Nat.le_of_ble_eq_true rfl) kNP (kIP (fun y59 y59f y59a y59b => ?_))
          have y59g : 0 ≤ y59 ∧ y59 ≤ 1 := y59f
          refine di_if_eq rfl rfl (by omega) (by omega) (fun c60 => ?_) (fun c60 => ?_)
          · skip
            refine di_aload_n rfl rfl ?_
            refine dr_virt rfl rfl rfl rfl hc51 (s_X8_nine l hl hI48 ) (by decide) (by decide) (by decide) (Nat.le_of_ble_eq_true rfl) kNS (kIS (fun y64 h61 hI62 hE63 y64f y64a y64b => ?_))
            have hE65 := Ext_tr hE57 hE63
            exact dr_iret (ty := .int) rfl rfl rfl (by decide) (by decide) ⟨hI62, hE65, y64, trivial, by omega, by omega, rfl⟩
          · skip
            refine di_aload_n rfl rfl ?_
            refine di_aload_n rfl rfl ?_
            refine dr_getf rfl hc51 rfl ?_
            refine di_bipush rfl (by decide) ?_
            refine dr_iload_n rfl rfl ?_
            refine di_imul rfl ?_
            refine dr_iload_n rfl rfl ?_
            refine di_iadd rfl ?_
            refine dr_iload_n rfl rfl ?_
            refine dr_virt rfl rfl rfl rfl hc51 (s_X8_putIn l hl hI48 (a1 := pb_9) (by omega) (by omega) (a2 := ((100 * a2) + a1)) (by omega) (by omega) (a3 := a3) (by omega) (by omega) (by omega)) (by decide) (by decide) (by decide) (Nat.le_of_ble_eq_true rfl) kNS (kIS (fun y69 h66 hI67 hE68 y69f y69a y69b => ?_))
            have hE70 := Ext_tr hE57 hE68
            refine dr_goto rfl rfl ?_
            exact dr_iret (ty := .int) rfl rfl rfl (by decide) (by decide) ⟨hI67, hE70, y69, trivial, by omega, by omega, rfl⟩
        · skip
          refine di_const rfl ?_
          exact dr_iret (ty := .int) rfl rfl rfl (by decide) (by decide) ⟨hI48, hE57, 0, trivial, by omega, by omega, rfl⟩
      · skip
        refine di_const rfl ?_
        refine dr_goto rfl rfl ?_
        refine di_const rfl ?_
        refine dr_virt rfl rfl rfl rfl hc38 (s_X8_refuse l hl hI35 (a1 := 1) (by omega) (by omega) (a2 := 2) (by omega) (by omega) (mth := th_37) (mni := ni_6) (mpb := pb_9) (mlo := lo_12) (mhi := hi_15) (mhb := hb_18) (mls := ls_21) (mre := re_24) (mhe := he_27) hc38 (by omega) (by omega) (by omega) (by omega) (by omega) (by omega) (by omega) (by omega) (by omega) (by omega) (by omega) (by omega) (by omega) (by omega) (by omega) (by omega) c28 (us := us39) hu40 ha41) (by decide) (by decide) (by decide) (Nat.le_of_ble_eq_true rfl) kQMN (kQMI (fun y80 h71 hI72 hE73 fs9 hc75 hM9 us76 hu77 ha78 hU79 y80f y80a y80b => ?_))
        obtain ⟨th_74, th_74a, th_74b, rfl⟩ := hM9
        have hU79 : us76 = us39 := hU79
        subst hU79
        have hE81 := Ext_tr hE44 hE73
        have y80g : 0 ≤ y80 ∧ y80 ≤ 1 ∧ (y80 = 0 → ((1) : Int) = 0) := y80f
        refine di_if_eq rfl rfl (by omega) (by omega) (fun c82 => ?_) (fun c82 => ?_)
        · skip
          refine di_aload_n rfl rfl ?_
          refine di_bipush rfl (by decide) ?_
          refine dr_iload_n rfl rfl ?_
          refine di_imul rfl ?_
          refine dr_iload_n rfl rfl ?_
          refine di_iadd rfl ?_
          refine dr_virt rfl rfl rfl rfl hc75 (s_X8_isInPart l hl hI72 (a1 := ((100 * a2) + a1)) (by omega) (by omega)) (by decide) (by decide) (by decide) (Nat.le_of_ble_eq_true rfl) kNP (kIP (fun y83 y83f y83a y83b => ?_))
          have y83g : 0 ≤ y83 ∧ y83 ≤ 1 := y83f
          refine di_if_eq rfl rfl (by omega) (by omega) (fun c84 => ?_) (fun c84 => ?_)
          · skip
            refine di_aload_n rfl rfl ?_
            refine dr_virt rfl rfl rfl rfl hc75 (s_X8_nine l hl hI72 ) (by decide) (by decide) (by decide) (Nat.le_of_ble_eq_true rfl) kNS (kIS (fun y88 h85 hI86 hE87 y88f y88a y88b => ?_))
            have hE89 := Ext_tr hE81 hE87
            exact dr_iret (ty := .int) rfl rfl rfl (by decide) (by decide) ⟨hI86, hE89, y88, trivial, by omega, by omega, rfl⟩
          · skip
            refine di_aload_n rfl rfl ?_
            refine di_aload_n rfl rfl ?_
            refine dr_getf rfl hc75 rfl ?_
            refine di_bipush rfl (by decide) ?_
            refine dr_iload_n rfl rfl ?_
            refine di_imul rfl ?_
            refine dr_iload_n rfl rfl ?_
            refine di_iadd rfl ?_
            refine dr_iload_n rfl rfl ?_
            refine dr_virt rfl rfl rfl rfl hc75 (s_X8_putIn l hl hI72 (a1 := pb_9) (by omega) (by omega) (a2 := ((100 * a2) + a1)) (by omega) (by omega) (a3 := a3) (by omega) (by omega) (by omega)) (by decide) (by decide) (by decide) (Nat.le_of_ble_eq_true rfl) kNS (kIS (fun y93 h90 hI91 hE92 y93f y93a y93b => ?_))
            have hE94 := Ext_tr hE81 hE92
            refine dr_goto rfl rfl ?_
            exact dr_iret (ty := .int) rfl rfl rfl (by decide) (by decide) ⟨hI91, hE94, y93, trivial, by omega, by omega, rfl⟩
        · skip
          refine di_const rfl ?_
          exact dr_iret (ty := .int) rfl rfl rfl (by decide) (by decide) ⟨hI72, hE81, 0, trivial, by omega, by omega, rfl⟩
  · skip
    refine dr_iload_n rfl rfl ?_
    refine dr_stat rfl rfl rfl rfl (s_X8_isNo99 l hl hI (a0 := a3) (by omega) (by omega)) (by decide) (by decide) (by decide) (Nat.le_of_ble_eq_true rfl) kNP (kIP (fun y95 y95f y95a y95b => ?_))
    have y95g : 0 ≤ y95 ∧ y95 ≤ 1 ∧ (y95 = 0 → 0 ≤ (a3) ∧ (a3) ≤ 99) := y95f
    refine di_if_eq rfl rfl (by omega) (by omega) (fun c96 => ?_) (fun c96 => ?_)
    · skip
      refine di_const rfl ?_
      refine di_const rfl ?_
      obtain ⟨th_97, ni_100, pb_103, lo_106, hi_109, hb_112, ls_115, re_118, he_121, c98, c99, c101, c102, c104, c105, c107, c108, c110, c111, c113, c114, c116, c117, c119, c120, c122, hc123⟩ := I_md hI
      have ho124 : he_121 = -1 ∨ (0 ≤ he_121 ∧ he_121 ≤ 9999 ∧ he_121 % 100 ≤ he_121 / 100) := c122
      obtain ⟨vs125, hc126, ha127⟩ := I_sz hI
      refine dr_virt rfl rfl rfl rfl hc123 (s_X8_start l hl hI (a1 := 0) (by omega) (by omega) (a2 := 1) (by omega) (by omega) (mth := th_97) (mni := ni_100) (mpb := pb_103) (mlo := lo_106) (mhi := hi_109) (mhb := hb_112) (mls := ls_115) (mre := re_118) (mhe := he_121) hc123 (by omega) (by omega) (by omega) (by omega) (by omega) (by omega) (by omega) (by omega) (by omega) (by omega) (by omega) (by omega) (by omega) (by omega) (by omega) (by omega) c122 (us := vs125) hc126 ha127) (by decide) (by decide) (by decide) (Nat.le_of_ble_eq_true rfl) kQMN (kQMI (fun y137 h128 hI129 hE130 fs9 hc132 hM9 us133 hu134 ha135 hU136 y137f y137a y137b => ?_))
      obtain ⟨th_131, th_131a, th_131b, rfl⟩ := hM9
      have hU136 : us133 = vs125 := hU136
      subst hU136
      have hE138 := hE130
      have y137g : 0 ≤ y137 ∧ y137 ≤ 1 ∧ (y137 = 0 → ((0) : Int) = 0) := y137f
      refine di_if_ne rfl rfl (by omega) (by omega) (fun c139 => ?_) (fun c139 => ?_)
      · skip
        refine di_const rfl ?_
        exact dr_iret (ty := .int) rfl rfl rfl (by decide) (by decide) ⟨hI129, hE138, 0, trivial, by omega, by omega, rfl⟩
      · skip
        refine di_aload_n rfl rfl ?_
        refine di_aload_n rfl rfl ?_
        refine dr_getf rfl hc132 rfl ?_
        refine di_const rfl ?_
        refine di_icmp_ne rfl rfl (by omega) (by omega) (by omega) (by omega) (fun c140 => ?_) (fun c140 => ?_)
        · skip
          refine di_const rfl ?_
          refine di_const rfl ?_
          refine dr_virt rfl rfl rfl rfl hc132 (s_X8_refuse l hl hI129 (a1 := 0) (by omega) (by omega) (a2 := 2) (by omega) (by omega) (mth := th_131) (mni := ni_100) (mpb := pb_103) (mlo := lo_106) (mhi := hi_109) (mhb := hb_112) (mls := ls_115) (mre := re_118) (mhe := he_121) hc132 (by omega) (by omega) (by omega) (by omega) (by omega) (by omega) (by omega) (by omega) (by omega) (by omega) (by omega) (by omega) (by omega) (by omega) (by omega) (by omega) c122 (us := us133) hu134 ha135) (by decide) (by decide) (by decide) (Nat.le_of_ble_eq_true rfl) kQMN (kQMI (fun y150 h141 hI142 hE143 fs9 hc145 hM9 us146 hu147 ha148 hU149 y150f y150a y150b => ?_))
          obtain ⟨th_144, th_144a, th_144b, rfl⟩ := hM9
          have hU149 : us146 = us133 := hU149
          subst hU149
          have hE151 := Ext_tr hE138 hE143
          have y150g : 0 ≤ y150 ∧ y150 ≤ 1 ∧ (y150 = 0 → ((0) : Int) = 0) := y150f
          refine di_if_eq rfl rfl (by omega) (by omega) (fun c152 => ?_) (fun c152 => ?_)
          · skip
            refine di_aload_n rfl rfl ?_
            refine di_bipush rfl (by decide) ?_
            refine dr_iload_n rfl rfl ?_
            refine di_imul rfl ?_
            refine dr_iload_n rfl rfl ?_
            refine di_iadd rfl ?_
            refine dr_virt rfl rfl rfl rfl hc145 (s_X8_isInPart l hl hI142 (a1 := ((100 * a2) + a1)) (by omega) (by omega)) (by decide) (by decide) (by decide) (Nat.le_of_ble_eq_true rfl) kNP (kIP (fun y153 y153f y153a y153b => ?_))
            have y153g : 0 ≤ y153 ∧ y153 ≤ 1 := y153f
            refine di_if_eq rfl rfl (by omega) (by omega) (fun c154 => ?_) (fun c154 => ?_)
            · skip
              refine di_aload_n rfl rfl ?_
              refine dr_virt rfl rfl rfl rfl hc145 (s_X8_nine l hl hI142 ) (by decide) (by decide) (by decide) (Nat.le_of_ble_eq_true rfl) kNS (kIS (fun y158 h155 hI156 hE157 y158f y158a y158b => ?_))
              have hE159 := Ext_tr hE151 hE157
              exact dr_iret (ty := .int) rfl rfl rfl (by decide) (by decide) ⟨hI156, hE159, y158, trivial, by omega, by omega, rfl⟩
            · skip
              refine di_aload_n rfl rfl ?_
              refine di_aload_n rfl rfl ?_
              refine dr_getf rfl hc145 rfl ?_
              refine di_bipush rfl (by decide) ?_
              refine dr_iload_n rfl rfl ?_
              refine di_imul rfl ?_
              refine dr_iload_n rfl rfl ?_
              refine di_iadd rfl ?_
              refine dr_iload_n rfl rfl ?_
              refine dr_virt rfl rfl rfl rfl hc145 (s_X8_putIn l hl hI142 (a1 := pb_103) (by omega) (by omega) (a2 := ((100 * a2) + a1)) (by omega) (by omega) (a3 := a3) (by omega) (by omega) (by omega)) (by decide) (by decide) (by decide) (Nat.le_of_ble_eq_true rfl) kNS (kIS (fun y163 h160 hI161 hE162 y163f y163a y163b => ?_))
              have hE164 := Ext_tr hE151 hE162
              refine dr_goto rfl rfl ?_
              exact dr_iret (ty := .int) rfl rfl rfl (by decide) (by decide) ⟨hI161, hE164, y163, trivial, by omega, by omega, rfl⟩
          · skip
            refine di_const rfl ?_
            exact dr_iret (ty := .int) rfl rfl rfl (by decide) (by decide) ⟨hI142, hE151, 0, trivial, by omega, by omega, rfl⟩
        · skip
          refine di_const rfl ?_
          refine dr_goto rfl rfl ?_
          refine di_const rfl ?_
          refine dr_virt rfl rfl rfl rfl hc132 (s_X8_refuse l hl hI129 (a1 := 1) (by omega) (by omega) (a2 := 2) (by omega) (by omega) (mth := th_131) (mni := ni_100) (mpb := pb_103) (mlo := lo_106) (mhi := hi_109) (mhb := hb_112) (mls := ls_115) (mre := re_118) (mhe := he_121) hc132 (by omega) (by omega) (by omega) (by omega) (by omega) (by omega) (by omega) (by omega) (by omega) (by omega) (by omega) (by omega) (by omega) (by omega) (by omega) (by omega) c122 (us := us133) hu134 ha135) (by decide) (by decide) (by decide) (Nat.le_of_ble_eq_true rfl) kQMN (kQMI (fun y174 h165 hI166 hE167 fs9 hc169 hM9 us170 hu171 ha172 hU173 y174f y174a y174b => ?_))
          obtain ⟨th_168, th_168a, th_168b, rfl⟩ := hM9
          have hU173 : us170 = us133 := hU173
          subst hU173
          have hE175 := Ext_tr hE138 hE167
          have y174g : 0 ≤ y174 ∧ y174 ≤ 1 ∧ (y174 = 0 → ((1) : Int) = 0) := y174f
          refine di_if_eq rfl rfl (by omega) (by omega) (fun c176 => ?_) (fun c176 => ?_)
          · skip
            refine di_aload_n rfl rfl ?_
            refine di_bipush rfl (by decide) ?_
            refine dr_iload_n rfl rfl ?_
            refine di_imul rfl ?_
            refine dr_iload_n rfl rfl ?_
            refine di_iadd rfl ?_
            refine dr_virt rfl rfl rfl rfl hc169 (s_X8_isInPart l hl hI166 (a1 := ((100 * a2) + a1)) (by omega) (by omega)) (by decide) (by decide) (by decide) (Nat.le_of_ble_eq_true rfl) kNP (kIP (fun y177 y177f y177a y177b => ?_))
            have y177g : 0 ≤ y177 ∧ y177 ≤ 1 := y177f
            refine di_if_eq rfl rfl (by omega) (by omega) (fun c178 => ?_) (fun c178 => ?_)
            · skip
              refine di_aload_n rfl rfl ?_
              refine dr_virt rfl rfl rfl rfl hc169 (s_X8_nine l hl hI166 ) (by decide) (by decide) (by decide) (Nat.le_of_ble_eq_true rfl) kNS (kIS (fun y182 h179 hI180 hE181 y182f y182a y182b => ?_))
              have hE183 := Ext_tr hE175 hE181
              exact dr_iret (ty := .int) rfl rfl rfl (by decide) (by decide) ⟨hI180, hE183, y182, trivial, by omega, by omega, rfl⟩
            · skip
              refine di_aload_n rfl rfl ?_
              refine di_aload_n rfl rfl ?_
              refine dr_getf rfl hc169 rfl ?_
              refine di_bipush rfl (by decide) ?_
              refine dr_iload_n rfl rfl ?_
              refine di_imul rfl ?_
              refine dr_iload_n rfl rfl ?_
              refine di_iadd rfl ?_
              refine dr_iload_n rfl rfl ?_
              refine dr_virt rfl rfl rfl rfl hc169 (s_X8_putIn l hl hI166 (a1 := pb_103) (by omega) (by omega) (a2 := ((100 * a2) + a1)) (by omega) (by omega) (a3 := a3) (by omega) (by omega) (by omega)) (by decide) (by decide) (by decide) (Nat.le_of_ble_eq_true rfl) kNS (kIS (fun y187 h184 hI185 hE186 y187f y187a y187b => ?_))
              have hE188 := Ext_tr hE175 hE186
              refine dr_goto rfl rfl ?_
              exact dr_iret (ty := .int) rfl rfl rfl (by decide) (by decide) ⟨hI185, hE188, y187, trivial, by omega, by omega, rfl⟩
          · skip
            refine di_const rfl ?_
            exact dr_iret (ty := .int) rfl rfl rfl (by decide) (by decide) ⟨hI166, hE175, 0, trivial, by omega, by omega, rfl⟩
    · skip
      refine di_const rfl ?_
      refine dr_goto rfl rfl ?_
      refine di_const rfl ?_
      obtain ⟨th_189, ni_192, pb_195, lo_198, hi_201, hb_204, ls_207, re_210, he_213, c190, c191, c193, c194, c196, c197, c199, c200, c202, c203, c205, c206, c208, c209, c211, c212, c214, hc215⟩ := I_md hI
      have ho216 : he_213 = -1 ∨ (0 ≤ he_213 ∧ he_213 ≤ 9999 ∧ he_213 % 100 ≤ he_213 / 100) := c214
      obtain ⟨vs217, hc218, ha219⟩ := I_sz hI
      refine dr_virt rfl rfl rfl rfl hc215 (s_X8_start l hl hI (a1 := 1) (by omega) (by omega) (a2 := 1) (by omega) (by omega) (mth := th_189) (mni := ni_192) (mpb := pb_195) (mlo := lo_198) (mhi := hi_201) (mhb := hb_204) (mls := ls_207) (mre := re_210) (mhe := he_213) hc215 (by omega) (by omega) (by omega) (by omega) (by omega) (by omega) (by omega) (by omega) (by omega) (by omega) (by omega) (by omega) (by omega) (by omega) (by omega) (by omega) c214 (us := vs217) hc218 ha219) (by decide) (by decide) (by decide) (Nat.le_of_ble_eq_true rfl) kQMN (kQMI (fun y229 h220 hI221 hE222 fs9 hc224 hM9 us225 hu226 ha227 hU228 y229f y229a y229b => ?_))
      obtain ⟨th_223, th_223a, th_223b, rfl⟩ := hM9
      have hU228 : us225 = vs217 := hU228
      subst hU228
      have hE230 := hE222
      have y229g : 0 ≤ y229 ∧ y229 ≤ 1 ∧ (y229 = 0 → ((1) : Int) = 0) := y229f
      refine di_if_ne rfl rfl (by omega) (by omega) (fun c231 => ?_) (fun c231 => ?_)
      · skip
        refine di_const rfl ?_
        exact dr_iret (ty := .int) rfl rfl rfl (by decide) (by decide) ⟨hI221, hE230, 0, trivial, by omega, by omega, rfl⟩
      · skip
        refine di_aload_n rfl rfl ?_
        refine di_aload_n rfl rfl ?_
        refine dr_getf rfl hc224 rfl ?_
        refine di_const rfl ?_
        refine di_icmp_ne rfl rfl (by omega) (by omega) (by omega) (by omega) (fun c232 => ?_) (fun c232 => ?_)
        · skip
          refine di_const rfl ?_
          refine di_const rfl ?_
          refine dr_virt rfl rfl rfl rfl hc224 (s_X8_refuse l hl hI221 (a1 := 0) (by omega) (by omega) (a2 := 2) (by omega) (by omega) (mth := th_223) (mni := ni_192) (mpb := pb_195) (mlo := lo_198) (mhi := hi_201) (mhb := hb_204) (mls := ls_207) (mre := re_210) (mhe := he_213) hc224 (by omega) (by omega) (by omega) (by omega) (by omega) (by omega) (by omega) (by omega) (by omega) (by omega) (by omega) (by omega) (by omega) (by omega) (by omega) (by omega) c214 (us := us225) hu226 ha227) (by decide) (by decide) (by decide) (Nat.le_of_ble_eq_true rfl) kQMN (kQMI (fun y242 h233 hI234 hE235 fs9 hc237 hM9 us238 hu239 ha240 hU241 y242f y242a y242b => ?_))
          obtain ⟨th_236, th_236a, th_236b, rfl⟩ := hM9
          have hU241 : us238 = us225 := hU241
          subst hU241
          have hE243 := Ext_tr hE230 hE235
          have y242g : 0 ≤ y242 ∧ y242 ≤ 1 ∧ (y242 = 0 → ((0) : Int) = 0) := y242f
          refine di_if_eq rfl rfl (by omega) (by omega) (fun c244 => ?_) (fun c244 => ?_)
          · skip
            refine di_aload_n rfl rfl ?_
            refine di_bipush rfl (by decide) ?_
            refine dr_iload_n rfl rfl ?_
            refine di_imul rfl ?_
            refine dr_iload_n rfl rfl ?_
            refine di_iadd rfl ?_
            refine dr_virt rfl rfl rfl rfl hc237 (s_X8_isInPart l hl hI234 (a1 := ((100 * a2) + a1)) (by omega) (by omega)) (by decide) (by decide) (by decide) (Nat.le_of_ble_eq_true rfl) kNP (kIP (fun y245 y245f y245a y245b => ?_))
            have y245g : 0 ≤ y245 ∧ y245 ≤ 1 := y245f
            refine di_if_eq rfl rfl (by omega) (by omega) (fun c246 => ?_) (fun c246 => ?_)
            · skip
              refine di_aload_n rfl rfl ?_
              refine dr_virt rfl rfl rfl rfl hc237 (s_X8_nine l hl hI234 ) (by decide) (by decide) (by decide) (Nat.le_of_ble_eq_true rfl) kNS (kIS (fun y250 h247 hI248 hE249 y250f y250a y250b => ?_))
              have hE251 := Ext_tr hE243 hE249
              exact dr_iret (ty := .int) rfl rfl rfl (by decide) (by decide) ⟨hI248, hE251, y250, trivial, by omega, by omega, rfl⟩
            · skip
              refine di_aload_n rfl rfl ?_
              refine di_aload_n rfl rfl ?_
              refine dr_getf rfl hc237 rfl ?_
              refine di_bipush rfl (by decide) ?_
              refine dr_iload_n rfl rfl ?_
              refine di_imul rfl ?_
              refine dr_iload_n rfl rfl ?_
              refine di_iadd rfl ?_
              refine dr_iload_n rfl rfl ?_
              refine dr_virt rfl rfl rfl rfl hc237 (s_X8_putIn l hl hI234 (a1 := pb_195) (by omega) (by omega) (a2 := ((100 * a2) + a1)) (by omega) (by omega) (a3 := a3) (by omega) (by omega) (by omega)) (by decide) (by decide) (by decide) (Nat.le_of_ble_eq_true rfl) kNS (kIS (fun y255 h252 hI253 hE254 y255f y255a y255b => ?_))
              have hE256 := Ext_tr hE243 hE254
              refine dr_goto rfl rfl ?_
              exact dr_iret (ty := .int) rfl rfl rfl (by decide) (by decide) ⟨hI253, hE256, y255, trivial, by omega, by omega, rfl⟩
          · skip
            refine di_const rfl ?_
            exact dr_iret (ty := .int) rfl rfl rfl (by decide) (by decide) ⟨hI234, hE243, 0, trivial, by omega, by omega, rfl⟩
        · skip
          refine di_const rfl ?_
          refine dr_goto rfl rfl ?_
          refine di_const rfl ?_
          refine dr_virt rfl rfl rfl rfl hc224 (s_X8_refuse l hl hI221 (a1 := 1) (by omega) (by omega) (a2 := 2) (by omega) (by omega) (mth := th_223) (mni := ni_192) (mpb := pb_195) (mlo := lo_198) (mhi := hi_201) (mhb := hb_204) (mls := ls_207) (mre := re_210) (mhe := he_213) hc224 (by omega) (by omega) (by omega) (by omega) (by omega) (by omega) (by omega) (by omega) (by omega) (by omega) (by omega) (by omega) (by omega) (by omega) (by omega) (by omega) c214 (us := us225) hu226 ha227) (by decide) (by decide) (by decide) (Nat.le_of_ble_eq_true rfl) kQMN (kQMI (fun y266 h257 hI258 hE259 fs9 hc261 hM9 us262 hu263 ha264 hU265 y266f y266a y266b => ?_))
          obtain ⟨th_260, th_260a, th_260b, rfl⟩ := hM9
          have hU265 : us262 = us225 := hU265
          subst hU265
          have hE267 := Ext_tr hE230 hE259
          have y266g : 0 ≤ y266 ∧ y266 ≤ 1 ∧ (y266 = 0 → ((1) : Int) = 0) := y266f
          refine di_if_eq rfl rfl (by omega) (by omega) (fun c268 => ?_) (fun c268 => ?_)
          · skip
            refine di_aload_n rfl rfl ?_
            refine di_bipush rfl (by decide) ?_
            refine dr_iload_n rfl rfl ?_
            refine di_imul rfl ?_
            refine dr_iload_n rfl rfl ?_
            refine di_iadd rfl ?_
            refine dr_virt rfl rfl rfl rfl hc261 (s_X8_isInPart l hl hI258 (a1 := ((100 * a2) + a1)) (by omega) (by omega)) (by decide) (by decide) (by decide) (Nat.le_of_ble_eq_true rfl) kNP (kIP (fun y269 y269f y269a y269b => ?_))
            have y269g : 0 ≤ y269 ∧ y269 ≤ 1 := y269f
            refine di_if_eq rfl rfl (by omega) (by omega) (fun c270 => ?_) (fun c270 => ?_)
            · skip
              refine di_aload_n rfl rfl ?_
              refine dr_virt rfl rfl rfl rfl hc261 (s_X8_nine l hl hI258 ) (by decide) (by decide) (by decide) (Nat.le_of_ble_eq_true rfl) kNS (kIS (fun y274 h271 hI272 hE273 y274f y274a y274b => ?_))
              have hE275 := Ext_tr hE267 hE273
              exact dr_iret (ty := .int) rfl rfl rfl (by decide) (by decide) ⟨hI272, hE275, y274, trivial, by omega, by omega, rfl⟩
            · skip
              refine di_aload_n rfl rfl ?_
              refine di_aload_n rfl rfl ?_
              refine dr_getf rfl hc261 rfl ?_
              refine di_bipush rfl (by decide) ?_
              refine dr_iload_n rfl rfl ?_
              refine di_imul rfl ?_
              refine dr_iload_n rfl rfl ?_
              refine di_iadd rfl ?_
              refine dr_iload_n rfl rfl ?_
              refine dr_virt rfl rfl rfl rfl hc261 (s_X8_putIn l hl hI258 (a1 := pb_195) (by omega) (by omega) (a2 := ((100 * a2) + a1)) (by omega) (by omega) (a3 := a3) (by omega) (by omega) (by omega)) (by decide) (by decide) (by decide) (Nat.le_of_ble_eq_true rfl) kNS (kIS (fun y279 h276 hI277 hE278 y279f y279a y279b => ?_))
              have hE280 := Ext_tr hE267 hE278
              refine dr_goto rfl rfl ?_
              exact dr_iret (ty := .int) rfl rfl rfl (by decide) (by decide) ⟨hI277, hE280, y279, trivial, by omega, by omega, rfl⟩
          · skip
            refine di_const rfl ?_
            exact dr_iret (ty := .int) rfl rfl rfl (by decide) (by decide) ⟨hI258, hE267, 0, trivial, by omega, by omega, rfl⟩
set_option maxHeartbeats 4000000 in
set_option maxRecDepth 100000 in
/-- EarlyendsModel.partTake -/
theorem s_X8_partTake (l : Launch) (hl : l.stackTraces = false) {kc km : Int} {h : dm_H} (hI : Inv kc km h) {a1 : Int} (h1a : -2147483648 ≤ a1) (h1b : a1 ≤ 2147483647) {a2 : Int} (h2a : -2147483648 ≤ a2) (h2b : a2 ≤ 2147483647) : dm_M l 162 3 0 0 [.ref 26, dI (a1), dI (a2)] h (QS kc km h (RI (fun x => True)) []) := by
  refine dm_M_of dk_162 hl rfl (Nat.le_of_ble_eq_true rfl) ?_
  show dm_W (fun _ _ _ => True) (dm_P (QS kc km h (RI (fun x => True)) []) 0 0) l 162 3 0 0 0 [some (.ref 26), some (dI (a1)), some (dI (a2))] [] h 0 0
  refine di_aload_n rfl rfl ?_
  refine dr_iload_n rfl rfl ?_
  refine dr_iload_n rfl rfl ?_
  refine dr_stat rfl rfl rfl rfl (s_X8_isNoSpan l hl hI (a0 := a1) (by omega) (by omega) (a1 := a2) (by omega) (by omega)) (by decide) (by decide) (by decide) (Nat.le_of_ble_eq_true rfl) kNP (kIP (fun y1 y1f y1a y1b => ?_))
  have y1g : 0 ≤ y1 ∧ y1 ≤ 1 ∧ (y1 = 0 → 0 ≤ (a1) ∧ (a1) ≤ (a2) ∧ (a2) ≤ 99) := y1f
  refine di_const rfl ?_
  obtain ⟨th_2, ni_5, pb_8, lo_11, hi_14, hb_17, ls_20, re_23, he_26, c3, c4, c6, c7, c9, c10, c12, c13, c15, c16, c18, c19, c21, c22, c24, c25, c27, hc28⟩ := I_md hI
  have ho29 : he_26 = -1 ∨ (0 ≤ he_26 ∧ he_26 ≤ 9999 ∧ he_26 % 100 ≤ he_26 / 100) := c27
  obtain ⟨vs30, hc31, ha32⟩ := I_sz hI
  refine dr_virt rfl rfl rfl rfl hc28 (s_X8_start l hl hI (a1 := y1) (by omega) (by omega) (a2 := 1) (by omega) (by omega) (mth := th_2) (mni := ni_5) (mpb := pb_8) (mlo := lo_11) (mhi := hi_14) (mhb := hb_17) (mls := ls_20) (mre := re_23) (mhe := he_26) hc28 (by omega) (by omega) (by omega) (by omega) (by omega) (by omega) (by omega) (by omega) (by omega) (by omega) (by omega) (by omega) (by omega) (by omega) (by omega) (by omega) c27 (us := vs30) hc31 ha32) (by decide) (by decide) (by decide) (Nat.le_of_ble_eq_true rfl) kQMN (kQMI (fun y42 h33 hI34 hE35 fs9 hc37 hM9 us38 hu39 ha40 hU41 y42f y42a y42b => ?_))
  obtain ⟨th_36, th_36a, th_36b, rfl⟩ := hM9
  have hU41 : us38 = vs30 := hU41
  subst hU41
  have hE43 := hE35
  have y42g : 0 ≤ y42 ∧ y42 ≤ 1 ∧ (y42 = 0 → (y1) = 0) := y42f
  refine di_if_ne rfl rfl (by omega) (by omega) (fun c44 => ?_) (fun c44 => ?_)
  · skip
    refine di_const rfl ?_
    exact dr_iret (ty := .int) rfl rfl rfl (by decide) (by decide) ⟨hI34, hE43, 0, trivial, by omega, by omega, rfl⟩
  · skip
    refine di_aload_n rfl rfl ?_
    refine di_aload_n rfl rfl ?_
    refine dr_getf rfl hc37 rfl ?_
    refine di_const rfl ?_
    refine di_icmp_ne rfl rfl (by omega) (by omega) (by omega) (by omega) (fun c45 => ?_) (fun c45 => ?_)
    · skip
      refine di_const rfl ?_
      refine di_const rfl ?_
      refine dr_virt rfl rfl rfl rfl hc37 (s_X8_refuse l hl hI34 (a1 := 0) (by omega) (by omega) (a2 := 2) (by omega) (by omega) (mth := th_36) (mni := ni_5) (mpb := pb_8) (mlo := lo_11) (mhi := hi_14) (mhb := hb_17) (mls := ls_20) (mre := re_23) (mhe := he_26) hc37 (by omega) (by omega) (by omega) (by omega) (by omega) (by omega) (by omega) (by omega) (by omega) (by omega) (by omega) (by omega) (by omega) (by omega) (by omega) (by omega) c27 (us := us38) hu39 ha40) (by decide) (by decide) (by decide) (Nat.le_of_ble_eq_true rfl) kQMN (kQMI (fun y55 h46 hI47 hE48 fs9 hc50 hM9 us51 hu52 ha53 hU54 y55f y55a y55b => ?_))
      obtain ⟨th_49, th_49a, th_49b, rfl⟩ := hM9
      have hU54 : us51 = us38 := hU54
      subst hU54
      have hE56 := Ext_tr hE43 hE48
      have y55g : 0 ≤ y55 ∧ y55 ≤ 1 ∧ (y55 = 0 → ((0) : Int) = 0) := y55f
      refine di_if_eq rfl rfl (by omega) (by omega) (fun c57 => ?_) (fun c57 => ?_)
      · skip
        refine di_aload_n rfl rfl ?_
        refine di_bipush rfl (by decide) ?_
        refine dr_iload_n rfl rfl ?_
        refine di_imul rfl ?_
        refine dr_iload_n rfl rfl ?_
        refine di_iadd rfl ?_
        refine dr_virt rfl rfl rfl rfl hc50 (s_X8_isInPart l hl hI47 (a1 := ((100 * a2) + a1)) (by omega) (by omega)) (by decide) (by decide) (by decide) (Nat.le_of_ble_eq_true rfl) kNP (kIP (fun y58 y58f y58a y58b => ?_))
        have y58g : 0 ≤ y58 ∧ y58 ≤ 1 := y58f
        refine di_if_eq rfl rfl (by omega) (by omega) (fun c59 => ?_) (fun c59 => ?_)
        · skip
          refine di_const rfl ?_
          exact dr_iret (ty := .int) rfl rfl rfl (by decide) (by decide) ⟨hI47, hE56, (-1), trivial, by omega, by omega, rfl⟩
        · skip
          refine di_aload_n rfl rfl ?_
          refine di_aload_n rfl rfl ?_
          refine dr_getf rfl hc50 rfl ?_
          refine di_bipush rfl (by decide) ?_
          refine dr_iload_n rfl rfl ?_
          refine di_imul rfl ?_
          refine dr_iload_n rfl rfl ?_
          refine di_iadd rfl ?_
          refine dr_virt rfl rfl rfl rfl hc50 (s_X8_takeIn l hl hI47 (a1 := pb_8) (by omega) (by omega) (a2 := ((100 * a2) + a1)) (by omega) (by omega) (mth := th_49) (mni := ni_5) (mpb := pb_8) (mlo := lo_11) (mhi := hi_14) (mhb := hb_17) (mls := ls_20) (mre := re_23) (mhe := he_26) hc50 (by omega) (by omega) (by omega) (by omega) (by omega) (by omega) (by omega) (by omega) (by omega) (by omega) (by omega) (by omega) (by omega) (by omega) (by omega) (by omega) c27 (us := us51) hu52 ha53) (by decide) (by decide) (by decide) (Nat.le_of_ble_eq_true rfl) kQMN (kQMI (fun y69 h60 hI61 hE62 fs9 hc64 hM9 us65 hu66 ha67 hU68 y69f y69a y69b => ?_))
          obtain ⟨ls_63, ls_63a, ls_63b, rfl⟩ := hM9
          have hU68 : True := hU68
          have hE70 := Ext_tr hE56 hE62
          refine dr_goto rfl rfl ?_
          exact dr_iret (ty := .int) rfl rfl rfl (by decide) (by decide) ⟨hI61, hE70, y69, trivial, by omega, by omega, rfl⟩
      · skip
        refine di_const rfl ?_
        exact dr_iret (ty := .int) rfl rfl rfl (by decide) (by decide) ⟨hI47, hE56, 0, trivial, by omega, by omega, rfl⟩
    · skip
      refine di_const rfl ?_
      refine dr_goto rfl rfl ?_
      refine di_const rfl ?_
      refine dr_virt rfl rfl rfl rfl hc37 (s_X8_refuse l hl hI34 (a1 := 1) (by omega) (by omega) (a2 := 2) (by omega) (by omega) (mth := th_36) (mni := ni_5) (mpb := pb_8) (mlo := lo_11) (mhi := hi_14) (mhb := hb_17) (mls := ls_20) (mre := re_23) (mhe := he_26) hc37 (by omega) (by omega) (by omega) (by omega) (by omega) (by omega) (by omega) (by omega) (by omega) (by omega) (by omega) (by omega) (by omega) (by omega) (by omega) (by omega) c27 (us := us38) hu39 ha40) (by decide) (by decide) (by decide) (Nat.le_of_ble_eq_true rfl) kQMN (kQMI (fun y80 h71 hI72 hE73 fs9 hc75 hM9 us76 hu77 ha78 hU79 y80f y80a y80b => ?_))
      obtain ⟨th_74, th_74a, th_74b, rfl⟩ := hM9
      have hU79 : us76 = us38 := hU79
      subst hU79
      have hE81 := Ext_tr hE43 hE73
      have y80g : 0 ≤ y80 ∧ y80 ≤ 1 ∧ (y80 = 0 → ((1) : Int) = 0) := y80f
      refine di_if_eq rfl rfl (by omega) (by omega) (fun c82 => ?_) (fun c82 => ?_)
      · skip
        refine di_aload_n rfl rfl ?_
        refine di_bipush rfl (by decide) ?_
        refine dr_iload_n rfl rfl ?_
        refine di_imul rfl ?_
        refine dr_iload_n rfl rfl ?_
        refine di_iadd rfl ?_
        refine dr_virt rfl rfl rfl rfl hc75 (s_X8_isInPart l hl hI72 (a1 := ((100 * a2) + a1)) (by omega) (by omega)) (by decide) (by decide) (by decide) (Nat.le_of_ble_eq_true rfl) kNP (kIP (fun y83 y83f y83a y83b => ?_))
        have y83g : 0 ≤ y83 ∧ y83 ≤ 1 := y83f
        refine di_if_eq rfl rfl (by omega) (by omega) (fun c84 => ?_) (fun c84 => ?_)
        · skip
          refine di_const rfl ?_
          exact dr_iret (ty := .int) rfl rfl rfl (by decide) (by decide) ⟨hI72, hE81, (-1), trivial, by omega, by omega, rfl⟩
        · skip
          refine di_aload_n rfl rfl ?_
          refine di_aload_n rfl rfl ?_
          refine dr_getf rfl hc75 rfl ?_
          refine di_bipush rfl (by decide) ?_
          refine dr_iload_n rfl rfl ?_
          refine di_imul rfl ?_
          refine dr_iload_n rfl rfl ?_
          refine di_iadd rfl ?_
          refine dr_virt rfl rfl rfl rfl hc75 (s_X8_takeIn l hl hI72 (a1 := pb_8) (by omega) (by omega) (a2 := ((100 * a2) + a1)) (by omega) (by omega) (mth := th_74) (mni := ni_5) (mpb := pb_8) (mlo := lo_11) (mhi := hi_14) (mhb := hb_17) (mls := ls_20) (mre := re_23) (mhe := he_26) hc75 (by omega) (by omega) (by omega) (by omega) (by omega) (by omega) (by omega) (by omega) (by omega) (by omega) (by omega) (by omega) (by omega) (by omega) (by omega) (by omega) c27 (us := us76) hu77 ha78) (by decide) (by decide) (by decide) (Nat.le_of_ble_eq_true rfl) kQMN (kQMI (fun y94 h85 hI86 hE87 fs9 hc89 hM9 us90 hu91 ha92 hU93 y94f y94a y94b => ?_))
          obtain ⟨ls_88, ls_88a, ls_88b, rfl⟩ := hM9
          have hU93 : True := hU93
          have hE95 := Ext_tr hE81 hE87
          refine dr_goto rfl rfl ?_
          exact dr_iret (ty := .int) rfl rfl rfl (by decide) (by decide) ⟨hI86, hE95, y94, trivial, by omega, by omega, rfl⟩
      · skip
        refine di_const rfl ?_
        exact dr_iret (ty := .int) rfl rfl rfl (by decide) (by decide) ⟨hI72, hE81, 0, trivial, by omega, by omega, rfl⟩
set_option maxHeartbeats 4000000 in
set_option maxRecDepth 100000 in
/-- EarlyendsModel.partDraw -/
theorem s_X8_partDraw (l : Launch) (hl : l.stackTraces = false) {kc km : Int} {h : dm_H} (hI : Inv kc km h) {a1 : Int} (h1a : 0 ≤ a1) (h1b : a1 ≤ 1) : dm_M l 163 3 0 0 [.ref 26, dI (a1)] h (QS kc km h (RI (fun x => True)) []) := by
  refine dm_M_of dk_163 hl rfl (Nat.le_of_ble_eq_true rfl) ?_
  show dm_W (fun _ _ _ => True) (dm_P (QS kc km h (RI (fun x => True)) []) 0 0) l 163 3 0 0 0 [some (.ref 26), some (dI (a1)), none] [] h 0 0
  refine di_aload_n rfl rfl ?_
  refine di_aload_n rfl rfl ?_
  obtain ⟨th_1, ni_4, pb_7, lo_10, hi_13, hb_16, ls_19, re_22, he_25, c2, c3, c5, c6, c8, c9, c11, c12, c14, c15, c17, c18, c20, c21, c23, c24, c26, hc27⟩ := I_md hI
  have ho28 : he_25 = -1 ∨ (0 ≤ he_25 ∧ he_25 ≤ 9999 ∧ he_25 % 100 ≤ he_25 / 100) := c26
  refine dr_getf rfl hc27 rfl ?_
  refine di_const rfl ?_
  refine di_icmp_ne rfl rfl (by omega) (by omega) (by omega) (by omega) (fun c29 => ?_) (fun c29 => ?_)
  · skip
    refine di_const rfl ?_
    refine di_const rfl ?_
    obtain ⟨vs30, hc31, ha32⟩ := I_sz hI
    refine dr_virt rfl rfl rfl rfl hc27 (s_X8_start l hl hI (a1 := 0) (by omega) (by omega) (a2 := 1) (by omega) (by omega) (mth := th_1) (mni := ni_4) (mpb := pb_7) (mlo := lo_10) (mhi := hi_13) (mhb := hb_16) (mls := ls_19) (mre := re_22) (mhe := he_25) hc27 (by omega) (by omega) (by omega) (by omega) (by omega) (by omega) (by omega) (by omega) (by omega) (by omega) (by omega) (by omega) (by omega) (by omega) (by omega) (by omega) c26 (us := vs30) hc31 ha32) (by decide) (by decide) (by decide) (Nat.le_of_ble_eq_true rfl) kQMN (kQMI (fun y42 h33 hI34 hE35 fs9 hc37 hM9 us38 hu39 ha40 hU41 y42f y42a y42b => ?_))
    obtain ⟨th_36, th_36a, th_36b, rfl⟩ := hM9
    have hU41 : us38 = vs30 := hU41
    subst hU41
    have hE43 := hE35
    have y42g : 0 ≤ y42 ∧ y42 ≤ 1 ∧ (y42 = 0 → ((0) : Int) = 0) := y42f
    refine di_if_eq rfl rfl (by omega) (by omega) (fun c44 => ?_) (fun c44 => ?_)
    · skip
      refine di_aload_n rfl rfl ?_
      refine dr_iload_n rfl rfl ?_
      refine dr_virt rfl rfl rfl rfl hc37 (s_X8_partEnd l hl hI34 (a1 := a1) (by omega) (by omega) (mth := th_36) (mni := ni_4) (mpb := pb_7) (mlo := lo_10) (mhi := hi_13) (mhb := hb_16) (mls := ls_19) (mre := re_22) (mhe := he_25) hc37 (by omega) (by omega) (by omega) (by omega) (by omega) (by omega) (by omega) (by omega) (by omega) (by omega) (by omega) (by omega) (by omega) (by omega) (by omega) (by omega) c26 (by omega)) (by decide) (by decide) (by decide) (Nat.le_of_ble_eq_true rfl) kNP (kIP (fun y45 y45f y45a y45b => ?_))
      have y45g : -1 ≤ y45 ∧ y45 ≤ 9999 ∧ (y45 = -1 ∨ (0 ≤ y45 ∧ y45 % 100 ≤ y45 / 100)) := y45f
      refine di_istore_n (ls2 := [some (.ref 26), some (dI (a1)), some (dI (y45))]) rfl rfl rfl ?_
      refine di_aload_n rfl rfl ?_
      refine di_aload_n rfl rfl ?_
      refine dr_getf rfl hc37 rfl ?_
      refine dr_iload_n rfl rfl ?_
      refine dr_virt rfl rfl rfl rfl hc37 (s_X8_takeIn l hl hI34 (a1 := pb_7) (by omega) (by omega) (a2 := y45) (by omega) (by omega) (mth := th_36) (mni := ni_4) (mpb := pb_7) (mlo := lo_10) (mhi := hi_13) (mhb := hb_16) (mls := ls_19) (mre := re_22) (mhe := he_25) hc37 (by omega) (by omega) (by omega) (by omega) (by omega) (by omega) (by omega) (by omega) (by omega) (by omega) (by omega) (by omega) (by omega) (by omega) (by omega) (by omega) c26 (us := us38) hu39 ha40) (by decide) (by decide) (by decide) (Nat.le_of_ble_eq_true rfl) kQMN (kQMI (fun y55 h46 hI47 hE48 fs9 hc50 hM9 us51 hu52 ha53 hU54 y55f y55a y55b => ?_))
      obtain ⟨ls_49, ls_49a, ls_49b, rfl⟩ := hM9
      have hU54 : True := hU54
      have hE56 := Ext_tr hE43 hE48
      refine dr_pop rfl rfl ?_
      refine dr_iload_n rfl rfl ?_
      exact dr_iret (ty := .int) rfl rfl rfl (by decide) (by decide) ⟨hI47, hE56, y45, trivial, by omega, by omega, rfl⟩
    · skip
      refine di_const rfl ?_
      exact dr_iret (ty := .int) rfl rfl rfl (by decide) (by decide) ⟨hI34, hE43, 0, trivial, by omega, by omega, rfl⟩
  · skip
    refine di_const rfl ?_
    refine dr_goto rfl rfl ?_
    refine di_const rfl ?_
    obtain ⟨vs57, hc58, ha59⟩ := I_sz hI
    refine dr_virt rfl rfl rfl rfl hc27 (s_X8_start l hl hI (a1 := 1) (by omega) (by omega) (a2 := 1) (by omega) (by omega) (mth := th_1) (mni := ni_4) (mpb := pb_7) (mlo := lo_10) (mhi := hi_13) (mhb := hb_16) (mls := ls_19) (mre := re_22) (mhe := he_25) hc27 (by omega) (by omega) (by omega) (by omega) (by omega) (by omega) (by omega) (by omega) (by omega) (by omega) (by omega) (by omega) (by omega) (by omega) (by omega) (by omega) c26 (us := vs57) hc58 ha59) (by decide) (by decide) (by decide) (Nat.le_of_ble_eq_true rfl) kQMN (kQMI (fun y69 h60 hI61 hE62 fs9 hc64 hM9 us65 hu66 ha67 hU68 y69f y69a y69b => ?_))
    obtain ⟨th_63, th_63a, th_63b, rfl⟩ := hM9
    have hU68 : us65 = vs57 := hU68
    subst hU68
    have hE70 := hE62
    have y69g : 0 ≤ y69 ∧ y69 ≤ 1 ∧ (y69 = 0 → ((1) : Int) = 0) := y69f
    refine di_if_eq rfl rfl (by omega) (by omega) (fun c71 => ?_) (fun c71 => ?_)
    · skip
      refine di_aload_n rfl rfl ?_
      refine dr_iload_n rfl rfl ?_
      refine dr_virt rfl rfl rfl rfl hc64 (s_X8_partEnd l hl hI61 (a1 := a1) (by omega) (by omega) (mth := th_63) (mni := ni_4) (mpb := pb_7) (mlo := lo_10) (mhi := hi_13) (mhb := hb_16) (mls := ls_19) (mre := re_22) (mhe := he_25) hc64 (by omega) (by omega) (by omega) (by omega) (by omega) (by omega) (by omega) (by omega) (by omega) (by omega) (by omega) (by omega) (by omega) (by omega) (by omega) (by omega) c26 (by omega)) (by decide) (by decide) (by decide) (Nat.le_of_ble_eq_true rfl) kNP (kIP (fun y72 y72f y72a y72b => ?_))
      have y72g : -1 ≤ y72 ∧ y72 ≤ 9999 ∧ (y72 = -1 ∨ (0 ≤ y72 ∧ y72 % 100 ≤ y72 / 100)) := y72f
      refine di_istore_n (ls2 := [some (.ref 26), some (dI (a1)), some (dI (y72))]) rfl rfl rfl ?_
      refine di_aload_n rfl rfl ?_
      refine di_aload_n rfl rfl ?_
      refine dr_getf rfl hc64 rfl ?_
      refine dr_iload_n rfl rfl ?_
      refine dr_virt rfl rfl rfl rfl hc64 (s_X8_takeIn l hl hI61 (a1 := pb_7) (by omega) (by omega) (a2 := y72) (by omega) (by omega) (mth := th_63) (mni := ni_4) (mpb := pb_7) (mlo := lo_10) (mhi := hi_13) (mhb := hb_16) (mls := ls_19) (mre := re_22) (mhe := he_25) hc64 (by omega) (by omega) (by omega) (by omega) (by omega) (by omega) (by omega) (by omega) (by omega) (by omega) (by omega) (by omega) (by omega) (by omega) (by omega) (by omega) c26 (us := us65) hu66 ha67) (by decide) (by decide) (by decide) (Nat.le_of_ble_eq_true rfl) kQMN (kQMI (fun y82 h73 hI74 hE75 fs9 hc77 hM9 us78 hu79 ha80 hU81 y82f y82a y82b => ?_))
      obtain ⟨ls_76, ls_76a, ls_76b, rfl⟩ := hM9
      have hU81 : True := hU81
      have hE83 := Ext_tr hE70 hE75
      refine dr_pop rfl rfl ?_
      refine dr_iload_n rfl rfl ?_
      exact dr_iret (ty := .int) rfl rfl rfl (by decide) (by decide) ⟨hI74, hE83, y72, trivial, by omega, by omega, rfl⟩
    · skip
      refine di_const rfl ?_
      exact dr_iret (ty := .int) rfl rfl rfl (by decide) (by decide) ⟨hI61, hE70, 0, trivial, by omega, by omega, rfl⟩
set_option maxHeartbeats 4000000 in
set_option maxRecDepth 100000 in
/-- EarlyendsModel.partClear -/
theorem s_X8_partClear (l : Launch) (hl : l.stackTraces = false) {kc km : Int} {h : dm_H} (hI : Inv kc km h)  : dm_M l 164 3 0 0 [.ref 26] h (QS kc km h (RI (fun x => True)) []) := by
  refine dm_M_of dk_164 hl rfl (Nat.le_of_ble_eq_true rfl) ?_
  show dm_W (fun _ _ _ => True) (dm_P (QS kc km h (RI (fun x => True)) []) 0 0) l 164 3 0 0 0 [some (.ref 26), none, none] [] h 0 0
  refine di_aload_n rfl rfl ?_
  refine di_aload_n rfl rfl ?_
  obtain ⟨th_1, ni_4, pb_7, lo_10, hi_13, hb_16, ls_19, re_22, he_25, c2, c3, c5, c6, c8, c9, c11, c12, c14, c15, c17, c18, c20, c21, c23, c24, c26, hc27⟩ := I_md hI
  have ho28 : he_25 = -1 ∨ (0 ≤ he_25 ∧ he_25 ≤ 9999 ∧ he_25 % 100 ≤ he_25 / 100) := c26
  refine dr_getf rfl hc27 rfl ?_
  refine di_const rfl ?_
  refine di_icmp_ne rfl rfl (by omega) (by omega) (by omega) (by omega) (fun c29 => ?_) (fun c29 => ?_)
  · skip
    refine di_const rfl ?_
    refine di_const rfl ?_
    obtain ⟨vs30, hc31, ha32⟩ := I_sz hI
    refine dr_virt rfl rfl rfl rfl hc27 (s_X8_start l hl hI (a1 := 0) (by omega) (by omega) (a2 := 1) (by omega) (by omega) (mth := th_1) (mni := ni_4) (mpb := pb_7) (mlo := lo_10) (mhi := hi_13) (mhb := hb_16) (mls := ls_19) (mre := re_22) (mhe := he_25) hc27 (by omega) (by omega) (by omega) (by omega) (by omega) (by omega) (by omega) (by omega) (by omega) (by omega) (by omega) (by omega) (by omega) (by omega) (by omega) (by omega) c26 (us := vs30) hc31 ha32) (by decide) (by decide) (by decide) (Nat.le_of_ble_eq_true rfl) kQMN (kQMI (fun y42 h33 hI34 hE35 fs9 hc37 hM9 us38 hu39 ha40 hU41 y42f y42a y42b => ?_))
    obtain ⟨th_36, th_36a, th_36b, rfl⟩ := hM9
    have hU41 : us38 = vs30 := hU41
    subst hU41
    have hE43 := hE35
    have y42g : 0 ≤ y42 ∧ y42 ≤ 1 ∧ (y42 = 0 → ((0) : Int) = 0) := y42f
    refine di_if_eq rfl rfl (by omega) (by omega) (fun c44 => ?_) (fun c44 => ?_)
    · skip
      refine di_aload_n rfl rfl ?_
      refine dr_virt rfl rfl rfl rfl hc37 (s_X8_partSize l hl hI34 (mth := th_36) (mni := ni_4) (mpb := pb_7) (mlo := lo_10) (mhi := hi_13) (mhb := hb_16) (mls := ls_19) (mre := re_22) (mhe := he_25) hc37 (by omega) (by omega) (by omega) (by omega) (by omega) (by omega) (by omega) (by omega) (by omega) (by omega) (by omega) (by omega) (by omega) (by omega) (by omega) (by omega) c26 (by omega)) (by decide) (by decide) (by decide) (Nat.le_of_ble_eq_true rfl) kNP (kIP (fun y45 y45f y45a y45b => ?_))
      have y45g : 0 ≤ y45 ∧ y45 ≤ 8 := y45f
      refine di_istore_n (ls2 := [some (.ref 26), some (dI (y45)), none]) rfl rfl rfl ?_
      refine di_const rfl ?_
      refine di_istore_n (ls2 := [some (.ref 26), some (dI (y45)), some (dI (0))]) rfl rfl rfl ?_
      have L47 : ∀ (n : Nat) (i46 : Int) (h48 : dm_H) (mv51 : Int), (8 - i46).toNat < n → 0 ≤ i46 → i46 ≤ 8 → Inv kc km h48 → Ext h h48 → h48[26]? = some (10, [.ref 27, .ref 31, .ref 35, dI (th_36), dI (ni_4), dI (km), dI (pb_7), dI (lo_10), dI (hi_13), dI (hb_16), dI (mv51), dI (re_22), dI (he_25)]) → 0 ≤ mv51 → mv51 ≤ 1 → dm_W (fun _ _ _ => True) (dm_P (QS kc km h (RI (fun x => True)) []) 0 0) l 164 3 0 0 30 [some (.ref 26), some (dI (y45)), some (dI (i46))] [] h48 0 0 := by
        intro n
        induction n with
        | zero => intro i46 h48 mv51 hm; exact absurd hm (Nat.not_lt_zero _)
        | succ n ih =>
          intro i46 h48 mv51 hm57 hb52 hb53 hI49 hE50 hc54 hb55 hb56
          have ihL47 := ih
          clear ih
          refine dr_iload_n rfl rfl ?_
          refine dr_iload_n rfl rfl ?_
          refine di_icmp_ge rfl rfl (by omega) (by omega) (by omega) (by omega) (fun c58 => ?_) (fun c58 => ?_)
          · skip
            refine dr_iload_n rfl rfl ?_
            exact dr_iret (ty := .int) rfl rfl rfl (by decide) (by decide) ⟨hI49, hE50, y45, trivial, by omega, by omega, rfl⟩
          · skip
            refine di_aload_n rfl rfl ?_
            refine di_aload_n rfl rfl ?_
            refine dr_getf rfl hc54 rfl ?_
            refine di_aload_n rfl rfl ?_
            refine di_const rfl ?_
            refine dr_virt rfl rfl rfl rfl hc54 (s_X8_partEnd l hl hI49 (a1 := 0) (by omega) (by omega) (mth := th_36) (mni := ni_4) (mpb := pb_7) (mlo := lo_10) (mhi := hi_13) (mhb := hb_16) (mls := mv51) (mre := re_22) (mhe := he_25) hc54 (by omega) (by omega) (by omega) (by omega) (by omega) (by omega) (by omega) (by omega) (by omega) (by omega) (by omega) (by omega) (by omega) (by omega) (by omega) (by omega) c26 (by omega)) (by decide) (by decide) (by decide) (Nat.le_of_ble_eq_true rfl) kNP (kIP (fun y59 y59f y59a y59b => ?_))
            have y59g : -1 ≤ y59 ∧ y59 ≤ 9999 ∧ (y59 = -1 ∨ (0 ≤ y59 ∧ y59 % 100 ≤ y59 / 100)) := y59f
            obtain ⟨vs60, hc61, ha62⟩ := I_sz hI49
            refine dr_virt rfl rfl rfl rfl hc54 (s_X8_takeIn l hl hI49 (a1 := pb_7) (by omega) (by omega) (a2 := y59) (by omega) (by omega) (mth := th_36) (mni := ni_4) (mpb := pb_7) (mlo := lo_10) (mhi := hi_13) (mhb := hb_16) (mls := mv51) (mre := re_22) (mhe := he_25) hc54 (by omega) (by omega) (by omega) (by omega) (by omega) (by omega) (by omega) (by omega) (by omega) (by omega) (by omega) (by omega) (by omega) (by omega) (by omega) (by omega) c26 (us := vs60) hc61 ha62) (by decide) (by decide) (by decide) (Nat.le_of_ble_eq_true rfl) kQMN (kQMI (fun y72 h63 hI64 hE65 fs9 hc67 hM9 us68 hu69 ha70 hU71 y72f y72a y72b => ?_))
            obtain ⟨ls_66, ls_66a, ls_66b, rfl⟩ := hM9
            have hU71 : True := hU71
            have hE73 := Ext_tr hE50 hE65
            refine dr_pop rfl rfl ?_
            refine di_iinc (ls2 := [some (.ref 26), some (dI (y45)), some (dI ((i46 + 1)))]) rfl rfl rfl rfl ?_
            refine dr_goto rfl rfl ?_
            exact ihL47 ((i46 + 1)) h63 (ls_66) (by omega) (by omega) (by omega) hI64 hE73  hc67 (by omega) (by omega)
      exact L47 _ (0) h33 (ls_19) (Nat.lt_succ_self _) (by omega) (by omega) hI34 hE43  hc37 (by omega) (by omega)
    · skip
      refine di_const rfl ?_
      exact dr_iret (ty := .int) rfl rfl rfl (by decide) (by decide) ⟨hI34, hE43, 0, trivial, by omega, by omega, rfl⟩
  · skip
    refine di_const rfl ?_
    refine dr_goto rfl rfl ?_
    refine di_const rfl ?_
    obtain ⟨vs74, hc75, ha76⟩ := I_sz hI
    refine dr_virt rfl rfl rfl rfl hc27 (s_X8_start l hl hI (a1 := 1) (by omega) (by omega) (a2 := 1) (by omega) (by omega) (mth := th_1) (mni := ni_4) (mpb := pb_7) (mlo := lo_10) (mhi := hi_13) (mhb := hb_16) (mls := ls_19) (mre := re_22) (mhe := he_25) hc27 (by omega) (by omega) (by omega) (by omega) (by omega) (by omega) (by omega) (by omega) (by omega) (by omega) (by omega) (by omega) (by omega) (by omega) (by omega) (by omega) c26 (us := vs74) hc75 ha76) (by decide) (by decide) (by decide) (Nat.le_of_ble_eq_true rfl) kQMN (kQMI (fun y86 h77 hI78 hE79 fs9 hc81 hM9 us82 hu83 ha84 hU85 y86f y86a y86b => ?_))
    obtain ⟨th_80, th_80a, th_80b, rfl⟩ := hM9
    have hU85 : us82 = vs74 := hU85
    subst hU85
    have hE87 := hE79
    have y86g : 0 ≤ y86 ∧ y86 ≤ 1 ∧ (y86 = 0 → ((1) : Int) = 0) := y86f
    refine di_if_eq rfl rfl (by omega) (by omega) (fun c88 => ?_) (fun c88 => ?_)
    · skip
      refine di_aload_n rfl rfl ?_
      refine dr_virt rfl rfl rfl rfl hc81 (s_X8_partSize l hl hI78 (mth := th_80) (mni := ni_4) (mpb := pb_7) (mlo := lo_10) (mhi := hi_13) (mhb := hb_16) (mls := ls_19) (mre := re_22) (mhe := he_25) hc81 (by omega) (by omega) (by omega) (by omega) (by omega) (by omega) (by omega) (by omega) (by omega) (by omega) (by omega) (by omega) (by omega) (by omega) (by omega) (by omega) c26 (by omega)) (by decide) (by decide) (by decide) (Nat.le_of_ble_eq_true rfl) kNP (kIP (fun y89 y89f y89a y89b => ?_))
      have y89g : 0 ≤ y89 ∧ y89 ≤ 8 := y89f
      refine di_istore_n (ls2 := [some (.ref 26), some (dI (y89)), none]) rfl rfl rfl ?_
      refine di_const rfl ?_
      refine di_istore_n (ls2 := [some (.ref 26), some (dI (y89)), some (dI (0))]) rfl rfl rfl ?_
      have L91 : ∀ (n : Nat) (i90 : Int) (h92 : dm_H) (mv95 : Int), (8 - i90).toNat < n → 0 ≤ i90 → i90 ≤ 8 → Inv kc km h92 → Ext h h92 → h92[26]? = some (10, [.ref 27, .ref 31, .ref 35, dI (th_80), dI (ni_4), dI (km), dI (pb_7), dI (lo_10), dI (hi_13), dI (hb_16), dI (mv95), dI (re_22), dI (he_25)]) → 0 ≤ mv95 → mv95 ≤ 1 → dm_W (fun _ _ _ => True) (dm_P (QS kc km h (RI (fun x => True)) []) 0 0) l 164 3 0 0 30 [some (.ref 26), some (dI (y89)), some (dI (i90))] [] h92 0 0 := by
        intro n
        induction n with
        | zero => intro i90 h92 mv95 hm; exact absurd hm (Nat.not_lt_zero _)
        | succ n ih =>
          intro i90 h92 mv95 hm101 hb96 hb97 hI93 hE94 hc98 hb99 hb100
          have ihL91 := ih
          clear ih
          refine dr_iload_n rfl rfl ?_
          refine dr_iload_n rfl rfl ?_
          refine di_icmp_ge rfl rfl (by omega) (by omega) (by omega) (by omega) (fun c102 => ?_) (fun c102 => ?_)
          · skip
            refine dr_iload_n rfl rfl ?_
            exact dr_iret (ty := .int) rfl rfl rfl (by decide) (by decide) ⟨hI93, hE94, y89, trivial, by omega, by omega, rfl⟩
          · skip
            refine di_aload_n rfl rfl ?_
            refine di_aload_n rfl rfl ?_
            refine dr_getf rfl hc98 rfl ?_
            refine di_aload_n rfl rfl ?_
            refine di_const rfl ?_
            refine dr_virt rfl rfl rfl rfl hc98 (s_X8_partEnd l hl hI93 (a1 := 0) (by omega) (by omega) (mth := th_80) (mni := ni_4) (mpb := pb_7) (mlo := lo_10) (mhi := hi_13) (mhb := hb_16) (mls := mv95) (mre := re_22) (mhe := he_25) hc98 (by omega) (by omega) (by omega) (by omega) (by omega) (by omega) (by omega) (by omega) (by omega) (by omega) (by omega) (by omega) (by omega) (by omega) (by omega) (by omega) c26 (by omega)) (by decide) (by decide) (by decide) (Nat.le_of_ble_eq_true rfl) kNP (kIP (fun y103 y103f y103a y103b => ?_))
            have y103g : -1 ≤ y103 ∧ y103 ≤ 9999 ∧ (y103 = -1 ∨ (0 ≤ y103 ∧ y103 % 100 ≤ y103 / 100)) := y103f
            obtain ⟨vs104, hc105, ha106⟩ := I_sz hI93
            refine dr_virt rfl rfl rfl rfl hc98 (s_X8_takeIn l hl hI93 (a1 := pb_7) (by omega) (by omega) (a2 := y103) (by omega) (by omega) (mth := th_80) (mni := ni_4) (mpb := pb_7) (mlo := lo_10) (mhi := hi_13) (mhb := hb_16) (mls := mv95) (mre := re_22) (mhe := he_25) hc98 (by omega) (by omega) (by omega) (by omega) (by omega) (by omega) (by omega) (by omega) (by omega) (by omega) (by omega) (by omega) (by omega) (by omega) (by omega) (by omega) c26 (us := vs104) hc105 ha106) (by decide) (by decide) (by decide) (Nat.le_of_ble_eq_true rfl) kQMN (kQMI (fun y116 h107 hI108 hE109 fs9 hc111 hM9 us112 hu113 ha114 hU115 y116f y116a y116b => ?_))
            obtain ⟨ls_110, ls_110a, ls_110b, rfl⟩ := hM9
            have hU115 : True := hU115
            have hE117 := Ext_tr hE94 hE109
            refine dr_pop rfl rfl ?_
            refine di_iinc (ls2 := [some (.ref 26), some (dI (y89)), some (dI ((i90 + 1)))]) rfl rfl rfl rfl ?_
            refine dr_goto rfl rfl ?_
            exact ihL91 ((i90 + 1)) h107 (ls_110) (by omega) (by omega) (by omega) hI108 hE117  hc111 (by omega) (by omega)
      exact L91 _ (0) h77 (ls_19) (Nat.lt_succ_self _) (by omega) (by omega) hI78 hE87  hc81 (by omega) (by omega)
    · skip
      refine di_const rfl ?_
      exact dr_iret (ty := .int) rfl rfl rfl (by decide) (by decide) ⟨hI78, hE87, 0, trivial, by omega, by omega, rfl⟩
set_option maxHeartbeats 4000000 in
set_option maxRecDepth 100000 in
/-- EarlyendsModel.partTold -/
theorem s_X8_partTold (l : Launch) (hl : l.stackTraces = false) {kc km : Int} {h : dm_H} (hI : Inv kc km h) {a1 : Int} (h1a : -2147483648 ≤ a1) (h1b : a1 ≤ 2147483647) {mth mni mpb mlo mhi mhb mls mre mhe : Int} (hmd : h[26]? = some (10, [.ref 27, .ref 31, .ref 35, dI (mth), dI (mni), dI (km), dI (mpb), dI (mlo), dI (mhi), dI (mhb), dI (mls), dI (mre), dI (mhe)])) (hmtha : 0 ≤ mth) (hmthb : mth ≤ 2) (hmnia : -2147483648 ≤ mni) (hmnib : mni ≤ 2147483647) (hmpba : -1 ≤ mpb) (hmpbb : mpb ≤ 2) (hmloa : -1 ≤ mlo) (hmlob : mlo ≤ 99) (hmhia : -1 ≤ mhi) (hmhib : mhi ≤ 99) (hmhba : -1 ≤ mhb) (hmhbb : mhb ≤ 2) (hmlsa : 0 ≤ mls) (hmlsb : mls ≤ 1) (hmrea : -2147483648 ≤ mre) (hmreb : mre ≤ 2147483647) (hmok : mhe = -1 ∨ okC mhe) (hp0 : 0 ≤ mpb) : dm_M l 165 2 0 0 [.ref 26, dI (a1)] h (QP h (RI (fun x => True)) []) := by
  refine dm_M_of dk_165 hl rfl (Nat.le_of_ble_eq_true rfl) ?_
  show dm_W (fun _ _ _ => True) (dm_P (QP h (RI (fun x => True)) []) 0 0) l 165 2 0 0 0 [some (.ref 26), some (dI (a1))] [] h 0 0
  have hmo9 : mhe = -1 ∨ (0 ≤ mhe ∧ mhe ≤ 9999 ∧ mhe % 100 ≤ mhe / 100) := hmok
  refine dr_iload_n rfl rfl ?_
  rcases (by omega : (a1 < 0 ∨ 3 < a1) ∨ a1 = 0 ∨ a1 = 1 ∨ a1 = 2 ∨ a1 = 3) with c1 | c1 | c1 | c1 | c1
  · skip
    refine di_tabOut rfl (by omega) (by omega) c1 rfl ?_
    refine di_aload_n rfl rfl ?_
    refine dr_iload_n rfl rfl ?_
    refine di_const rfl ?_
    refine di_icmp_ne rfl rfl (by omega) (by omega) (by omega) (by omega) (fun c2 => ?_) (fun c2 => ?_)
    · skip
      refine di_const rfl ?_
      refine dr_virt rfl rfl rfl rfl hmd (s_X8_partEnd l hl hI (a1 := 0) (by omega) (by omega) (mth := mth) (mni := mni) (mpb := mpb) (mlo := mlo) (mhi := mhi) (mhb := mhb) (mls := mls) (mre := mre) (mhe := mhe) hmd (by omega) (by omega) (by omega) (by omega) (by omega) (by omega) (by omega) (by omega) (by omega) (by omega) (by omega) (by omega) (by omega) (by omega) (by omega) (by omega) hmok (by omega)) (by decide) (by decide) (by decide) (Nat.le_of_ble_eq_true rfl) kNP (kIP (fun y3 y3f y3a y3b => ?_))
      have y3g : -1 ≤ y3 ∧ y3 ≤ 9999 ∧ (y3 = -1 ∨ (0 ≤ y3 ∧ y3 % 100 ≤ y3 / 100)) := y3f
      exact dr_iret (ty := .int) rfl rfl rfl (by decide) (by decide) ⟨rfl, y3, trivial, by omega, by omega, rfl⟩
    · skip
      refine di_const rfl ?_
      refine dr_goto rfl rfl ?_
      refine dr_virt rfl rfl rfl rfl hmd (s_X8_partEnd l hl hI (a1 := 1) (by omega) (by omega) (mth := mth) (mni := mni) (mpb := mpb) (mlo := mlo) (mhi := mhi) (mhb := mhb) (mls := mls) (mre := mre) (mhe := mhe) hmd (by omega) (by omega) (by omega) (by omega) (by omega) (by omega) (by omega) (by omega) (by omega) (by omega) (by omega) (by omega) (by omega) (by omega) (by omega) (by omega) hmok (by omega)) (by decide) (by decide) (by decide) (Nat.le_of_ble_eq_true rfl) kNP (kIP (fun y4 y4f y4a y4b => ?_))
      have y4g : -1 ≤ y4 ∧ y4 ≤ 9999 ∧ (y4 = -1 ∨ (0 ≤ y4 ∧ y4 % 100 ≤ y4 / 100)) := y4f
      exact dr_iret (ty := .int) rfl rfl rfl (by decide) (by decide) ⟨rfl, y4, trivial, by omega, by omega, rfl⟩
  · skip
    refine di_tabIn 0 rfl (by omega) (by omega) (by omega) (by omega) rfl rfl ?_
    refine di_aload_n rfl rfl ?_
    refine dr_getf rfl hmd rfl ?_
    exact dr_iret (ty := .int) rfl rfl rfl (by decide) (by decide) ⟨rfl, mpb, trivial, by omega, by omega, rfl⟩
  · skip
    refine di_tabIn 1 rfl (by omega) (by omega) (by omega) (by omega) rfl rfl ?_
    refine di_aload_n rfl rfl ?_
    refine dr_getf rfl hmd rfl ?_
    exact dr_iret (ty := .int) rfl rfl rfl (by decide) (by decide) ⟨rfl, mlo, trivial, by omega, by omega, rfl⟩
  · skip
    refine di_tabIn 2 rfl (by omega) (by omega) (by omega) (by omega) rfl rfl ?_
    refine di_aload_n rfl rfl ?_
    refine dr_getf rfl hmd rfl ?_
    exact dr_iret (ty := .int) rfl rfl rfl (by decide) (by decide) ⟨rfl, mhi, trivial, by omega, by omega, rfl⟩
  · skip
    refine di_tabIn 3 rfl (by omega) (by omega) (by omega) (by omega) rfl rfl ?_
    refine di_aload_n rfl rfl ?_
    refine dr_virt rfl rfl rfl rfl hmd (s_X8_partSize l hl hI (mth := mth) (mni := mni) (mpb := mpb) (mlo := mlo) (mhi := mhi) (mhb := mhb) (mls := mls) (mre := mre) (mhe := mhe) hmd (by omega) (by omega) (by omega) (by omega) (by omega) (by omega) (by omega) (by omega) (by omega) (by omega) (by omega) (by omega) (by omega) (by omega) (by omega) (by omega) hmok (by omega)) (by decide) (by decide) (by decide) (Nat.le_of_ble_eq_true rfl) kNP (kIP (fun y5 y5f y5a y5b => ?_))
    have y5g : 0 ≤ y5 ∧ y5 ≤ 8 := y5f
    exact dr_iret (ty := .int) rfl rfl rfl (by decide) (by decide) ⟨rfl, y5, trivial, by omega, by omega, rfl⟩
set_option maxHeartbeats 4000000 in
set_option maxRecDepth 100000 in
/-- EarlyendsModel.ofPart -/
theorem s_X8_ofPart (l : Launch) (hl : l.stackTraces = false) {kc km : Int} {h : dm_H} (hI : Inv kc km h) {a1 : Int} (h1a : -2147483648 ≤ a1) (h1b : a1 ≤ 2147483647) : dm_M l 166 3 0 0 [.ref 26, dI (a1)] h (QS kc km h (RI (fun x => True)) []) := by
  refine dm_M_of dk_166 hl rfl (Nat.le_of_ble_eq_true rfl) ?_
  show dm_W (fun _ _ _ => True) (dm_P (QS kc km h (RI (fun x => True)) []) 0 0) l 166 3 0 0 0 [some (.ref 26), some (dI (a1))] [] h 0 0
  refine di_aload_n rfl rfl ?_
  refine dr_iload_n rfl rfl ?_
  refine di_if_lt rfl rfl (by omega) (by omega) (fun c1 => ?_) (fun c1 => ?_)
  · skip
    refine di_const rfl ?_
    refine dr_goto rfl rfl ?_
    refine di_const rfl ?_
    obtain ⟨th_2, ni_5, pb_8, lo_11, hi_14, hb_17, ls_20, re_23, he_26, c3, c4, c6, c7, c9, c10, c12, c13, c15, c16, c18, c19, c21, c22, c24, c25, c27, hc28⟩ := I_md hI
    have ho29 : he_26 = -1 ∨ (0 ≤ he_26 ∧ he_26 ≤ 9999 ∧ he_26 % 100 ≤ he_26 / 100) := c27
    obtain ⟨vs30, hc31, ha32⟩ := I_sz hI
    refine dr_virt rfl rfl rfl rfl hc28 (s_X8_start l hl hI (a1 := 1) (by omega) (by omega) (a2 := 1) (by omega) (by omega) (mth := th_2) (mni := ni_5) (mpb := pb_8) (mlo := lo_11) (mhi := hi_14) (mhb := hb_17) (mls := ls_20) (mre := re_23) (mhe := he_26) hc28 (by omega) (by omega) (by omega) (by omega) (by omega) (by omega) (by omega) (by omega) (by omega) (by omega) (by omega) (by omega) (by omega) (by omega) (by omega) (by omega) c27 (us := vs30) hc31 ha32) (by decide) (by decide) (by decide) (Nat.le_of_ble_eq_true rfl) kQMN (kQMI (fun y42 h33 hI34 hE35 fs9 hc37 hM9 us38 hu39 ha40 hU41 y42f y42a y42b => ?_))
    obtain ⟨th_36, th_36a, th_36b, rfl⟩ := hM9
    have hU41 : us38 = vs30 := hU41
    subst hU41
    have hE43 := hE35
    have y42g : 0 ≤ y42 ∧ y42 ≤ 1 ∧ (y42 = 0 → ((1) : Int) = 0) := y42f
    refine di_if_ne rfl rfl (by omega) (by omega) (fun c44 => ?_) (fun c44 => ?_)
    · skip
      refine di_const rfl ?_
      exact dr_iret (ty := .int) rfl rfl rfl (by decide) (by decide) ⟨hI34, hE43, 0, trivial, by omega, by omega, rfl⟩
    · skip
      refine di_aload_n rfl rfl ?_
      refine di_aload_n rfl rfl ?_
      refine dr_getf rfl hc37 rfl ?_
      refine di_const rfl ?_
      refine di_icmp_ne rfl rfl (by omega) (by omega) (by omega) (by omega) (fun c45 => ?_) (fun c45 => ?_)
      · skip
        refine di_const rfl ?_
        refine di_const rfl ?_
        refine dr_virt rfl rfl rfl rfl hc37 (s_X8_refuse l hl hI34 (a1 := 0) (by omega) (by omega) (a2 := 2) (by omega) (by omega) (mth := th_36) (mni := ni_5) (mpb := pb_8) (mlo := lo_11) (mhi := hi_14) (mhb := hb_17) (mls := ls_20) (mre := re_23) (mhe := he_26) hc37 (by omega) (by omega) (by omega) (by omega) (by omega) (by omega) (by omega) (by omega) (by omega) (by omega) (by omega) (by omega) (by omega) (by omega) (by omega) (by omega) c27 (us := us38) hu39 ha40) (by decide) (by decide) (by decide) (Nat.le_of_ble_eq_true rfl) kQMN (kQMI (fun y55 h46 hI47 hE48 fs9 hc50 hM9 us51 hu52 ha53 hU54 y55f y55a y55b => ?_))
        obtain ⟨th_49, th_49a, th_49b, rfl⟩ := hM9
        have hU54 : us51 = us38 := hU54
        subst hU54
        have hE56 := Ext_tr hE43 hE48
        have y55g : 0 ≤ y55 ∧ y55 ≤ 1 ∧ (y55 = 0 → ((0) : Int) = 0) := y55f
        refine di_if_eq rfl rfl (by omega) (by omega) (fun c57 => ?_) (fun c57 => ?_)
        · skip
          refine di_aload_n rfl rfl ?_
          refine dr_iload_n rfl rfl ?_
          refine dr_virt rfl rfl rfl rfl hc50 (s_X8_partTold l hl hI47 (a1 := a1) (by omega) (by omega) (mth := th_49) (mni := ni_5) (mpb := pb_8) (mlo := lo_11) (mhi := hi_14) (mhb := hb_17) (mls := ls_20) (mre := re_23) (mhe := he_26) hc50 (by omega) (by omega) (by omega) (by omega) (by omega) (by omega) (by omega) (by omega) (by omega) (by omega) (by omega) (by omega) (by omega) (by omega) (by omega) (by omega) c27 (by omega)) (by decide) (by decide) (by decide) (Nat.le_of_ble_eq_true rfl) kNP (kIP (fun y58 y58f y58a y58b => ?_))
          exact dr_iret (ty := .int) rfl rfl rfl (by decide) (by decide) ⟨hI47, hE56, y58, trivial, by omega, by omega, rfl⟩
        · skip
          refine di_const rfl ?_
          exact dr_iret (ty := .int) rfl rfl rfl (by decide) (by decide) ⟨hI47, hE56, 0, trivial, by omega, by omega, rfl⟩
      · skip
        refine di_const rfl ?_
        refine dr_goto rfl rfl ?_
        refine di_const rfl ?_
        refine dr_virt rfl rfl rfl rfl hc37 (s_X8_refuse l hl hI34 (a1 := 1) (by omega) (by omega) (a2 := 2) (by omega) (by omega) (mth := th_36) (mni := ni_5) (mpb := pb_8) (mlo := lo_11) (mhi := hi_14) (mhb := hb_17) (mls := ls_20) (mre := re_23) (mhe := he_26) hc37 (by omega) (by omega) (by omega) (by omega) (by omega) (by omega) (by omega) (by omega) (by omega) (by omega) (by omega) (by omega) (by omega) (by omega) (by omega) (by omega) c27 (us := us38) hu39 ha40) (by decide) (by decide) (by decide) (Nat.le_of_ble_eq_true rfl) kQMN (kQMI (fun y68 h59 hI60 hE61 fs9 hc63 hM9 us64 hu65 ha66 hU67 y68f y68a y68b => ?_))
        obtain ⟨th_62, th_62a, th_62b, rfl⟩ := hM9
        have hU67 : us64 = us38 := hU67
        subst hU67
        have hE69 := Ext_tr hE43 hE61
        have y68g : 0 ≤ y68 ∧ y68 ≤ 1 ∧ (y68 = 0 → ((1) : Int) = 0) := y68f
        refine di_if_eq rfl rfl (by omega) (by omega) (fun c70 => ?_) (fun c70 => ?_)
        · skip
          refine di_aload_n rfl rfl ?_
          refine dr_iload_n rfl rfl ?_
          refine dr_virt rfl rfl rfl rfl hc63 (s_X8_partTold l hl hI60 (a1 := a1) (by omega) (by omega) (mth := th_62) (mni := ni_5) (mpb := pb_8) (mlo := lo_11) (mhi := hi_14) (mhb := hb_17) (mls := ls_20) (mre := re_23) (mhe := he_26) hc63 (by omega) (by omega) (by omega) (by omega) (by omega) (by omega) (by omega) (by omega) (by omega) (by omega) (by omega) (by omega) (by omega) (by omega) (by omega) (by omega) c27 (by omega)) (by decide) (by decide) (by decide) (Nat.le_of_ble_eq_true rfl) kNP (kIP (fun y71 y71f y71a y71b => ?_))
          exact dr_iret (ty := .int) rfl rfl rfl (by decide) (by decide) ⟨hI60, hE69, y71, trivial, by omega, by omega, rfl⟩
        · skip
          refine di_const rfl ?_
          exact dr_iret (ty := .int) rfl rfl rfl (by decide) (by decide) ⟨hI60, hE69, 0, trivial, by omega, by omega, rfl⟩
  · skip
    refine dr_iload_n rfl rfl ?_
    refine di_const rfl ?_
    refine di_icmp_le rfl rfl (by omega) (by omega) (by omega) (by omega) (fun c72 => ?_) (fun c72 => ?_)
    · skip
      refine di_const rfl ?_
      refine di_const rfl ?_
      obtain ⟨th_73, ni_76, pb_79, lo_82, hi_85, hb_88, ls_91, re_94, he_97, c74, c75, c77, c78, c80, c81, c83, c84, c86, c87, c89, c90, c92, c93, c95, c96, c98, hc99⟩ := I_md hI
      have ho100 : he_97 = -1 ∨ (0 ≤ he_97 ∧ he_97 ≤ 9999 ∧ he_97 % 100 ≤ he_97 / 100) := c98
      obtain ⟨vs101, hc102, ha103⟩ := I_sz hI
      refine dr_virt rfl rfl rfl rfl hc99 (s_X8_start l hl hI (a1 := 0) (by omega) (by omega) (a2 := 1) (by omega) (by omega) (mth := th_73) (mni := ni_76) (mpb := pb_79) (mlo := lo_82) (mhi := hi_85) (mhb := hb_88) (mls := ls_91) (mre := re_94) (mhe := he_97) hc99 (by omega) (by omega) (by omega) (by omega) (by omega) (by omega) (by omega) (by omega) (by omega) (by omega) (by omega) (by omega) (by omega) (by omega) (by omega) (by omega) c98 (us := vs101) hc102 ha103) (by decide) (by decide) (by decide) (Nat.le_of_ble_eq_true rfl) kQMN (kQMI (fun y113 h104 hI105 hE106 fs9 hc108 hM9 us109 hu110 ha111 hU112 y113f y113a y113b => ?_))
      obtain ⟨th_107, th_107a, th_107b, rfl⟩ := hM9
      have hU112 : us109 = vs101 := hU112
      subst hU112
      have hE114 := hE106
      have y113g : 0 ≤ y113 ∧ y113 ≤ 1 ∧ (y113 = 0 → ((0) : Int) = 0) := y113f
      refine di_if_ne rfl rfl (by omega) (by omega) (fun c115 => ?_) (fun c115 => ?_)
      · skip
        refine di_const rfl ?_
        exact dr_iret (ty := .int) rfl rfl rfl (by decide) (by decide) ⟨hI105, hE114, 0, trivial, by omega, by omega, rfl⟩
      · skip
        refine di_aload_n rfl rfl ?_
        refine di_aload_n rfl rfl ?_
        refine dr_getf rfl hc108 rfl ?_
        refine di_const rfl ?_
        refine di_icmp_ne rfl rfl (by omega) (by omega) (by omega) (by omega) (fun c116 => ?_) (fun c116 => ?_)
        · skip
          refine di_const rfl ?_
          refine di_const rfl ?_
          refine dr_virt rfl rfl rfl rfl hc108 (s_X8_refuse l hl hI105 (a1 := 0) (by omega) (by omega) (a2 := 2) (by omega) (by omega) (mth := th_107) (mni := ni_76) (mpb := pb_79) (mlo := lo_82) (mhi := hi_85) (mhb := hb_88) (mls := ls_91) (mre := re_94) (mhe := he_97) hc108 (by omega) (by omega) (by omega) (by omega) (by omega) (by omega) (by omega) (by omega) (by omega) (by omega) (by omega) (by omega) (by omega) (by omega) (by omega) (by omega) c98 (us := us109) hu110 ha111) (by decide) (by decide) (by decide) (Nat.le_of_ble_eq_true rfl) kQMN (kQMI (fun y126 h117 hI118 hE119 fs9 hc121 hM9 us122 hu123 ha124 hU125 y126f y126a y126b => ?_))
          obtain ⟨th_120, th_120a, th_120b, rfl⟩ := hM9
          have hU125 : us122 = us109 := hU125
          subst hU125
          have hE127 := Ext_tr hE114 hE119
          have y126g : 0 ≤ y126 ∧ y126 ≤ 1 ∧ (y126 = 0 → ((0) : Int) = 0) := y126f
          refine di_if_eq rfl rfl (by omega) (by omega) (fun c128 => ?_) (fun c128 => ?_)
          · skip
            refine di_aload_n rfl rfl ?_
            refine dr_iload_n rfl rfl ?_
            refine dr_virt rfl rfl rfl rfl hc121 (s_X8_partTold l hl hI118 (a1 := a1) (by omega) (by omega) (mth := th_120) (mni := ni_76) (mpb := pb_79) (mlo := lo_82) (mhi := hi_85) (mhb := hb_88) (mls := ls_91) (mre := re_94) (mhe := he_97) hc121 (by omega) (by omega) (by omega) (by omega) (by omega) (by omega) (by omega) (by omega) (by omega) (by omega) (by omega) (by omega) (by omega) (by omega) (by omega) (by omega) c98 (by omega)) (by decide) (by decide) (by decide) (Nat.le_of_ble_eq_true rfl) kNP (kIP (fun y129 y129f y129a y129b => ?_))
            exact dr_iret (ty := .int) rfl rfl rfl (by decide) (by decide) ⟨hI118, hE127, y129, trivial, by omega, by omega, rfl⟩
          · skip
            refine di_const rfl ?_
            exact dr_iret (ty := .int) rfl rfl rfl (by decide) (by decide) ⟨hI118, hE127, 0, trivial, by omega, by omega, rfl⟩
        · skip
          refine di_const rfl ?_
          refine dr_goto rfl rfl ?_
          refine di_const rfl ?_
          refine dr_virt rfl rfl rfl rfl hc108 (s_X8_refuse l hl hI105 (a1 := 1) (by omega) (by omega) (a2 := 2) (by omega) (by omega) (mth := th_107) (mni := ni_76) (mpb := pb_79) (mlo := lo_82) (mhi := hi_85) (mhb := hb_88) (mls := ls_91) (mre := re_94) (mhe := he_97) hc108 (by omega) (by omega) (by omega) (by omega) (by omega) (by omega) (by omega) (by omega) (by omega) (by omega) (by omega) (by omega) (by omega) (by omega) (by omega) (by omega) c98 (us := us109) hu110 ha111) (by decide) (by decide) (by decide) (Nat.le_of_ble_eq_true rfl) kQMN (kQMI (fun y139 h130 hI131 hE132 fs9 hc134 hM9 us135 hu136 ha137 hU138 y139f y139a y139b => ?_))
          obtain ⟨th_133, th_133a, th_133b, rfl⟩ := hM9
          have hU138 : us135 = us109 := hU138
          subst hU138
          have hE140 := Ext_tr hE114 hE132
          have y139g : 0 ≤ y139 ∧ y139 ≤ 1 ∧ (y139 = 0 → ((1) : Int) = 0) := y139f
          refine di_if_eq rfl rfl (by omega) (by omega) (fun c141 => ?_) (fun c141 => ?_)
          · skip
            refine di_aload_n rfl rfl ?_
            refine dr_iload_n rfl rfl ?_
            refine dr_virt rfl rfl rfl rfl hc134 (s_X8_partTold l hl hI131 (a1 := a1) (by omega) (by omega) (mth := th_133) (mni := ni_76) (mpb := pb_79) (mlo := lo_82) (mhi := hi_85) (mhb := hb_88) (mls := ls_91) (mre := re_94) (mhe := he_97) hc134 (by omega) (by omega) (by omega) (by omega) (by omega) (by omega) (by omega) (by omega) (by omega) (by omega) (by omega) (by omega) (by omega) (by omega) (by omega) (by omega) c98 (by omega)) (by decide) (by decide) (by decide) (Nat.le_of_ble_eq_true rfl) kNP (kIP (fun y142 y142f y142a y142b => ?_))
            exact dr_iret (ty := .int) rfl rfl rfl (by decide) (by decide) ⟨hI131, hE140, y142, trivial, by omega, by omega, rfl⟩
          · skip
            refine di_const rfl ?_
            exact dr_iret (ty := .int) rfl rfl rfl (by decide) (by decide) ⟨hI131, hE140, 0, trivial, by omega, by omega, rfl⟩
    · skip
      refine di_const rfl ?_
      refine dr_goto rfl rfl ?_
      refine di_const rfl ?_
      obtain ⟨th_143, ni_146, pb_149, lo_152, hi_155, hb_158, ls_161, re_164, he_167, c144, c145, c147, c148, c150, c151, c153, c154, c156, c157, c159, c160, c162, c163, c165, c166, c168, hc169⟩ := I_md hI
      have ho170 : he_167 = -1 ∨ (0 ≤ he_167 ∧ he_167 ≤ 9999 ∧ he_167 % 100 ≤ he_167 / 100) := c168
      obtain ⟨vs171, hc172, ha173⟩ := I_sz hI
      refine dr_virt rfl rfl rfl rfl hc169 (s_X8_start l hl hI (a1 := 1) (by omega) (by omega) (a2 := 1) (by omega) (by omega) (mth := th_143) (mni := ni_146) (mpb := pb_149) (mlo := lo_152) (mhi := hi_155) (mhb := hb_158) (mls := ls_161) (mre := re_164) (mhe := he_167) hc169 (by omega) (by omega) (by omega) (by omega) (by omega) (by omega) (by omega) (by omega) (by omega) (by omega) (by omega) (by omega) (by omega) (by omega) (by omega) (by omega) c168 (us := vs171) hc172 ha173) (by decide) (by decide) (by decide) (Nat.le_of_ble_eq_true rfl) kQMN (kQMI (fun y183 h174 hI175 hE176 fs9 hc178 hM9 us179 hu180 ha181 hU182 y183f y183a y183b => ?_))
      obtain ⟨th_177, th_177a, th_177b, rfl⟩ := hM9
      have hU182 : us179 = vs171 := hU182
      subst hU182
      have hE184 := hE176
      have y183g : 0 ≤ y183 ∧ y183 ≤ 1 ∧ (y183 = 0 → ((1) : Int) = 0) := y183f
      refine di_if_ne rfl rfl (by omega) (by omega) (fun c185 => ?_) (fun c185 => ?_)
      · skip
        refine di_const rfl ?_
        exact dr_iret (ty := .int) rfl rfl rfl (by decide) (by decide) ⟨hI175, hE184, 0, trivial, by omega, by omega, rfl⟩
      · skip
        refine di_aload_n rfl rfl ?_
        refine di_aload_n rfl rfl ?_
        refine dr_getf rfl hc178 rfl ?_
        refine di_const rfl ?_
        refine di_icmp_ne rfl rfl (by omega) (by omega) (by omega) (by omega) (fun c186 => ?_) (fun c186 => ?_)
        · skip
          refine di_const rfl ?_
          refine di_const rfl ?_
          refine dr_virt rfl rfl rfl rfl hc178 (s_X8_refuse l hl hI175 (a1 := 0) (by omega) (by omega) (a2 := 2) (by omega) (by omega) (mth := th_177) (mni := ni_146) (mpb := pb_149) (mlo := lo_152) (mhi := hi_155) (mhb := hb_158) (mls := ls_161) (mre := re_164) (mhe := he_167) hc178 (by omega) (by omega) (by omega) (by omega) (by omega) (by omega) (by omega) (by omega) (by omega) (by omega) (by omega) (by omega) (by omega) (by omega) (by omega) (by omega) c168 (us := us179) hu180 ha181) (by decide) (by decide) (by decide) (Nat.le_of_ble_eq_true rfl) kQMN (kQMI (fun y196 h187 hI188 hE189 fs9 hc191 hM9 us192 hu193 ha194 hU195 y196f y196a y196b => ?_))
          obtain ⟨th_190, th_190a, th_190b, rfl⟩ := hM9
          have hU195 : us192 = us179 := hU195
          subst hU195
          have hE197 := Ext_tr hE184 hE189
          have y196g : 0 ≤ y196 ∧ y196 ≤ 1 ∧ (y196 = 0 → ((0) : Int) = 0) := y196f
          refine di_if_eq rfl rfl (by omega) (by omega) (fun c198 => ?_) (fun c198 => ?_)
          · skip
            refine di_aload_n rfl rfl ?_
            refine dr_iload_n rfl rfl ?_
            refine dr_virt rfl rfl rfl rfl hc191 (s_X8_partTold l hl hI188 (a1 := a1) (by omega) (by omega) (mth := th_190) (mni := ni_146) (mpb := pb_149) (mlo := lo_152) (mhi := hi_155) (mhb := hb_158) (mls := ls_161) (mre := re_164) (mhe := he_167) hc191 (by omega) (by omega) (by omega) (by omega) (by omega) (by omega) (by omega) (by omega) (by omega) (by omega) (by omega) (by omega) (by omega) (by omega) (by omega) (by omega) c168 (by omega)) (by decide) (by decide) (by decide) (Nat.le_of_ble_eq_true rfl) kNP (kIP (fun y199 y199f y199a y199b => ?_))
            exact dr_iret (ty := .int) rfl rfl rfl (by decide) (by decide) ⟨hI188, hE197, y199, trivial, by omega, by omega, rfl⟩
          · skip
            refine di_const rfl ?_
            exact dr_iret (ty := .int) rfl rfl rfl (by decide) (by decide) ⟨hI188, hE197, 0, trivial, by omega, by omega, rfl⟩
        · skip
          refine di_const rfl ?_
          refine dr_goto rfl rfl ?_
          refine di_const rfl ?_
          refine dr_virt rfl rfl rfl rfl hc178 (s_X8_refuse l hl hI175 (a1 := 1) (by omega) (by omega) (a2 := 2) (by omega) (by omega) (mth := th_177) (mni := ni_146) (mpb := pb_149) (mlo := lo_152) (mhi := hi_155) (mhb := hb_158) (mls := ls_161) (mre := re_164) (mhe := he_167) hc178 (by omega) (by omega) (by omega) (by omega) (by omega) (by omega) (by omega) (by omega) (by omega) (by omega) (by omega) (by omega) (by omega) (by omega) (by omega) (by omega) c168 (us := us179) hu180 ha181) (by decide) (by decide) (by decide) (Nat.le_of_ble_eq_true rfl) kQMN (kQMI (fun y209 h200 hI201 hE202 fs9 hc204 hM9 us205 hu206 ha207 hU208 y209f y209a y209b => ?_))
          obtain ⟨th_203, th_203a, th_203b, rfl⟩ := hM9
          have hU208 : us205 = us179 := hU208
          subst hU208
          have hE210 := Ext_tr hE184 hE202
          have y209g : 0 ≤ y209 ∧ y209 ≤ 1 ∧ (y209 = 0 → ((1) : Int) = 0) := y209f
          refine di_if_eq rfl rfl (by omega) (by omega) (fun c211 => ?_) (fun c211 => ?_)
          · skip
            refine di_aload_n rfl rfl ?_
            refine dr_iload_n rfl rfl ?_
            refine dr_virt rfl rfl rfl rfl hc204 (s_X8_partTold l hl hI201 (a1 := a1) (by omega) (by omega) (mth := th_203) (mni := ni_146) (mpb := pb_149) (mlo := lo_152) (mhi := hi_155) (mhb := hb_158) (mls := ls_161) (mre := re_164) (mhe := he_167) hc204 (by omega) (by omega) (by omega) (by omega) (by omega) (by omega) (by omega) (by omega) (by omega) (by omega) (by omega) (by omega) (by omega) (by omega) (by omega) (by omega) c168 (by omega)) (by decide) (by decide) (by decide) (Nat.le_of_ble_eq_true rfl) kNP (kIP (fun y212 y212f y212a y212b => ?_))
            exact dr_iret (ty := .int) rfl rfl rfl (by decide) (by decide) ⟨hI201, hE210, y212, trivial, by omega, by omega, rfl⟩
          · skip
            refine di_const rfl ?_
            exact dr_iret (ty := .int) rfl rfl rfl (by decide) (by decide) ⟨hI201, hE210, 0, trivial, by omega, by omega, rfl⟩
