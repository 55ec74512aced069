set_option maxHeartbeats 4000000 in
set_option maxRecDepth 100000 in
/-- EarlyendsModel.isInPart -/
theorem s_X8_isInPart (l : Launch) (hl : l.stackTraces = false) {kc km : Int} {h : dm_H} (hI : Inv kc km h) {a1 : Int} (h1a : -2147483648 ≤ a1) (h1b : a1 ≤ 2147483647) : dm_M l 156 0 0 0 [.ref 26, dI (a1)] h (QP h (RI (fun x => 0 ≤ x ∧ x ≤ 1)) []) := by
  refine dm_M_of dk_156 hl rfl (Nat.le_of_ble_eq_true rfl) ?_
  show dm_W (fun _ _ _ => True) (dm_P (QP h (RI (fun x => 0 ≤ x ∧ x ≤ 1)) []) 0 0) l 156 0 0 0 0 [some (.ref 26), some (dI (a1))] [] h 0 0
  refine di_aload_n rfl rfl ?_
  obtain ⟨th_1, ni_4, pb_7, lo_10, hi_13, hb_16, ls_19, re_22, he_25, c2, c3, c5, c6, c8, c9, c11, c12, c14, c15, c17, c18, c20, c21, c23, c24, c26, hc27⟩ := I_md hI
  have ho28 : he_25 = -1 ∨ (0 ≤ he_25 ∧ he_25 ≤ 9999 ∧ he_25 % 100 ≤ he_25 / 100) := c26
  refine dr_getf rfl hc27 rfl ?_
  refine di_const rfl ?_
  refine di_icmp_eq rfl rfl (by omega) (by omega) (by omega) (by omega) (fun c29 => ?_) (fun c29 => ?_)
  · skip
    refine di_aload_n rfl rfl ?_
    refine dr_getf rfl hc27 rfl ?_
    refine di_const rfl ?_
    refine di_icmp_eq rfl rfl (by omega) (by omega) (by omega) (by omega) (fun c30 => ?_) (fun c30 => ?_)
    · skip
      refine di_const rfl ?_
      refine dr_goto rfl rfl ?_
      exact dr_iret (ty := .boolean) rfl rfl (nar_z (by omega) (by omega)) (by decide) (by decide) ⟨rfl, 1, (show 0 ≤ (1) ∧ (1) ≤ 1 by omega), by omega, by omega, rfl⟩
    · skip
      refine dr_iload_n rfl rfl ?_
      refine di_bipush rfl (by decide) ?_
      refine du_idiv rfl (by omega) (by omega) (fun u31 u31a u31b => ?_)
      refine di_aload_n rfl rfl ?_
      refine dr_getf rfl hc27 rfl ?_
      refine di_icmp_gt rfl rfl (by omega) (by omega) (by omega) (by omega) (fun c32 => ?_) (fun c32 => ?_)
      · skip
        refine di_const rfl ?_
        exact dr_iret (ty := .boolean) rfl rfl (nar_z (by omega) (by omega)) (by decide) (by decide) ⟨rfl, 0, (show 0 ≤ (0) ∧ (0) ≤ 1 by omega), by omega, by omega, rfl⟩
      · skip
        refine di_const rfl ?_
        refine dr_goto rfl rfl ?_
        exact dr_iret (ty := .boolean) rfl rfl (nar_z (by omega) (by omega)) (by decide) (by decide) ⟨rfl, 1, (show 0 ≤ (1) ∧ (1) ≤ 1 by omega), by omega, by omega, rfl⟩
  · skip
    refine dr_iload_n rfl rfl ?_
    refine di_bipush rfl (by decide) ?_
    refine du_idiv rfl (by omega) (by omega) (fun u33 u33a u33b => ?_)
    refine di_aload_n rfl rfl ?_
    refine dr_getf rfl hc27 rfl ?_
    refine di_icmp_lt rfl rfl (by omega) (by omega) (by omega) (by omega) (fun c34 => ?_) (fun c34 => ?_)
    · skip
      refine di_const rfl ?_
      exact dr_iret (ty := .boolean) rfl rfl (nar_z (by omega) (by omega)) (by decide) (by decide) ⟨rfl, 0, (show 0 ≤ (0) ∧ (0) ≤ 1 by omega), by omega, by omega, rfl⟩
    · skip
      refine di_aload_n rfl rfl ?_
      refine dr_getf rfl hc27 rfl ?_
      refine di_const rfl ?_
      refine di_icmp_eq rfl rfl (by omega) (by omega) (by omega) (by omega) (fun c35 => ?_) (fun c35 => ?_)
      · skip
        refine di_const rfl ?_
        refine dr_goto rfl rfl ?_
        exact dr_iret (ty := .boolean) rfl rfl (nar_z (by omega) (by omega)) (by decide) (by decide) ⟨rfl, 1, (show 0 ≤ (1) ∧ (1) ≤ 1 by omega), by omega, by omega, rfl⟩
      · skip
        refine dr_iload_n rfl rfl ?_
        refine di_bipush rfl (by decide) ?_
        refine du_idiv rfl (by omega) (by omega) (fun u36 u36a u36b => ?_)
        refine di_aload_n rfl rfl ?_
        refine dr_getf rfl hc27 rfl ?_
        refine di_icmp_gt rfl rfl (by omega) (by omega) (by omega) (by omega) (fun c37 => ?_) (fun c37 => ?_)
        · skip
          refine di_const rfl ?_
          exact dr_iret (ty := .boolean) rfl rfl (nar_z (by omega) (by omega)) (by decide) (by decide) ⟨rfl, 0, (show 0 ≤ (0) ∧ (0) ≤ 1 by omega), by omega, by omega, rfl⟩
        · skip
          refine di_const rfl ?_
          refine dr_goto rfl rfl ?_
          exact dr_iret (ty := .boolean) rfl rfl (nar_z (by omega) (by omega)) (by decide) (by decide) ⟨rfl, 1, (show 0 ≤ (1) ∧ (1) ≤ 1 by omega), by omega, by omega, rfl⟩
set_option maxHeartbeats 4000000 in
set_option maxRecDepth 100000 in
/-- EarlyendsModel.partSize -/
theorem s_X8_partSize (l : Launch) (hl : l.stackTraces = false) {kc km : Int} {h : dm_H} (hI : Inv kc km h) {mth mni mpb mlo mhi mhb mls mre mhe : Int} (hmd : h[26]? = some (10, [.ref 27, .ref 31, .ref 35, dI (mth), dI (mni), dI (km), dI (mpb), dI (mlo), dI (mhi), dI (mhb), dI (mls), dI (mre), dI (mhe)])) (hmtha : 0 ≤ mth) (hmthb : mth ≤ 2) (hmnia : -2147483648 ≤ mni) (hmnib : mni ≤ 2147483647) (hmpba : -1 ≤ mpb) (hmpbb : mpb ≤ 2) (hmloa : -1 ≤ mlo) (hmlob : mlo ≤ 99) (hmhia : -1 ≤ mhi) (hmhib : mhi ≤ 99) (hmhba : -1 ≤ mhb) (hmhbb : mhb ≤ 2) (hmlsa : 0 ≤ mls) (hmlsb : mls ≤ 1) (hmrea : -2147483648 ≤ mre) (hmreb : mre ≤ 2147483647) (hmok : mhe = -1 ∨ okC mhe) (hp0 : 0 ≤ mpb) : dm_M l 157 1 0 0 [.ref 26] h (QP h (RI (fun x => 0 ≤ x ∧ x ≤ 8)) []) := by
  refine dm_M_of dk_157 hl rfl (Nat.le_of_ble_eq_true rfl) ?_
  show dm_W (fun _ _ _ => True) (dm_P (QP h (RI (fun x => 0 ≤ x ∧ x ≤ 8)) []) 0 0) l 157 1 0 0 0 [some (.ref 26), none, none] [] h 0 0
  have hmo9 : mhe = -1 ∨ (0 ≤ mhe ∧ mhe ≤ 9999 ∧ mhe % 100 ≤ mhe / 100) := hmok
  refine di_const rfl ?_
  refine di_istore_n (ls2 := [some (.ref 26), some (dI (0)), none]) rfl rfl rfl ?_
  refine di_const rfl ?_
  refine di_istore_n (ls2 := [some (.ref 26), some (dI (0)), some (dI (0))]) rfl rfl rfl ?_
  have L3 : ∀ (n : Nat) (i1 : Int) (i2 : Int), (8 - i2).toNat < n → 0 ≤ i1 → i1 ≤ 8 → 0 ≤ i2 → i2 ≤ 8 → i1 ≤ i2 → dm_W (fun _ _ _ => True) (dm_P (QP h (RI (fun x => 0 ≤ x ∧ x ≤ 8)) []) 0 0) l 157 1 0 0 4 [some (.ref 26), some (dI (i1)), some (dI (i2))] [] h 0 0 := by
    intro n
    induction n with
    | zero => intro i1 i2 hm; exact absurd hm (Nat.not_lt_zero _)
    | succ n ih =>
      intro i1 i2 hm9 hb4 hb5 hb6 hb7 hx8
      have ihL3 := ih
      clear ih
      refine dr_iload_n rfl rfl ?_
      refine di_aload_n rfl rfl ?_
      refine dr_getf rfl hmd rfl ?_
      refine di_aload_n rfl rfl ?_
      refine dr_getf rfl hmd rfl ?_
      obtain ⟨vs10, hc11, ha12⟩ := I_sz hI
      refine di_iald rfl hc11 ha12 (by omega) (by omega) (fun x13 x13f x13a x13b x13v => ?_)
      have x13g : 0 ≤ x13 ∧ x13 ≤ 8 := x13f
      have x13w : cv vs10 (mpb) = x13 := cv_eq x13v x13a x13b
      refine di_icmp_ge rfl rfl (by omega) (by omega) (by omega) (by omega) (fun c14 => ?_) (fun c14 => ?_)
      · skip
        refine dr_iload_n rfl rfl ?_
        exact dr_iret (ty := .int) rfl rfl rfl (by decide) (by decide) ⟨rfl, i1, (show 0 ≤ (i1) ∧ (i1) ≤ 8 by omega), by omega, by omega, rfl⟩
      · skip
        refine di_aload_n rfl rfl ?_
        refine di_aload_n rfl rfl ?_
        refine dr_getf rfl hmd rfl ?_
        refine di_aload_n rfl rfl ?_
        refine dr_getf rfl hmd rfl ?_
        have hc15 := I_mcs hI
        refine paaD (k0 := 28) rfl hc15 (by omega) (by omega) (fun r17 hr17 => ?_)
        have mr17 : isCR r17 := isCR_of hr17 (by omega) (by omega)
        refine dr_iload_n rfl rfl ?_
        obtain ⟨vs18, hc19, ha20⟩ := I_cr hI (p := r17) mr17
        refine di_iald rfl hc19 ha20 (by omega) (by omega) (fun x21 x21f x21a x21b x21v => ?_)
        have x21w : cv vs18 (i2) = x21 := cv_eq x21v x21a x21b
        have x21g : 0 ≤ x21 ∧ x21 ≤ 9999 ∧ x21 % 100 ≤ x21 / 100 := x21f
        refine dr_virt rfl rfl rfl rfl hmd (s_X8_isInPart l hl hI (a1 := x21) (by omega) (by omega)) (by decide) (by decide) (by decide) (Nat.le_of_ble_eq_true rfl) kNP (kIP (fun y22 y22f y22a y22b => ?_))
        have y22g : 0 ≤ y22 ∧ y22 ≤ 1 := y22f
        refine di_if_eq rfl rfl (by omega) (by omega) (fun c23 => ?_) (fun c23 => ?_)
        · skip
          refine di_iinc (ls2 := [some (.ref 26), some (dI (i1)), some (dI ((i2 + 1)))]) rfl rfl rfl rfl ?_
          refine dr_goto rfl rfl ?_
          exact ihL3 (i1) ((i2 + 1)) (by omega) (by omega) (by omega) (by omega) (by omega) (by omega) 
        · skip
          refine di_iinc (ls2 := [some (.ref 26), some (dI ((i1 + 1))), some (dI (i2))]) rfl rfl rfl rfl ?_
          refine di_iinc (ls2 := [some (.ref 26), some (dI ((i1 + 1))), some (dI ((i2 + 1)))]) rfl rfl rfl rfl ?_
          refine dr_goto rfl rfl ?_
          exact ihL3 ((i1 + 1)) ((i2 + 1)) (by omega) (by omega) (by omega) (by omega) (by omega) (by omega) 
  exact L3 _ (0) (0) (Nat.lt_succ_self _) (by omega) (by omega) (by omega) (by omega) (by omega) 
set_option maxHeartbeats 4000000 in
set_option maxRecDepth 100000 in
/-- EarlyendsModel.partEnd -/
theorem s_X8_partEnd (l : Launch) (hl : l.stackTraces = false) {kc km : Int} {h : dm_H} (hI : Inv kc km h) {a1 : Int} (h1a : 0 ≤ a1) (h1b : a1 ≤ 1) {mth mni mpb mlo mhi mhb mls mre mhe : Int} (hmd : h[26]? = some (10, [.ref 27, .ref 31, .ref 35, dI (mth), dI (mni), dI (km), dI (mpb), dI (mlo), dI (mhi), dI (mhb), dI (mls), dI (mre), dI (mhe)])) (hmtha : 0 ≤ mth) (hmthb : mth ≤ 2) (hmnia : -2147483648 ≤ mni) (hmnib : mni ≤ 2147483647) (hmpba : -1 ≤ mpb) (hmpbb : mpb ≤ 2) (hmloa : -1 ≤ mlo) (hmlob : mlo ≤ 99) (hmhia : -1 ≤ mhi) (hmhib : mhi ≤ 99) (hmhba : -1 ≤ mhb) (hmhbb : mhb ≤ 2) (hmlsa : 0 ≤ mls) (hmlsb : mls ≤ 1) (hmrea : -2147483648 ≤ mre) (hmreb : mre ≤ 2147483647) (hmok : mhe = -1 ∨ okC mhe) (hp0 : 0 ≤ mpb) : dm_M l 158 1 0 0 [.ref 26, dI (a1)] h (QP h (RI (fun x => -1 ≤ x ∧ x ≤ 9999 ∧ (x = -1 ∨ (0 ≤ x ∧ x % 100 ≤ x / 100)))) []) := by
  refine dm_M_of dk_158 hl rfl (Nat.le_of_ble_eq_true rfl) ?_
  show dm_W (fun _ _ _ => True) (dm_P (QP h (RI (fun x => -1 ≤ x ∧ x ≤ 9999 ∧ (x = -1 ∨ (0 ≤ x ∧ x % 100 ≤ x / 100)))) []) 0 0) l 158 1 0 0 0 [some (.ref 26), some (dI (a1)), none, none, none] [] h 0 0
  have hmo9 : mhe = -1 ∨ (0 ≤ mhe ∧ mhe ≤ 9999 ∧ mhe % 100 ≤ mhe / 100) := hmok
  refine di_const rfl ?_
  refine di_istore_n (ls2 := [some (.ref 26), some (dI (a1)), some (dI ((-1))), none, none]) rfl rfl rfl ?_
  refine di_const rfl ?_
  refine di_istore_n (ls2 := [some (.ref 26), some (dI (a1)), some (dI ((-1))), some (dI (0)), none]) rfl rfl rfl ?_
  have L3 : ∀ (n : Nat) (i1 : Int) (i2 : Int), (8 - i2).toNat < n → -1 ≤ i1 → i1 ≤ 9999 → 0 ≤ i2 → i2 ≤ 8 → (i1 = -1 ∨ (0 ≤ i1 ∧ i1 % 100 ≤ i1 / 100)) → dm_W (fun _ _ _ => True) (dm_P (QP h (RI (fun x => -1 ≤ x ∧ x ≤ 9999 ∧ (x = -1 ∨ (0 ≤ x ∧ x % 100 ≤ x / 100)))) []) 0 0) l 158 1 0 0 4 [some (.ref 26), some (dI (a1)), some (dI (i1)), some (dI (i2)), none] [] h 0 0 := by
    intro n
    induction n with
    | zero => intro i1 i2 hm; exact absurd hm (Nat.not_lt_zero _)
    | succ n ih =>
      intro i1 i2 hm9 hb4 hb5 hb6 hb7 hx8
      have ihL3 := ih
      clear ih
      refine dr_iload_n rfl rfl ?_
      refine di_aload_n rfl rfl ?_
      refine dr_getf rfl hmd rfl ?_
      refine di_aload_n rfl rfl ?_
      refine dr_getf rfl hmd rfl ?_
      obtain ⟨vs10, hc11, ha12⟩ := I_sz hI
      refine di_iald rfl hc11 ha12 (by omega) (by omega) (fun x13 x13f x13a x13b x13v => ?_)
      have x13g : 0 ≤ x13 ∧ x13 ≤ 8 := x13f
      have x13w : cv vs10 (mpb) = x13 := cv_eq x13v x13a x13b
      refine di_icmp_ge rfl rfl (by omega) (by omega) (by omega) (by omega) (fun c14 => ?_) (fun c14 => ?_)
      · skip
        refine dr_iload_n rfl rfl ?_
        exact dr_iret (ty := .int) rfl rfl rfl (by decide) (by decide) ⟨rfl, i1, (show -1 ≤ (i1) ∧ (i1) ≤ 9999 ∧ ((i1) = -1 ∨ (0 ≤ (i1) ∧ (i1) % 100 ≤ (i1) / 100)) by omega), by omega, by omega, rfl⟩
      · skip
        refine di_aload_n rfl rfl ?_
        refine dr_getf rfl hmd rfl ?_
        refine di_aload_n rfl rfl ?_
        refine dr_getf rfl hmd rfl ?_
        have hc15 := I_mcs hI
        refine paaD (k0 := 28) rfl hc15 (by omega) (by omega) (fun r17 hr17 => ?_)
        have mr17 : isCR r17 := isCR_of hr17 (by omega) (by omega)
        refine dr_iload_n rfl rfl ?_
        obtain ⟨vs18, hc19, ha20⟩ := I_cr hI (p := r17) mr17
        refine di_iald rfl hc19 ha20 (by omega) (by omega) (fun x21 x21f x21a x21b x21v => ?_)
        have x21w : cv vs18 (i2) = x21 := cv_eq x21v x21a x21b
        have x21g : 0 ≤ x21 ∧ x21 ≤ 9999 ∧ x21 % 100 ≤ x21 / 100 := x21f
        refine di_istore (ls2 := [some (.ref 26), some (dI (a1)), some (dI (i1)), some (dI (i2)), some (dI (x21))]) rfl rfl rfl ?_
        refine di_aload_n rfl rfl ?_
        refine dr_iload rfl rfl ?_
        refine dr_virt rfl rfl rfl rfl hmd (s_X8_isInPart l hl hI (a1 := x21) (by omega) (by omega)) (by decide) (by decide) (by decide) (Nat.le_of_ble_eq_true rfl) kNP (kIP (fun y22 y22f y22a y22b => ?_))
        have y22g : 0 ≤ y22 ∧ y22 ≤ 1 := y22f
        refine di_if_eq rfl rfl (by omega) (by omega) (fun c23 => ?_) (fun c23 => ?_)
        · skip
          refine di_iinc (ls2 := [some (.ref 26), some (dI (a1)), some (dI (i1)), some (dI ((i2 + 1))), some (dI (x21))]) rfl rfl rfl rfl ?_
          refine dr_goto rfl rfl ?_
          refine dm_wk (ls2 := [some (.ref 26), some (dI (a1)), some (dI (i1)), some (dI ((i2 + 1))), none]) ⟨Or.inr rfl, Or.inr rfl, Or.inr rfl, Or.inr rfl, Or.inl rfl, trivial⟩ ?_
          exact ihL3 (i1) ((i2 + 1)) (by omega) (by omega) (by omega) (by omega) (by omega) (by omega) 
        · skip
          refine dr_iload_n rfl rfl ?_
          refine di_const rfl ?_
          refine di_icmp_eq rfl rfl (by omega) (by omega) (by omega) (by omega) (fun c24 => ?_) (fun c24 => ?_)
          · skip
            refine dr_iload rfl rfl ?_
            refine di_istore_n (ls2 := [some (.ref 26), some (dI (a1)), some (dI (x21)), some (dI (i2)), some (dI (x21))]) rfl rfl rfl ?_
            refine di_iinc (ls2 := [some (.ref 26), some (dI (a1)), some (dI (x21)), some (dI ((i2 + 1))), some (dI (x21))]) rfl rfl rfl rfl ?_
            refine dr_goto rfl rfl ?_
            refine dm_wk (ls2 := [some (.ref 26), some (dI (a1)), some (dI (x21)), some (dI ((i2 + 1))), none]) ⟨Or.inr rfl, Or.inr rfl, Or.inr rfl, Or.inr rfl, Or.inl rfl, trivial⟩ ?_
            exact ihL3 (x21) ((i2 + 1)) (by omega) (by omega) (by omega) (by omega) (by omega) (by omega) 
          · skip
            refine dr_iload_n rfl rfl ?_
            refine di_if_eq rfl rfl (by omega) (by omega) (fun c25 => ?_) (fun c25 => ?_)
            · skip
              refine dr_iload rfl rfl ?_
              refine dr_iload_n rfl rfl ?_
              refine di_icmp_ge rfl rfl (by omega) (by omega) (by omega) (by omega) (fun c26 => ?_) (fun c26 => ?_)
              · skip
                refine di_iinc (ls2 := [some (.ref 26), some (dI (a1)), some (dI (i1)), some (dI ((i2 + 1))), some (dI (x21))]) rfl rfl rfl rfl ?_
                refine dr_goto rfl rfl ?_
                refine dm_wk (ls2 := [some (.ref 26), some (dI (a1)), some (dI (i1)), some (dI ((i2 + 1))), none]) ⟨Or.inr rfl, Or.inr rfl, Or.inr rfl, Or.inr rfl, Or.inl rfl, trivial⟩ ?_
                exact ihL3 (i1) ((i2 + 1)) (by omega) (by omega) (by omega) (by omega) (by omega) (by omega) 
              · skip
                refine dr_iload rfl rfl ?_
                refine di_istore_n (ls2 := [some (.ref 26), some (dI (a1)), some (dI (x21)), some (dI (i2)), some (dI (x21))]) rfl rfl rfl ?_
                refine di_iinc (ls2 := [some (.ref 26), some (dI (a1)), some (dI (x21)), some (dI ((i2 + 1))), some (dI (x21))]) rfl rfl rfl rfl ?_
                refine dr_goto rfl rfl ?_
                refine dm_wk (ls2 := [some (.ref 26), some (dI (a1)), some (dI (x21)), some (dI ((i2 + 1))), none]) ⟨Or.inr rfl, Or.inr rfl, Or.inr rfl, Or.inr rfl, Or.inl rfl, trivial⟩ ?_
                exact ihL3 (x21) ((i2 + 1)) (by omega) (by omega) (by omega) (by omega) (by omega) (by omega) 
            · skip
              refine dr_iload rfl rfl ?_
              refine dr_iload_n rfl rfl ?_
              refine di_icmp_le rfl rfl (by omega) (by omega) (by omega) (by omega) (fun c27 => ?_) (fun c27 => ?_)
              · skip
                refine di_iinc (ls2 := [some (.ref 26), some (dI (a1)), some (dI (i1)), some (dI ((i2 + 1))), some (dI (x21))]) rfl rfl rfl rfl ?_
                refine dr_goto rfl rfl ?_
                refine dm_wk (ls2 := [some (.ref 26), some (dI (a1)), some (dI (i1)), some (dI ((i2 + 1))), none]) ⟨Or.inr rfl, Or.inr rfl, Or.inr rfl, Or.inr rfl, Or.inl rfl, trivial⟩ ?_
                exact ihL3 (i1) ((i2 + 1)) (by omega) (by omega) (by omega) (by omega) (by omega) (by omega) 
              · skip
                refine dr_goto rfl rfl ?_
                refine dr_iload rfl rfl ?_
                refine di_istore_n (ls2 := [some (.ref 26), some (dI (a1)), some (dI (x21)), some (dI (i2)), some (dI (x21))]) rfl rfl rfl ?_
                refine di_iinc (ls2 := [some (.ref 26), some (dI (a1)), some (dI (x21)), some (dI ((i2 + 1))), some (dI (x21))]) rfl rfl rfl rfl ?_
                refine dr_goto rfl rfl ?_
                refine dm_wk (ls2 := [some (.ref 26), some (dI (a1)), some (dI (x21)), some (dI ((i2 + 1))), none]) ⟨Or.inr rfl, Or.inr rfl, Or.inr rfl, Or.inr rfl, Or.inl rfl, trivial⟩ ?_
                exact ihL3 (x21) ((i2 + 1)) (by omega) (by omega) (by omega) (by omega) (by omega) (by omega) 
  exact L3 _ ((-1)) (0) (Nat.lt_succ_self _) (by omega) (by omega) (by omega) (by omega) (by omega) 
set_option maxHeartbeats 4000000 in
set_option maxRecDepth 100000 in
/-- EarlyendsModel.partTold -/
theorem s_X8_partTold (l : Launch) (hl : l.stackTraces = false) {kc km : Int} {h : dm_H} (hI : Inv kc km h) {a1 : Int} (h1a : -2147483648 ≤ a1) (h1b : a1 ≤ 2147483647) {mth mni mpb mlo mhi mhb mls mre mhe : Int} (hmd : h[26]? = some (10, [.ref 27, .ref 31, .ref 35, dI (mth), dI (mni), dI (km), dI (mpb), dI (mlo), dI (mhi), dI (mhb), dI (mls), dI (mre), dI (mhe)])) (hmtha : 0 ≤ mth) (hmthb : mth ≤ 2) (hmnia : -2147483648 ≤ mni) (hmnib : mni ≤ 2147483647) (hmpba : -1 ≤ mpb) (hmpbb : mpb ≤ 2) (hmloa : -1 ≤ mlo) (hmlob : mlo ≤ 99) (hmhia : -1 ≤ mhi) (hmhib : mhi ≤ 99) (hmhba : -1 ≤ mhb) (hmhbb : mhb ≤ 2) (hmlsa : 0 ≤ mls) (hmlsb : mls ≤ 1) (hmrea : -2147483648 ≤ mre) (hmreb : mre ≤ 2147483647) (hmok : mhe = -1 ∨ okC mhe) (hp0 : 0 ≤ mpb) : dm_M l 165 2 0 0 [.ref 26, dI (a1)] h (QP h (RI (fun x => True)) []) := by
  refine dm_M_of dk_165 hl rfl (Nat.le_of_ble_eq_true rfl) ?_
  show dm_W (fun _ _ _ => True) (dm_P (QP h (RI (fun x => True)) []) 0 0) l 165 2 0 0 0 [some (.ref 26), some (dI (a1))] [] h 0 0
  have hmo9 : mhe = -1 ∨ (0 ≤ mhe ∧ mhe ≤ 9999 ∧ mhe % 100 ≤ mhe / 100) := hmok
  refine dr_iload_n rfl rfl ?_
  rcases (by omega : (a1 < 0 ∨ 3 < a1) ∨ a1 = 0 ∨ a1 = 1 ∨ a1 = 2 ∨ a1 = 3) with c1 | c1 | c1 | c1 | c1
  · skip
    refine di_tabOut rfl (by omega) (by omega) c1 rfl ?_
    refine di_aload_n rfl rfl ?_
    refine dr_iload_n rfl rfl ?_
    refine di_const rfl ?_
    refine di_icmp_ne rfl rfl (by omega) (by omega) (by omega) (by omega) (fun c2 => ?_) (fun c2 => ?_)
    · skip
      refine di_const rfl ?_
      refine dr_virt rfl rfl rfl rfl hmd (s_X8_partEnd l hl hI (a1 := 0) (by omega) (by omega) (mth := mth) (mni := mni) (mpb := mpb) (mlo := mlo) (mhi := mhi) (mhb := mhb) (mls := mls) (mre := mre) (mhe := mhe) hmd (by omega) (by omega) (by omega) (by omega) (by omega) (by omega) (by omega) (by omega) (by omega) (by omega) (by omega) (by omega) (by omega) (by omega) (by omega) (by omega) hmok (by omega)) (by decide) (by decide) (by decide) (Nat.le_of_ble_eq_true rfl) kNP (kIP (fun y3 y3f y3a y3b => ?_))
      have y3g : -1 ≤ y3 ∧ y3 ≤ 9999 ∧ (y3 = -1 ∨ (0 ≤ y3 ∧ y3 % 100 ≤ y3 / 100)) := y3f
      exact dr_iret (ty := .int) rfl rfl rfl (by decide) (by decide) ⟨rfl, y3, trivial, by omega, by omega, rfl⟩
    · skip
      refine di_const rfl ?_
      refine dr_goto rfl rfl ?_
      refine dr_virt rfl rfl rfl rfl hmd (s_X8_partEnd l hl hI (a1 := 1) (by omega) (by omega) (mth := mth) (mni := mni) (mpb := mpb) (mlo := mlo) (mhi := mhi) (mhb := mhb) (mls := mls) (mre := mre) (mhe := mhe) hmd (by omega) (by omega) (by omega) (by omega) (by omega) (by omega) (by omega) (by omega) (by omega) (by omega) (by omega) (by omega) (by omega) (by omega) (by omega) (by omega) hmok (by omega)) (by decide) (by decide) (by decide) (Nat.le_of_ble_eq_true rfl) kNP (kIP (fun y4 y4f y4a y4b => ?_))
      have y4g : -1 ≤ y4 ∧ y4 ≤ 9999 ∧ (y4 = -1 ∨ (0 ≤ y4 ∧ y4 % 100 ≤ y4 / 100)) := y4f
      exact dr_iret (ty := .int) rfl rfl rfl (by decide) (by decide) ⟨rfl, y4, trivial, by omega, by omega, rfl⟩
  · skip
    refine di_tabIn 0 rfl (by omega) (by omega) (by omega) (by omega) rfl rfl ?_
    refine di_aload_n rfl rfl ?_
    refine dr_getf rfl hmd rfl ?_
    exact dr_iret (ty := .int) rfl rfl rfl (by decide) (by decide) ⟨rfl, mpb, trivial, by omega, by omega, rfl⟩
  · skip
    refine di_tabIn 1 rfl (by omega) (by omega) (by omega) (by omega) rfl rfl ?_
    refine di_aload_n rfl rfl ?_
    refine dr_getf rfl hmd rfl ?_
    exact dr_iret (ty := .int) rfl rfl rfl (by decide) (by decide) ⟨rfl, mlo, trivial, by omega, by omega, rfl⟩
  · skip
    refine di_tabIn 2 rfl (by omega) (by omega) (by omega) (by omega) rfl rfl ?_
    refine di_aload_n rfl rfl ?_
    refine dr_getf rfl hmd rfl ?_
    exact dr_iret (ty := .int) rfl rfl rfl (by decide) (by decide) ⟨rfl, mhi, trivial, by omega, by omega, rfl⟩
  · skip
    refine di_tabIn 3 rfl (by omega) (by omega) (by omega) (by omega) rfl rfl ?_
    refine di_aload_n rfl rfl ?_
    refine dr_virt rfl rfl rfl rfl hmd (s_X8_partSize l hl hI (mth := mth) (mni := mni) (mpb := mpb) (mlo := mlo) (mhi := mhi) (mhb := mhb) (mls := mls) (mre := mre) (mhe := mhe) hmd (by omega) (by omega) (by omega) (by omega) (by omega) (by omega) (by omega) (by omega) (by omega) (by omega) (by omega) (by omega) (by omega) (by omega) (by omega) (by omega) hmok (by omega)) (by decide) (by decide) (by decide) (Nat.le_of_ble_eq_true rfl) kNP (kIP (fun y5 y5f y5a y5b => ?_))
    have y5g : 0 ≤ y5 ∧ y5 ≤ 8 := y5f
    exact dr_iret (ty := .int) rfl rfl rfl (by decide) (by decide) ⟨rfl, y5, trivial, by omega, by omega, rfl⟩
