set_option maxHeartbeats 4000000 in
set_option maxRecDepth 100000 in
/-- java/lang/AbstractStringBuilder.ensureCapacityInternal -/
theorem s_J5_ensureCapacityInternal_d00df (l : Launch) (hl : l.stackTraces = false) {h0 h : dm_H} (hA : App h0 h) {q b : Nat} {n : Int} {vs : List Value} (hq : h0.length ≤ q) (hb : h0.length ≤ b) (hqb : b ≠ q) (hc : h[q]? = some (1, [.ref b, dI 0, dI 0, dI (n)])) (hv : h[b]? = some (21, vs)) (hn0 : 0 ≤ n) (hnl : n ≤ vs.length) (hnc : (vs.length : Int) ≤ 400) {a1 : Int} (h1a : 1 ≤ a1) (h1b : a1 ≤ 190) : dm_M l 227 3 1 400 [.ref q, dI (a1)] h (QT h0 h q (n) (a1) (fun v => v = none)) := by
  refine dm_M_of dk_227 hl rfl (Nat.le_of_ble_eq_true rfl) ?_
  show dm_W (fun _ _ _ => True) (dm_P (QT h0 h q (n) (a1) (fun v => v = none)) 1 400) l 227 3 1 400 0 [some (.ref q), some (dI (a1)), none] [] h 0 0
  refine di_aload_n rfl rfl ?_
  refine dr_getf rfl hc rfl ?_
  refine di_alen (n := List.length vs) rfl hv (Or.inr (Or.inl rfl)) rfl ?_
  refine di_aload_n rfl rfl ?_
  refine dr_getf rfl hc rfl ?_
  refine dn_shr0 rfl ?_
  refine di_istore_n (ls2 := [some (.ref q), some (dI (a1)), some (dI ((List.length vs : Int)))]) rfl rfl rfl ?_
  refine dr_iload_n rfl rfl ?_
  refine dr_iload_n rfl rfl ?_
  refine di_isub rfl ?_
  refine di_if_le rfl rfl (by omega) (by omega) (fun c1 => ?_) (fun c1 => ?_)
  · skip
    have lt2 := App_lt hc
    have lt3 := App_lt hv
    have le4 := hA.1
    exact dr_vret rfl rfl (by omega) (by omega) ⟨hA, by omega, ⟨_, vs, by omega, by omega, hc, hv, by omega, by omega, by omega⟩, rfl⟩
  · skip
    refine di_aload_n rfl rfl ?_
    refine di_aload_n rfl rfl ?_
    refine dr_getf rfl hc rfl ?_
    refine di_aload_n rfl rfl ?_
    refine dr_iload_n rfl rfl ?_
    have lt5 := App_lt hc
    have lt6 := App_lt hv
    have le7 := hA.1
    refine dr_up rfl (by decide +kernel) (by decide +kernel) rfl rfl rfl hc (s_J5_newCapacity_0f7a4 l hl hA (q := q) (b := b) (n := n) (vs := vs) (by omega) (by omega) (by omega) hc hv (by omega) (by omega) (by omega) (a1 := a1) (by omega) (by omega) (by omega)) kNP0 (by decide) (by omega) (by omega) (Nat.le_of_ble_eq_true rfl) (kIP (fun y8 y8f y8a y8b => ?_))
    have y8g : 1 ≤ y8 ∧ y8 ≤ 400 ∧ (a1) ≤ y8 := y8f
    refine di_aload_n rfl rfl ?_
    refine dr_getf rfl hc rfl ?_
    refine dn_shl0 rfl ?_
    have lt9 := App_lt hc
    have lt10 := App_lt hv
    have le11 := hA.1
    refine dr_stat rfl rfl rfl rfl (s_J7_copyOf_9075b l hl App_rf (b0 := b) (v0 := vs) hv (by omega) (a1 := y8) (by omega) (by omega) (by omega)) (by decide) (by omega) (by omega) (Nat.le_of_ble_eq_true rfl) (fun Y h9 q9 => absurd q9 (kQBn Y h9)) (kQB (fun h12 hA13 b14 vs15 hb16 hc17 hn18 => ?_))
    have hn18 : (List.length vs15 : Int) = (y8) := hn18
    have hc19 := App_at hA13 hc
    have hc20 := App_at hA13 hv
    have hA21 := App_tr hA hA13
    refine pfs rfl hc19 (Nat.le_of_ble_eq_true rfl) rfl (by omega) hA21 (fun h22 hA23 le26 hc24 hk25 => ?_)
    have hc27 := (hk25 b (by omega)).trans hc20
    have hc28 := (hk25 b14 (by omega)).trans hc17
    have lt29 := App_lt hc27
    have lt30 := App_lt hc28
    have lt31 := App_lt hc24
    have le32 := hA23.1
    exact dr_vret rfl rfl (by omega) (by omega) ⟨hA23, by omega, ⟨_, vs15, by omega, by omega, hc24, hc28, by omega, by omega, by omega⟩, rfl⟩
set_option maxHeartbeats 4000000 in
set_option maxRecDepth 100000 in
/-- java/lang/AbstractStringBuilder.append -/
theorem s_J5_append_3fe6f (l : Launch) (hl : l.stackTraces = false) {h0 h : dm_H} (hA : App h0 h) {q b : Nat} {n : Int} {vs : List Value} (hq : h0.length ≤ q) (hb : h0.length ≤ b) (hqb : b ≠ q) (hc : h[q]? = some (1, [.ref b, dI 0, dI 0, dI (n)])) (hv : h[b]? = some (21, vs)) (hn0 : 0 ≤ n) (hnl : n ≤ vs.length) (hnc : (vs.length : Int) ≤ 400) {a1 : Int} (h1a : 0 ≤ a1) (h1b : a1 ≤ 255) (hp0 : n ≤ 180) : dm_M l 232 4 1 400 [.ref q, dI (a1)] h (QT h0 h q (n + 1) (n + 1) (fun v => v = some (.ref q))) := by
  refine dm_M_of dk_232 hl rfl (Nat.le_of_ble_eq_true rfl) ?_
  show dm_W (fun _ _ _ => True) (dm_P (QT h0 h q (n + 1) (n + 1) (fun v => v = some (.ref q))) 1 400) l 232 4 1 400 0 [some (.ref q), some (dI (a1))] [] h 0 0
  refine di_aload_n rfl rfl ?_
  refine di_aload_n rfl rfl ?_
  refine dr_getf rfl hc rfl ?_
  refine di_const rfl ?_
  refine di_iadd rfl ?_
  have lt1 := App_lt hc
  have lt2 := App_lt hv
  have le3 := hA.1
  refine dr_up rfl (by decide +kernel) (by decide +kernel) rfl rfl rfl hc (s_J5_ensureCapacityInternal_d00df l hl hA (q := q) (b := b) (n := n) (vs := vs) (by omega) (by omega) (by omega) hc hv (by omega) (by omega) (by omega) (a1 := (n + 1)) (by omega) (by omega)) kQTn (by decide) (by omega) (by omega) (Nat.le_of_ble_eq_true rfl) (kQT0 (fun h4 hA5 le6 b7 vs8 ht9 ht10 ht11 ht12 ht13 ht14 ht15 => ?_))
  have ht14 : ((n + 1)) ≤ (List.length vs8 : Int) := ht14
  refine di_aload_n rfl rfl ?_
  have lt16 := App_lt ht11
  have lt17 := App_lt ht12
  have le18 := hA5.1
  refine dr_up rfl (by decide +kernel) (by decide +kernel) rfl rfl rfl ht11 (s_J5_isLatin1_aae02 l hl hA5 (q := q) (b := b7) (n := (n)) (vs := vs8) (by omega) (by omega) (by omega) ht11 ht12 (by omega) (by omega) (by omega)) kNP0 (by decide) (by omega) (by omega) (Nat.le_of_ble_eq_true rfl) (kIP (fun y19 y19f y19a y19b => ?_))
  have y19g : 1 ≤ y19 ∧ y19 ≤ 1 := y19f
  refine di_if_eq rfl rfl (by omega) (by omega) (fun c20 => ?_) (fun c20 => ?_)
  · skip
    refine di_aload_n rfl rfl ?_
    have lt21 := App_lt ht11
    have lt22 := App_lt ht12
    have le23 := hA5.1
    refine dr_up rfl (by decide +kernel) (by decide +kernel) rfl rfl rfl ht11 (s_J5_isLatin1_aae02 l hl hA5 (q := q) (b := b7) (n := (n)) (vs := vs8) (by omega) (by omega) (by omega) ht11 ht12 (by omega) (by omega) (by omega)) kNP0 (by decide) (by omega) (by omega) (Nat.le_of_ble_eq_true rfl) (kIP (fun y24 y24f y24a y24b => ?_))
    have y24g : 1 ≤ y24 ∧ y24 ≤ 1 := y24f
    refine di_if_eq rfl rfl (by omega) (by omega) (fun c25 => ?_) (fun c25 => ?_)
    · skip
      refine di_aload_n rfl rfl ?_
      refine dr_getf rfl ht11 rfl ?_
      refine di_aload_n rfl rfl ?_
      refine dr_dup rfl rfl ?_
      refine dr_getf rfl ht11 rfl ?_
      refine dr_dup_x1 rfl rfl rfl ?_
      refine di_const rfl ?_
      refine di_iadd rfl ?_
      refine pfs rfl ht11 (Nat.le_of_ble_eq_true rfl) rfl (by omega) hA5 (fun h26 hA27 le30 hc28 hk29 => ?_)
      have hc31 := (hk29 b7 (by omega)).trans ht12
      refine dr_iload_n rfl rfl ?_
      exfalso; omega
    · skip
      refine di_aload_n rfl rfl ?_
      exfalso; omega
  · skip
    refine dr_iload_n rfl rfl ?_
    have lt32 := App_lt ht11
    have lt33 := App_lt ht12
    have le34 := hA5.1
    refine dr_stat rfl rfl rfl rfl (s_J1_canEncode_fc78d l hl hA5 (a0 := a1) (by omega) (by omega)) (by decide) (by omega) (by omega) (Nat.le_of_ble_eq_true rfl) (fun Y h9 q9 => absurd q9 (kNP0 Y h9)) (kIP (fun y35 y35f y35a y35b => ?_))
    have y35g : 1 ≤ y35 ∧ y35 ≤ 1 := y35f
    refine di_if_eq rfl rfl (by omega) (by omega) (fun c36 => ?_) (fun c36 => ?_)
    · skip
      refine di_aload_n rfl rfl ?_
      have lt37 := App_lt ht11
      have lt38 := App_lt ht12
      have le39 := hA5.1
      refine dr_up rfl (by decide +kernel) (by decide +kernel) rfl rfl rfl ht11 (s_J5_isLatin1_aae02 l hl hA5 (q := q) (b := b7) (n := (n)) (vs := vs8) (by omega) (by omega) (by omega) ht11 ht12 (by omega) (by omega) (by omega)) kNP0 (by decide) (by omega) (by omega) (Nat.le_of_ble_eq_true rfl) (kIP (fun y40 y40f y40a y40b => ?_))
      have y40g : 1 ≤ y40 ∧ y40 ≤ 1 := y40f
      refine di_if_eq rfl rfl (by omega) (by omega) (fun c41 => ?_) (fun c41 => ?_)
      · skip
        refine di_aload_n rfl rfl ?_
        refine dr_getf rfl ht11 rfl ?_
        refine di_aload_n rfl rfl ?_
        refine dr_dup rfl rfl ?_
        refine dr_getf rfl ht11 rfl ?_
        refine dr_dup_x1 rfl rfl rfl ?_
        refine di_const rfl ?_
        refine di_iadd rfl ?_
        refine pfs rfl ht11 (Nat.le_of_ble_eq_true rfl) rfl (by omega) hA5 (fun h42 hA43 le46 hc44 hk45 => ?_)
        have hc47 := (hk45 b7 (by omega)).trans ht12
        refine dr_iload_n rfl rfl ?_
        exfalso; omega
      · skip
        refine di_aload_n rfl rfl ?_
        exfalso; omega
    · skip
      refine di_aload_n rfl rfl ?_
      refine dr_getf rfl ht11 rfl ?_
      refine di_aload_n rfl rfl ?_
      refine dr_dup rfl rfl ?_
      refine dr_getf rfl ht11 rfl ?_
      refine dr_dup_x1 rfl rfl rfl ?_
      refine di_const rfl ?_
      refine di_iadd rfl ?_
      refine pfs rfl ht11 (Nat.le_of_ble_eq_true rfl) rfl (by omega) hA5 (fun h48 hA49 le52 hc50 hk51 => ?_)
      have hc53 := (hk51 b7 (by omega)).trans ht12
      refine dr_iload_n rfl rfl ?_
      refine dn_i2b rfl (fun x54 x54a x54b => ?_)
      refine pbs rfl hc53 (by omega) (by omega) (by omega) hA49 (fun h55 hA56 le61 us57 hu58 hc59 hk60 => ?_)
      have hc62 := (hk60 q (by omega)).trans hc50
      refine dr_goto rfl rfl ?_
      refine di_aload_n rfl rfl ?_
      have lt63 := App_lt hc62
      have lt64 := App_lt hc59
      have le65 := hA56.1
      exact dr_aret rfl rfl (Or.inl ⟨_, rfl⟩) (Or.inl ⟨_, rfl⟩) (by omega) (by omega) ⟨hA56, by omega, ⟨_, us57, by omega, by omega, hc62, hc59, by omega, by omega, by omega⟩, rfl⟩
set_option maxHeartbeats 4000000 in
set_option maxRecDepth 100000 in
/-- java/lang/StringBuilder.append -/
theorem s_J4_append_cf468 (l : Launch) (hl : l.stackTraces = false) {h0 h : dm_H} (hA : App h0 h) {q b : Nat} {n : Int} {vs : List Value} (hq : h0.length ≤ q) (hb : h0.length ≤ b) (hqb : b ≠ q) (hc : h[q]? = some (1, [.ref b, dI 0, dI 0, dI (n)])) (hv : h[b]? = some (21, vs)) (hn0 : 0 ≤ n) (hnl : n ≤ vs.length) (hnc : (vs.length : Int) ≤ 400) {a1 : Int} (h1a : 0 ≤ a1) (h1b : a1 ≤ 255) (hp0 : n ≤ 180) : dm_M l 253 5 1 400 [.ref q, dI (a1)] h (QT h0 h q (n + 1) (n + 1) (fun v => v = some (.ref q))) := by
  refine dm_M_of dk_253 hl rfl (Nat.le_of_ble_eq_true rfl) ?_
  show dm_W (fun _ _ _ => True) (dm_P (QT h0 h q (n + 1) (n + 1) (fun v => v = some (.ref q))) 1 400) l 253 5 1 400 0 [some (.ref q), some (dI (a1))] [] h 0 0
  refine di_aload_n rfl rfl ?_
  refine dr_iload_n rfl rfl ?_
  have lt1 := App_lt hc
  have lt2 := App_lt hv
  have le3 := hA.1
  refine dr_sup (wS := 4104) rfl (by decide +kernel) rfl (by decide +kernel) (by decide) rfl rfl rfl hc (s_J5_append_3fe6f l hl hA (q := q) (b := b) (n := n) (vs := vs) (by omega) (by omega) (by omega) hc hv (by omega) (by omega) (by omega) (a1 := a1) (by omega) (by omega) (by omega)) kQTn (by decide) (by omega) (by omega) (Nat.le_of_ble_eq_true rfl) (kQT1 (fun h4 hA5 le6 b7 vs8 ht9 ht10 ht11 ht12 ht13 ht14 ht15 => ?_))
  have ht14 : (n) + 1 ≤ (List.length vs8 : Int) := ht14
  refine dr_pop rfl rfl ?_
  refine di_aload_n rfl rfl ?_
  have lt16 := App_lt ht11
  have lt17 := App_lt ht12
  have le18 := hA5.1
  exact dr_aret rfl rfl (Or.inl ⟨_, rfl⟩) (Or.inl ⟨_, rfl⟩) (by omega) (by omega) ⟨hA5, by omega, ⟨_, vs8, by omega, by omega, ht11, ht12, by omega, by omega, by omega⟩, rfl⟩
