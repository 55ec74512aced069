set_option maxHeartbeats 4000000 in
set_option maxRecDepth 100000 in
/-- java/lang/AbstractStringBuilder.isLatin1 -/
theorem s_J5_isLatin1_aae02 (l : Launch) (hl : l.stackTraces = false) {h0 h : dm_H} (hA : App h0 h) {q b : Nat} {n : Int} {vs : List Value} (hq : h0.length ≤ q) (hb : h0.length ≤ b) (hqb : b ≠ q) (hc : h[q]? = some (1, [.ref b, dI 0, dI 0, dI (n)])) (hv : h[b]? = some (21, vs)) (hn0 : 0 ≤ n) (hnl : n ≤ vs.length) (hnc : (vs.length : Int) ≤ 400) : dm_M l 235 0 0 0 [.ref q] h (QP h (RI (fun x => 1 ≤ x ∧ x ≤ 1)) []) := by
  refine dm_M_of dk_235 hl rfl (Nat.le_of_ble_eq_true rfl) ?_
  show dm_W (fun _ _ _ => True) (dm_P (QP h (RI (fun x => 1 ≤ x ∧ x ≤ 1)) []) 0 0) l 235 0 0 0 0 [some (.ref q)] [] h 0 0
  refine dr_getsC rfl (by decide +kernel) ?_
  refine di_if_eq rfl rfl (by omega) (by omega) (fun c1 => ?_) (fun c1 => ?_)
  · skip
    refine di_const rfl ?_
    exact dr_iret (ty := .boolean) rfl rfl (nar_z (by omega) (by omega)) (by decide) (by decide) ⟨rfl, 0, (show 1 ≤ (0) ∧ (0) ≤ 1 by omega), by omega, by omega, rfl⟩
  · skip
    refine di_aload_n rfl rfl ?_
    refine dr_getf rfl hc rfl ?_
    refine di_if_ne rfl rfl (by omega) (by omega) (fun c2 => ?_) (fun c2 => ?_)
    · skip
      refine di_const rfl ?_
      exact dr_iret (ty := .boolean) rfl rfl (nar_z (by omega) (by omega)) (by decide) (by decide) ⟨rfl, 0, (show 1 ≤ (0) ∧ (0) ≤ 1 by omega), by omega, by omega, rfl⟩
    · skip
      refine di_const rfl ?_
      refine dr_goto rfl rfl ?_
      exact dr_iret (ty := .boolean) rfl rfl (nar_z (by omega) (by omega)) (by decide) (by decide) ⟨rfl, 1, (show 1 ≤ (1) ∧ (1) ≤ 1 by omega), by omega, by omega, rfl⟩
set_option maxHeartbeats 4000000 in
set_option maxRecDepth 100000 in
/-- java/lang/StringLatin1.canEncode -/
theorem s_J1_canEncode_fc78d (l : Launch) (hl : l.stackTraces = false) {h0 h : dm_H} (hA : App h0 h) {a0 : Int} (h0a : 0 ≤ a0) (h0b : a0 ≤ 255) : dm_M l 257 0 0 0 [dI (a0)] h (QP h (RI (fun x => 1 ≤ x ∧ x ≤ 1)) []) := by
  refine dm_M_of dk_257 hl rfl (Nat.le_of_ble_eq_true rfl) ?_
  show dm_W (fun _ _ _ => True) (dm_P (QP h (RI (fun x => 1 ≤ x ∧ x ≤ 1)) []) 0 0) l 257 0 0 0 0 [some (dI (a0))] [] h 0 0
  refine dr_iload_n rfl rfl ?_
  refine di_sipush rfl (by decide) ?_
  refine di_icmp_gt rfl rfl (by omega) (by omega) (by omega) (by omega) (fun c1 => ?_) (fun c1 => ?_)
  · skip
    refine di_const rfl ?_
    exact dr_iret (ty := .boolean) rfl rfl (nar_z (by omega) (by omega)) (by decide) (by decide) ⟨rfl, 0, (show 1 ≤ (0) ∧ (0) ≤ 1 by omega), by omega, by omega, rfl⟩
  · skip
    refine di_const rfl ?_
    refine dr_goto rfl rfl ?_
    exact dr_iret (ty := .boolean) rfl rfl (nar_z (by omega) (by omega)) (by decide) (by decide) ⟨rfl, 1, (show 1 ≤ (1) ∧ (1) ≤ 1 by omega), by omega, by omega, rfl⟩
set_option maxHeartbeats 4000000 in
set_option maxRecDepth 100000 in
/-- java/lang/AbstractStringBuilder.length -/
theorem s_J5_length_8abf5 (l : Launch) (hl : l.stackTraces = false) {h0 h : dm_H} (hA : App h0 h) {q b : Nat} {n : Int} {vs : List Value} (hq : h0.length ≤ q) (hb : h0.length ≤ b) (hqb : b ≠ q) (hc : h[q]? = some (1, [.ref b, dI 0, dI 0, dI (n)])) (hv : h[b]? = some (21, vs)) (hn0 : 0 ≤ n) (hnl : n ≤ vs.length) (hnc : (vs.length : Int) ≤ 400) : dm_M l 226 0 0 0 [.ref q] h (QP h (RI (fun x => -2147483648 ≤ x ∧ x ≤ 2147483647 ∧ x = n)) []) := by
  refine dm_M_of dk_226 hl rfl (Nat.le_of_ble_eq_true rfl) ?_
  show dm_W (fun _ _ _ => True) (dm_P (QP h (RI (fun x => -2147483648 ≤ x ∧ x ≤ 2147483647 ∧ x = n)) []) 0 0) l 226 0 0 0 0 [some (.ref q)] [] h 0 0
  refine di_aload_n rfl rfl ?_
  refine dr_getf rfl hc rfl ?_
  exact dr_iret (ty := .int) rfl rfl rfl (by decide) (by decide) ⟨rfl, n, (show -2147483648 ≤ (n) ∧ (n) ≤ 2147483647 ∧ (n) = n by omega), by omega, by omega, rfl⟩
set_option maxHeartbeats 4000000 in
set_option maxRecDepth 100000 in
/-- jdk/internal/util/ArraysSupport.newLength -/
theorem s_J8_newLength_cabcc (l : Launch) (hl : l.stackTraces = false) {h0 h : dm_H} (hA : App h0 h) {a0 : Int} (h0a : 0 ≤ a0) (h0b : a0 ≤ 400) {a1 : Int} (h1a : 0 ≤ a1) (h1b : a1 ≤ 400) {a2 : Int} (h2a : 0 ≤ a2) (h2b : a2 ≤ 500) (hp0 : 1 ≤ a2) : dm_M l 279 1 0 0 [dI (a0), dI (a1), dI (a2)] h (QP h (RI (fun x => 0 ≤ x ∧ x ≤ 900 ∧ a0 + a1 ≤ x ∧ a0 + a2 ≤ x ∧ (x = a0 + a1 ∨ x = a0 + a2))) []) := by
  refine dm_M_of dk_279 hl rfl (Nat.le_of_ble_eq_true rfl) ?_
  show dm_W (fun _ _ _ => True) (dm_P (QP h (RI (fun x => 0 ≤ x ∧ x ≤ 900 ∧ a0 + a1 ≤ x ∧ a0 + a2 ≤ x ∧ (x = a0 + a1 ∨ x = a0 + a2))) []) 0 0) l 279 1 0 0 0 [some (dI (a0)), some (dI (a1)), some (dI (a2)), none] [] h 0 0
  refine dr_iload_n rfl rfl ?_
  refine dr_iload_n rfl rfl ?_
  refine dr_iload_n rfl rfl ?_
  refine dr_maxE rfl (by omega) (by omega) (by omega) (by omega) (by decide) (by omega) (by omega) (Nat.le_of_ble_eq_true rfl) (fun q1 q1e => ?_)
  refine di_iadd rfl ?_
  refine di_istore_n (ls2 := [some (dI (a0)), some (dI (a1)), some (dI (a2)), some (dI ((a0 + q1)))]) rfl rfl rfl ?_
  refine di_const rfl ?_
  refine dr_iload_n rfl rfl ?_
  refine di_icmp_ge rfl rfl (by omega) (by omega) (by omega) (by omega) (fun c2 => ?_) (fun c2 => ?_)
  · skip
    refine dr_iload_n rfl rfl ?_
    refine dr_iload_n rfl rfl ?_
    exfalso; omega
  · skip
    refine dr_iload_n rfl rfl ?_
    refine dr_ldcI rfl ?_
    refine di_icmp_gt rfl rfl (by omega) (by omega) (by omega) (by omega) (fun c3 => ?_) (fun c3 => ?_)
    · skip
      refine dr_iload_n rfl rfl ?_
      refine dr_iload_n rfl rfl ?_
      exfalso; omega
    · skip
      refine dr_iload_n rfl rfl ?_
      exact dr_iret (ty := .int) rfl rfl rfl (by decide) (by decide) ⟨rfl, (a0 + q1), (show 0 ≤ ((a0 + q1)) ∧ ((a0 + q1)) ≤ 900 ∧ a0 + a1 ≤ ((a0 + q1)) ∧ a0 + a2 ≤ ((a0 + q1)) ∧ (((a0 + q1)) = a0 + a1 ∨ ((a0 + q1)) = a0 + a2) by omega), by omega, by omega, rfl⟩
set_option maxHeartbeats 4000000 in
set_option maxRecDepth 100000 in
/-- java/lang/AbstractStringBuilder.newCapacity -/
theorem s_J5_newCapacity_0f7a4 (l : Launch) (hl : l.stackTraces = false) {h0 h : dm_H} (hA : App h0 h) {q b : Nat} {n : Int} {vs : List Value} (hq : h0.length ≤ q) (hb : h0.length ≤ b) (hqb : b ≠ q) (hc : h[q]? = some (1, [.ref b, dI 0, dI 0, dI (n)])) (hv : h[b]? = some (21, vs)) (hn0 : 0 ≤ n) (hnl : n ≤ vs.length) (hnc : (vs.length : Int) ≤ 400) {a1 : Int} (h1a : 1 ≤ a1) (h1b : a1 ≤ 190) (hp0 : (vs.length : Int) < a1) : dm_M l 228 2 0 0 [.ref q, dI (a1)] h (QP h (RI (fun x => 1 ≤ x ∧ x ≤ 400 ∧ a1 ≤ x)) []) := by
  refine dm_M_of dk_228 hl rfl (Nat.le_of_ble_eq_true rfl) ?_
  show dm_W (fun _ _ _ => True) (dm_P (QP h (RI (fun x => 1 ≤ x ∧ x ≤ 400 ∧ a1 ≤ x)) []) 0 0) l 228 2 0 0 0 [some (.ref q), some (dI (a1)), none, none, none, none] [] h 0 0
  refine di_aload_n rfl rfl ?_
  refine dr_getf rfl hc rfl ?_
  refine di_alen (n := List.length vs) rfl hv (Or.inr (Or.inl rfl)) rfl ?_
  refine di_istore_n (ls2 := [some (.ref q), some (dI (a1)), some (dI ((List.length vs : Int))), none, none, none]) rfl rfl rfl ?_
  refine dr_iload_n rfl rfl ?_
  refine di_aload_n rfl rfl ?_
  refine dr_getf rfl hc rfl ?_
  refine dn_shl0 rfl ?_
  refine di_istore_n (ls2 := [some (.ref q), some (dI (a1)), some (dI ((List.length vs : Int))), some (dI (a1)), none, none]) rfl rfl rfl ?_
  refine dr_iload_n rfl rfl ?_
  refine dr_iload_n rfl rfl ?_
  refine di_isub rfl ?_
  refine di_istore (ls2 := [some (.ref q), some (dI (a1)), some (dI ((List.length vs : Int))), some (dI (a1)), some (dI ((a1 - (List.length vs : Int)))), none]) rfl rfl rfl ?_
  refine dr_iload_n rfl rfl ?_
  refine dr_iload rfl rfl ?_
  refine dr_iload_n rfl rfl ?_
  refine di_const rfl ?_
  refine di_aload_n rfl rfl ?_
  refine dr_getf rfl hc rfl ?_
  refine dn_shl0 rfl ?_
  refine di_iadd rfl ?_
  have lt1 := App_lt hc
  have lt2 := App_lt hv
  have le3 := hA.1
  refine dr_stat rfl rfl rfl rfl (s_J8_newLength_cabcc l hl hA (a0 := (List.length vs : Int)) (by omega) (by omega) (a1 := (a1 - (List.length vs : Int))) (by omega) (by omega) (a2 := ((List.length vs : Int) + 2)) (by omega) (by omega) (by omega)) (by decide) (by omega) (by omega) (Nat.le_of_ble_eq_true rfl) (fun Y h9 q9 => absurd q9 (kNP0 Y h9)) (kIP (fun y4 y4f y4a y4b => ?_))
  have y4g : 0 ≤ y4 ∧ y4 ≤ 900 ∧ ((List.length vs : Int)) + ((a1 - (List.length vs : Int))) ≤ y4 ∧ ((List.length vs : Int)) + (((List.length vs : Int) + 2)) ≤ y4 ∧ (y4 = ((List.length vs : Int)) + ((a1 - (List.length vs : Int))) ∨ y4 = ((List.length vs : Int)) + (((List.length vs : Int) + 2))) := y4f
  refine di_istore (ls2 := [some (.ref q), some (dI (a1)), some (dI ((List.length vs : Int))), some (dI (a1)), some (dI ((a1 - (List.length vs : Int)))), some (dI (y4))]) rfl rfl rfl ?_
  refine dr_iload rfl rfl ?_
  refine dr_ldcI rfl ?_
  refine di_icmp_ne rfl rfl (by omega) (by omega) (by omega) (by omega) (fun c5 => ?_) (fun c5 => ?_)
  · skip
    refine dr_iload rfl rfl ?_
    refine di_aload_n rfl rfl ?_
    refine dr_getf rfl hc rfl ?_
    refine dn_shr0 rfl ?_
    exact dr_iret (ty := .int) rfl rfl rfl (by decide) (by decide) ⟨rfl, y4, (show 1 ≤ (y4) ∧ (y4) ≤ 400 ∧ a1 ≤ (y4) by omega), by omega, by omega, rfl⟩
  · skip
    exfalso; omega
set_option maxHeartbeats 4000000 in
set_option maxRecDepth 100000 in
/-- java/util/Arrays.copyOf -/
theorem s_J7_copyOf_9075b (l : Launch) (hl : l.stackTraces = false) {h0 h : dm_H} (hA : App h0 h) {b0 : Nat} {v0 : List Value} (hv0 : h[b0]? = some (21, v0)) (hl0 : (v0.length : Int) ≤ 400) {a1 : Int} (h1a : 0 ≤ a1) (h1b : a1 ≤ 400) (hp0 : (v0.length : Int) < a1) : dm_M l 275 1 1 400 [.ref b0, dI (a1)] h (QB h0 (a1)) := by
  refine dm_M_of dk_275 hl rfl (Nat.le_of_ble_eq_true rfl) ?_
  show dm_W (fun _ _ _ => True) (dm_P (QB h0 (a1)) 1 400) l 275 1 1 400 0 [some (.ref b0), some (dI (a1)), none] [] h 0 0
  refine dr_iload_n rfl rfl ?_
  refine di_aload_n rfl rfl ?_
  refine di_alen (n := List.length v0) rfl hv0 (Or.inr (Or.inl rfl)) rfl ?_
  refine di_icmp_ne rfl rfl (by omega) (by omega) (by omega) (by omega) (fun c1 => ?_) (fun c1 => ?_)
  · skip
    refine dr_iload_n rfl rfl ?_
    obtain ⟨n2, hn2⟩ := Int.eq_ofNat_of_zero_le (show 0 ≤ (a1 : Int) by omega)
    have n2b : n2 ≤ 400 := by omega
    have lt9 := App_lt hv0
    have le10 := hA.1
    refine pnb rfl hn2 (by omega) (by omega) (by omega) (fun h3 hA4 lt8 vs5 hl6 hc7 => ?_)
    refine dm_cew (ce2 := 1) (sl2 := 400) (by omega) (by omega) ?_
    have hc11 := App_at hA4 hv0
    have hA12 := App_tr hA hA4
    refine di_astore_n (ls2 := [some (.ref b0), some (dI (a1)), some (.ref ((List.length h)))]) rfl rfl rfl ?_
    refine di_aload_n rfl rfl ?_
    refine di_const rfl ?_
    refine di_aload_n rfl rfl ?_
    refine di_const rfl ?_
    refine di_aload_n rfl rfl ?_
    refine di_alen (n := List.length v0) rfl hc11 (Or.inr (Or.inl rfl)) rfl ?_
    refine dr_iload_n rfl rfl ?_
    refine dr_minE rfl (by omega) (by omega) (by omega) (by omega) (by decide) (by omega) (by omega) (Nat.le_of_ble_eq_true rfl) (fun q13 q13e => ?_)
    refine pcs rfl (by decide +kernel) hc11 hc7 (by omega) (by omega) (by omega) (by omega) (by omega) (by decide) (Nat.le_of_ble_eq_true rfl) (by omega) hA12 (fun h14 hA15 le16 us17 hu18 hc19 hk20 => ?_)
    have hc21 := (hk20 b0 (by omega)).trans hc11
    refine di_aload_n rfl rfl ?_
    exact dr_aret rfl rfl (Or.inr ⟨_, rfl⟩) (Or.inl ⟨_, rfl⟩) (by omega) (by omega) ⟨hA15, _, us17, by omega, hc19, by omega, rfl⟩
  · skip
    refine di_aload_n rfl rfl ?_
    exfalso; omega
