set_option maxHeartbeats 4000000 in
set_option maxRecDepth 100000 in
/-- java/lang/StringBuilder.length -/
theorem s_J4_length_8abf5 (l : Launch) (hl : l.stackTraces = false) {h0 h : dm_H} (hA : App h0 h) {q b : Nat} {n : Int} {vs : List Value} (hq : h0.length ≤ q) (hb : h0.length ≤ b) (hqb : b ≠ q) (hc : h[q]? = some (1, [.ref b, dI 0, dI 0, dI (n)])) (hv : h[b]? = some (21, vs)) (hn0 : 0 ≤ n) (hnl : n ≤ vs.length) (hnc : (vs.length : Int) ≤ 400) : dm_M l 256 1 0 0 [.ref q] h (QP h (RI (fun x => -2147483648 ≤ x ∧ x ≤ 2147483647 ∧ x = n)) []) := by
  refine dm_M_of dk_256 hl rfl (Nat.le_of_ble_eq_true rfl) ?_
  show dm_W (fun _ _ _ => True) (dm_P (QP h (RI (fun x => -2147483648 ≤ x ∧ x ≤ 2147483647 ∧ x = n)) []) 0 0) l 256 1 0 0 0 [some (.ref q)] [] h 0 0
  refine di_aload_n rfl rfl ?_
  have lt1 := App_lt hc
  have lt2 := App_lt hv
  have le3 := hA.1
  refine dr_sup (wS := 4104) rfl (by decide +kernel) rfl (by decide +kernel) (by decide) rfl rfl rfl hc (s_J5_length_8abf5 l hl hA (q := q) (b := b) (n := n) (vs := vs) (by omega) (by omega) (by omega) hc hv (by omega) (by omega) (by omega)) kNP0 (by decide) (by omega) (by omega) (Nat.le_of_ble_eq_true rfl) (kIP (fun y4 y4f y4a y4b => ?_))
  have y4g : -2147483648 ≤ y4 ∧ y4 ≤ 2147483647 ∧ y4 = (n) := y4f
  exact dr_iret (ty := .int) rfl rfl rfl (by decide) (by decide) ⟨rfl, y4, (show -2147483648 ≤ (y4) ∧ (y4) ≤ 2147483647 ∧ (y4) = n by omega), by omega, by omega, rfl⟩
set_option maxHeartbeats 4000000 in
set_option maxRecDepth 100000 in
/-- java/util/Arrays.checkLength -/
theorem s_J7_checkLength_df160 (l : Launch) (hl : l.stackTraces = false) {h0 h : dm_H} (hA : App h0 h) {a0 : Int} (h0a : 0 ≤ a0) (h0b : a0 ≤ 0) {a1 : Int} (h1a : 0 ≤ a1) (h1b : a1 ≤ 400) : dm_M l 276 0 0 0 [dI (a0), dI (a1)] h (QP h RV []) := by
  refine dm_M_of dk_276 hl rfl (Nat.le_of_ble_eq_true rfl) ?_
  show dm_W (fun _ _ _ => True) (dm_P (QP h RV []) 0 0) l 276 0 0 0 0 [some (dI (a0)), some (dI (a1))] [] h 0 0
  refine dr_iload_n rfl rfl ?_
  refine dr_iload_n rfl rfl ?_
  refine di_icmp_ge rfl rfl (by omega) (by omega) (by omega) (by omega) (fun c1 => ?_) (fun c1 => ?_)
  · skip
    exact dr_vret rfl rfl (by decide) (by decide) ⟨rfl, rfl⟩
  · skip
    exfalso; omega
set_option maxHeartbeats 4000000 in
set_option maxRecDepth 100000 in
/-- java/util/Arrays.copyOfRangeByte -/
theorem s_J7_copyOfRangeByte_39247 (l : Launch) (hl : l.stackTraces = false) {h0 h : dm_H} (hA : App h0 h) {b0 : Nat} {v0 : List Value} (hv0 : h[b0]? = some (21, v0)) (hl0 : (v0.length : Int) ≤ 400) {a1 : Int} (h1a : 0 ≤ a1) (h1b : a1 ≤ 0) {a2 : Int} (h2a : 0 ≤ a2) (h2b : a2 ≤ 400) (hp0 : a2 ≤ (v0.length : Int)) : dm_M l 278 2 1 400 [.ref b0, dI (a1), dI (a2)] h (QB h0 (a2)) := by
  refine dm_M_of dk_278 hl rfl (Nat.le_of_ble_eq_true rfl) ?_
  show dm_W (fun _ _ _ => True) (dm_P (QB h0 (a2)) 1 400) l 278 2 1 400 0 [some (.ref b0), some (dI (a1)), some (dI (a2)), none, none] [] h 0 0
  refine dr_iload_n rfl rfl ?_
  refine dr_iload_n rfl rfl ?_
  have lt1 := App_lt hv0
  have le2 := hA.1
  refine dr_stat rfl rfl rfl rfl (s_J7_checkLength_df160 l hl hA (a0 := a1) (by omega) (by omega) (a1 := a2) (by omega) (by omega)) (by decide) (by omega) (by omega) (Nat.le_of_ble_eq_true rfl) (fun Y h9 q9 => absurd q9 (kNP0 Y h9)) (kVP ?_)
  refine dr_iload_n rfl rfl ?_
  refine dr_iload_n rfl rfl ?_
  refine di_isub rfl ?_
  refine di_istore_n (ls2 := [some (.ref b0), some (dI (a1)), some (dI (a2)), some (dI ((a2 - a1))), none]) rfl rfl rfl ?_
  refine dr_iload_n rfl rfl ?_
  obtain ⟨n3, hn3⟩ := Int.eq_ofNat_of_zero_le (show 0 ≤ ((a2 - a1) : Int) by omega)
  have n3b : n3 ≤ 400 := by omega
  have lt10 := App_lt hv0
  have le11 := hA.1
  refine pnb rfl hn3 (by omega) (by omega) (by omega) (fun h4 hA5 lt9 vs6 hl7 hc8 => ?_)
  refine dm_cew (ce2 := 1) (sl2 := 400) (by omega) (by omega) ?_
  have hc12 := App_at hA5 hv0
  have hA13 := App_tr hA hA5
  refine di_astore (ls2 := [some (.ref b0), some (dI (a1)), some (dI (a2)), some (dI ((a2 - a1))), some (.ref ((List.length h)))]) rfl rfl rfl ?_
  refine di_aload_n rfl rfl ?_
  refine dr_iload_n rfl rfl ?_
  refine di_aload rfl rfl ?_
  refine di_const rfl ?_
  refine di_aload_n rfl rfl ?_
  refine di_alen (n := List.length v0) rfl hc12 (Or.inr (Or.inl rfl)) rfl ?_
  refine dr_iload_n rfl rfl ?_
  refine di_isub rfl ?_
  refine dr_iload_n rfl rfl ?_
  refine dr_minE rfl (by omega) (by omega) (by omega) (by omega) (by decide) (by omega) (by omega) (Nat.le_of_ble_eq_true rfl) (fun q14 q14e => ?_)
  refine pcs rfl (by decide +kernel) hc12 hc8 (by omega) (by omega) (by omega) (by omega) (by omega) (by decide) (Nat.le_of_ble_eq_true rfl) (by omega) hA13 (fun h15 hA16 le17 us18 hu19 hc20 hk21 => ?_)
  have hc22 := (hk21 b0 (by omega)).trans hc12
  refine di_aload rfl rfl ?_
  exact dr_aret rfl rfl (Or.inr ⟨_, rfl⟩) (Or.inl ⟨_, rfl⟩) (by omega) (by omega) ⟨hA16, _, us18, by omega, hc20, by omega, rfl⟩
set_option maxHeartbeats 4000000 in
set_option maxRecDepth 100000 in
/-- java/util/Arrays.copyOfRange -/
theorem s_J7_copyOfRange_39247 (l : Launch) (hl : l.stackTraces = false) {h0 h : dm_H} (hA : App h0 h) {b0 : Nat} {v0 : List Value} (hv0 : h[b0]? = some (21, v0)) (hl0 : (v0.length : Int) ≤ 400) {a1 : Int} (h1a : 0 ≤ a1) (h1b : a1 ≤ 0) {a2 : Int} (h2a : 0 ≤ a2) (h2b : a2 ≤ 400) (hp0 : a2 ≤ (v0.length : Int)) : dm_M l 277 3 1 400 [.ref b0, dI (a1), dI (a2)] h (QB h0 (a2)) := by
  refine dm_M_of dk_277 hl rfl (Nat.le_of_ble_eq_true rfl) ?_
  show dm_W (fun _ _ _ => True) (dm_P (QB h0 (a2)) 1 400) l 277 3 1 400 0 [some (.ref b0), some (dI (a1)), some (dI (a2))] [] h 0 0
  refine dr_iload_n rfl rfl ?_
  refine di_if_ne rfl rfl (by omega) (by omega) (fun c1 => ?_) (fun c1 => ?_)
  · skip
    refine di_aload_n rfl rfl ?_
    refine dr_iload_n rfl rfl ?_
    refine dr_iload_n rfl rfl ?_
    have lt2 := App_lt hv0
    have le3 := hA.1
    refine dr_stat rfl rfl rfl rfl (s_J7_copyOfRangeByte_39247 l hl App_rf (b0 := b0) (v0 := v0) hv0 (by omega) (a1 := a1) (by omega) (by omega) (a2 := a2) (by omega) (by omega) (by omega)) (by decide) (by omega) (by omega) (Nat.le_of_ble_eq_true rfl) (fun Y h9 q9 => absurd q9 (kQBn Y h9)) (kQB (fun h4 hA5 b6 vs7 hb8 hc9 hn10 => ?_))
    have hn10 : (List.length vs7 : Int) = (a2) := hn10
    have hc11 := App_at hA5 hv0
    have hA12 := App_tr hA hA5
    exact dr_aret rfl rfl (Or.inr ⟨_, rfl⟩) (Or.inl ⟨_, rfl⟩) (by omega) (by omega) ⟨hA12, _, vs7, by omega, hc9, by omega, rfl⟩
  · skip
    refine dr_iload_n rfl rfl ?_
    refine di_aload_n rfl rfl ?_
    refine di_alen (n := List.length v0) rfl hv0 (Or.inr (Or.inl rfl)) rfl ?_
    refine di_icmp_eq rfl rfl (by omega) (by omega) (by omega) (by omega) (fun c13 => ?_) (fun c13 => ?_)
    · skip
      refine di_aload_n rfl rfl ?_
      have lt18 := App_lt hv0
      have le19 := hA.1
      refine pcl rfl (by decide +kernel) hv0 (by decide) (Nat.le_of_ble_eq_true rfl) (by omega) (by omega) (fun h14 hA15 lt16 hc17 => ?_)
      refine dm_cew (ce2 := 1) (sl2 := 400) (by omega) (by omega) ?_
      have hc20 := App_at hA15 hv0
      have hA21 := App_tr hA hA15
      refine dr_castB (w := 4138) rfl (by decide +kernel) hc17 ?_
      exact dr_aret rfl rfl (Or.inr ⟨_, rfl⟩) (Or.inl ⟨_, rfl⟩) (by omega) (by omega) ⟨hA21, _, v0, by omega, hc17, by omega, rfl⟩
    · skip
      refine di_aload_n rfl rfl ?_
      refine dr_iload_n rfl rfl ?_
      refine dr_iload_n rfl rfl ?_
      have lt22 := App_lt hv0
      have le23 := hA.1
      refine dr_stat rfl rfl rfl rfl (s_J7_copyOfRangeByte_39247 l hl App_rf (b0 := b0) (v0 := v0) hv0 (by omega) (a1 := a1) (by omega) (by omega) (a2 := a2) (by omega) (by omega) (by omega)) (by decide) (by omega) (by omega) (Nat.le_of_ble_eq_true rfl) (fun Y h9 q9 => absurd q9 (kQBn Y h9)) (kQB (fun h24 hA25 b26 vs27 hb28 hc29 hn30 => ?_))
      have hn30 : (List.length vs27 : Int) = (a2) := hn30
      have hc31 := App_at hA25 hv0
      have hA32 := App_tr hA hA25
      exact dr_aret rfl rfl (Or.inr ⟨_, rfl⟩) (Or.inl ⟨_, rfl⟩) (by omega) (by omega) ⟨hA32, _, vs27, by omega, hc29, by omega, rfl⟩
set_option maxHeartbeats 4000000 in
set_option maxRecDepth 100000 in
/-- java/lang/AbstractStringBuilder.getValue -/
theorem s_J5_getValue_6d5f1 (l : Launch) (hl : l.stackTraces = false) {h0 h : dm_H} (hA : App h0 h) {q b : Nat} {n : Int} {vs : List Value} (hq : h0.length ≤ q) (hb : h0.length ≤ b) (hqb : b ≠ q) (hc : h[q]? = some (1, [.ref b, dI 0, dI 0, dI (n)])) (hv : h[b]? = some (21, vs)) (hn0 : 0 ≤ n) (hnl : n ≤ vs.length) (hnc : (vs.length : Int) ≤ 400) : dm_M l 234 0 0 0 [.ref q] h (QP h (fun v => v = some (.ref b)) []) := by
  refine dm_M_of dk_234 hl rfl (Nat.le_of_ble_eq_true rfl) ?_
  show dm_W (fun _ _ _ => True) (dm_P (QP h (fun v => v = some (.ref b)) []) 0 0) l 234 0 0 0 0 [some (.ref q)] [] h 0 0
  refine di_aload_n rfl rfl ?_
  refine dr_getf rfl hc rfl ?_
  exact dr_aret rfl rfl (by first | exact Or.inl ⟨_, rfl⟩ | exact Or.inr ⟨_, rfl⟩) (Or.inl ⟨_, rfl⟩) (by omega) (by omega) ⟨rfl, rfl⟩
set_option maxHeartbeats 4000000 in
set_option maxRecDepth 100000 in
/-- java/lang/String.<init> -/
theorem s_J0_init_db425 (l : Launch) (hl : l.stackTraces = false) {h0 h : dm_H} (hA : App h0 h) {q b : Nat} {n : Int} {vs : List Value} (hq : h0.length ≤ q) (hb : h0.length ≤ b) (hqb : b ≠ q) (hc : h[q]? = some (1, [.ref b, dI 0, dI 0, dI (n)])) (hv : h[b]? = some (21, vs)) (hn0 : 0 ≤ n) (hnl : n ≤ vs.length) (hnc : (vs.length : Int) ≤ 400) {p9 : Nat} (hp9 : h0.length ≤ p9) (hpq : p9 ≠ q) (hpb : p9 ≠ b) (hs9 : h[p9]? = some (0, [.null, dI 0, dI 0, dI 0])) : dm_M l 246 4 1 400 [.ref p9, .ref q, .null] h (QN0 h0 h) := by
  refine dm_M_of dk_246 hl rfl (Nat.le_of_ble_eq_true rfl) ?_
  show dm_W (fun _ _ _ => True) (dm_P (QN0 h0 h) 1 400) l 246 4 1 400 0 [some (.ref p9), some (.ref q), some (.null), none, none] [] h 0 0
  refine di_aload_n rfl rfl ?_
  refine dr_oinit rfl (by decide) (Nat.le_of_ble_eq_true rfl) ?_
  refine di_aload_n rfl rfl ?_
  have lt1 := App_lt hs9
  have lt2 := App_lt hc
  have lt3 := App_lt hv
  have le4 := hA.1
  refine dr_up rfl (by decide +kernel) (by decide +kernel) rfl rfl rfl hc (s_J5_getValue_6d5f1 l hl hA (q := q) (b := b) (n := n) (vs := vs) (by omega) (by omega) (by omega) hc hv (by omega) (by omega) (by omega)) kNP0 (by decide) (by omega) (by omega) (Nat.le_of_ble_eq_true rfl) (kQV ?_)
  refine di_astore_n (ls2 := [some (.ref p9), some (.ref q), some (.null), some (.ref b), none]) rfl rfl rfl ?_
  refine di_aload_n rfl rfl ?_
  have lt5 := App_lt hs9
  have lt6 := App_lt hc
  have lt7 := App_lt hv
  have le8 := hA.1
  refine dr_ov (z3 := 256) (wS := 5014) (wI := 5015) (wi := 1017) (wc := 5016) rfl (by decide +kernel) (by decide +kernel) (by decide +kernel) (by decide +kernel) rfl rfl rfl rfl rfl hc (s_J4_length_8abf5 l hl hA (q := q) (b := b) (n := n) (vs := vs) (by omega) (by omega) (by omega) hc hv (by omega) (by omega) (by omega)) kNP0 (by decide) (by omega) (by omega) (Nat.le_of_ble_eq_true rfl) (kIP (fun y9 y9f y9a y9b => ?_))
  have y9g : -2147483648 ≤ y9 ∧ y9 ≤ 2147483647 ∧ y9 = (n) := y9f
  refine di_istore (ls2 := [some (.ref p9), some (.ref q), some (.null), some (.ref b), some (dI (y9))]) rfl rfl rfl ?_
  refine di_aload_n rfl rfl ?_
  have lt10 := App_lt hs9
  have lt11 := App_lt hc
  have lt12 := App_lt hv
  have le13 := hA.1
  refine dr_up rfl (by decide +kernel) (by decide +kernel) rfl rfl rfl hc (s_J5_isLatin1_aae02 l hl hA (q := q) (b := b) (n := n) (vs := vs) (by omega) (by omega) (by omega) hc hv (by omega) (by omega) (by omega)) kNP0 (by decide) (by omega) (by omega) (Nat.le_of_ble_eq_true rfl) (kIP (fun y14 y14f y14a y14b => ?_))
  have y14g : 1 ≤ y14 ∧ y14 ≤ 1 := y14f
  refine di_if_eq rfl rfl (by omega) (by omega) (fun c15 => ?_) (fun c15 => ?_)
  · skip
    refine dr_getsC rfl (by decide +kernel) ?_
    refine di_if_eq rfl rfl (by omega) (by omega) (fun c16 => ?_) (fun c16 => ?_)
    · skip
      refine di_aload_n rfl rfl ?_
      refine di_const rfl ?_
      refine pfs rfl hs9 (Nat.le_of_ble_eq_true rfl) rfl (by omega) hA (fun h17 hA18 le21 hc19 hk20 => ?_)
      have hc22 := (hk20 q (by omega)).trans hc
      have hc23 := (hk20 b (by omega)).trans hv
      refine di_aload_n rfl rfl ?_
      refine di_aload_n rfl rfl ?_
      refine di_const rfl ?_
      refine dr_iload rfl rfl ?_
      refine di_const rfl ?_
      refine du_ishl rfl (fun u24 u24a u24b => ?_)
      have lt25 := App_lt hc22
      have lt26 := App_lt hc23
      have lt27 := App_lt hc19
      have le28 := hA18.1
      refine dr_stat rfl rfl rfl rfl (s_J7_copyOfRange_39247 l hl App_rf (b0 := b) (v0 := vs) hc23 (by omega) (a1 := 0) (by omega) (by omega) (a2 := u24) (by omega) (by omega) (by omega)) (by decide) (by omega) (by omega) (Nat.le_of_ble_eq_true rfl) (fun Y h9 q9 => absurd q9 (kQBn Y h9)) (kQB (fun h29 hA30 b31 vs32 hb33 hc34 hn35 => ?_))
      have hn35 : (List.length vs32 : Int) = (u24) := hn35
      have hc36 := App_at hA30 hc22
      have hc37 := App_at hA30 hc23
      have hc38 := App_at hA30 hc19
      have hA39 := App_tr hA18 hA30
      refine pfs rfl hc38 (Nat.le_of_ble_eq_true rfl) rfl (by omega) hA39 (fun h40 hA41 le44 hc42 hk43 => ?_)
      have hc45 := (hk43 q (by omega)).trans hc36
      have hc46 := (hk43 b (by omega)).trans hc37
      have hc47 := (hk43 b31 (by omega)).trans hc34
      have lt48 := App_lt hc45
      have lt49 := App_lt hc46
      have lt50 := App_lt hc47
      have lt51 := App_lt hc42
      have le52 := hA41.1
      exact dr_vret rfl rfl (by omega) (by omega) ⟨hA41, by omega, rfl⟩
    · skip
      refine di_aload_n rfl rfl ?_
      refine dr_getf rfl hc rfl ?_
      refine di_if_eq rfl rfl (by omega) (by omega) (fun c53 => ?_) (fun c53 => ?_)
      · skip
        refine di_aload_n rfl rfl ?_
        refine di_const rfl ?_
        refine pfs rfl hs9 (Nat.le_of_ble_eq_true rfl) rfl (by omega) hA (fun h54 hA55 le58 hc56 hk57 => ?_)
        have hc59 := (hk57 q (by omega)).trans hc
        have hc60 := (hk57 b (by omega)).trans hv
        refine di_aload_n rfl rfl ?_
        refine di_aload_n rfl rfl ?_
        refine di_const rfl ?_
        refine dr_iload rfl rfl ?_
        refine di_const rfl ?_
        refine du_ishl rfl (fun u61 u61a u61b => ?_)
        have lt62 := App_lt hc59
        have lt63 := App_lt hc60
        have lt64 := App_lt hc56
        have le65 := hA55.1
        refine dr_stat rfl rfl rfl rfl (s_J7_copyOfRange_39247 l hl App_rf (b0 := b) (v0 := vs) hc60 (by omega) (a1 := 0) (by omega) (by omega) (a2 := u61) (by omega) (by omega) (by omega)) (by decide) (by omega) (by omega) (Nat.le_of_ble_eq_true rfl) (fun Y h9 q9 => absurd q9 (kQBn Y h9)) (kQB (fun h66 hA67 b68 vs69 hb70 hc71 hn72 => ?_))
        have hn72 : (List.length vs69 : Int) = (u61) := hn72
        have hc73 := App_at hA67 hc59
        have hc74 := App_at hA67 hc60
        have hc75 := App_at hA67 hc56
        have hA76 := App_tr hA55 hA67
        refine pfs rfl hc75 (Nat.le_of_ble_eq_true rfl) rfl (by omega) hA76 (fun h77 hA78 le81 hc79 hk80 => ?_)
        have hc82 := (hk80 q (by omega)).trans hc73
        have hc83 := (hk80 b (by omega)).trans hc74
        have hc84 := (hk80 b68 (by omega)).trans hc71
        have lt85 := App_lt hc82
        have lt86 := App_lt hc83
        have lt87 := App_lt hc84
        have lt88 := App_lt hc79
        have le89 := hA78.1
        exact dr_vret rfl rfl (by omega) (by omega) ⟨hA78, by omega, rfl⟩
      · skip
        refine di_aload_n rfl rfl ?_
        refine di_aload_n rfl rfl ?_
        refine di_const rfl ?_
        refine dr_iload rfl rfl ?_
        exfalso; omega
  · skip
    refine di_aload_n rfl rfl ?_
    refine di_const rfl ?_
    refine pfs rfl hs9 (Nat.le_of_ble_eq_true rfl) rfl (by omega) hA (fun h90 hA91 le94 hc92 hk93 => ?_)
    have hc95 := (hk93 q (by omega)).trans hc
    have hc96 := (hk93 b (by omega)).trans hv
    refine di_aload_n rfl rfl ?_
    refine di_aload_n rfl rfl ?_
    refine di_const rfl ?_
    refine dr_iload rfl rfl ?_
    have lt97 := App_lt hc95
    have lt98 := App_lt hc96
    have lt99 := App_lt hc92
    have le100 := hA91.1
    refine dr_stat rfl rfl rfl rfl (s_J7_copyOfRange_39247 l hl App_rf (b0 := b) (v0 := vs) hc96 (by omega) (a1 := 0) (by omega) (by omega) (a2 := y9) (by omega) (by omega) (by omega)) (by decide) (by omega) (by omega) (Nat.le_of_ble_eq_true rfl) (fun Y h9 q9 => absurd q9 (kQBn Y h9)) (kQB (fun h101 hA102 b103 vs104 hb105 hc106 hn107 => ?_))
    have hn107 : (List.length vs104 : Int) = (y9) := hn107
    have hc108 := App_at hA102 hc95
    have hc109 := App_at hA102 hc96
    have hc110 := App_at hA102 hc92
    have hA111 := App_tr hA91 hA102
    refine pfs rfl hc110 (Nat.le_of_ble_eq_true rfl) rfl (by omega) hA111 (fun h112 hA113 le116 hc114 hk115 => ?_)
    have hc117 := (hk115 q (by omega)).trans hc108
    have hc118 := (hk115 b (by omega)).trans hc109
    have hc119 := (hk115 b103 (by omega)).trans hc106
    refine dr_goto rfl rfl ?_
    have lt120 := App_lt hc117
    have lt121 := App_lt hc118
    have lt122 := App_lt hc119
    have lt123 := App_lt hc114
    have le124 := hA113.1
    exact dr_vret rfl rfl (by omega) (by omega) ⟨hA113, by omega, rfl⟩
set_option maxHeartbeats 4000000 in
set_option maxRecDepth 100000 in
/-- java/lang/String.<init> -/
theorem s_J0_init_81219 (l : Launch) (hl : l.stackTraces = false) {h0 h : dm_H} (hA : App h0 h) {q b : Nat} {n : Int} {vs : List Value} (hq : h0.length ≤ q) (hb : h0.length ≤ b) (hqb : b ≠ q) (hc : h[q]? = some (1, [.ref b, dI 0, dI 0, dI (n)])) (hv : h[b]? = some (21, vs)) (hn0 : 0 ≤ n) (hnl : n ≤ vs.length) (hnc : (vs.length : Int) ≤ 400) {p9 : Nat} (hp9 : h0.length ≤ p9) (hpq : p9 ≠ q) (hpb : p9 ≠ b) (hs9 : h[p9]? = some (0, [.null, dI 0, dI 0, dI 0])) : dm_M l 243 5 1 400 [.ref p9, .ref q] h (QN0 h0 h) := by
  refine dm_M_of dk_243 hl rfl (Nat.le_of_ble_eq_true rfl) ?_
  show dm_W (fun _ _ _ => True) (dm_P (QN0 h0 h) 1 400) l 243 5 1 400 0 [some (.ref p9), some (.ref q)] [] h 0 0
  refine di_aload_n rfl rfl ?_
  refine di_aload_n rfl rfl ?_
  refine dr_null rfl ?_
  have lt1 := App_lt hs9
  have lt2 := App_lt hc
  have lt3 := App_lt hv
  have le4 := hA.1
  refine dr_init rfl rfl rfl rfl rfl (s_J0_init_db425 l hl hA (q := q) (b := b) (n := n) (vs := vs) (by omega) (by omega) (by omega) hc hv (by omega) (by omega) (by omega) (p9 := p9) (by omega) (by omega) (by omega) hs9) kQNn (by decide) (by omega) (by omega) (Nat.le_of_ble_eq_true rfl) (kQN (fun h5 hA6 le7 => ?_))
  have le8 := hA6.1
  exact dr_vret rfl rfl (by omega) (by omega) ⟨hA6, by omega, rfl⟩
set_option maxHeartbeats 4000000 in
set_option maxRecDepth 100000 in
/-- java/lang/StringBuilder.toString -/
theorem s_J4_toString_0e30d (l : Launch) (hl : l.stackTraces = false) {h0 h : dm_H} (hA : App h0 h) {q b : Nat} {n : Int} {vs : List Value} (hq : h0.length ≤ q) (hb : h0.length ≤ b) (hqb : b ≠ q) (hc : h[q]? = some (1, [.ref b, dI 0, dI 0, dI (n)])) (hv : h[b]? = some (21, vs)) (hn0 : 0 ≤ n) (hnl : n ≤ vs.length) (hnc : (vs.length : Int) ≤ 400) : dm_M l 255 6 2 404 [.ref q] h (QR h0 h) := by
  refine dm_M_of dk_255 hl rfl (Nat.le_of_ble_eq_true rfl) ?_
  show dm_W (fun _ _ _ => True) (dm_P (QR h0 h) 2 404) l 255 6 2 404 0 [some (.ref q)] [] h 0 0
  have lt5 := App_lt hc
  have lt6 := App_lt hv
  have le7 := hA.1
  refine pno (fs := [.null, dI 0, dI 0, dI 0]) rfl rfl (by omega) (by show _ + 4 ≤ _; omega) (fun h1 hA2 lt3 hc4 => ?_)
  refine dm_cew (ce2 := 1) (sl2 := 4) (by omega) (by show _ + 4 ≤ _; omega) ?_
  have hc8 := App_at hA2 hc
  have hc9 := App_at hA2 hv
  have hA10 := App_tr hA hA2
  refine dr_dup rfl rfl ?_
  refine di_aload_n rfl rfl ?_
  have lt11 := App_lt hc8
  have lt12 := App_lt hc9
  have lt13 := App_lt hc4
  have le14 := hA10.1
  refine dr_init rfl rfl rfl rfl rfl (s_J0_init_81219 l hl hA10 (q := q) (b := b) (n := n) (vs := vs) (by omega) (by omega) (by omega) hc8 hc9 (by omega) (by omega) (by omega) (p9 := (List.length h)) (by omega) (by omega) (by omega) hc4) kQNn (by decide) (by omega) (by omega) (Nat.le_of_ble_eq_true rfl) (kQN (fun h15 hA16 le17 => ?_))
  have le18 := hA16.1
  exact dr_aret rfl rfl (Or.inl ⟨_, rfl⟩) (Or.inl ⟨_, rfl⟩) (by omega) (by omega) ⟨hA16, by omega, _, by omega, rfl⟩
set_option maxHeartbeats 4000000 in
set_option maxRecDepth 100000 in
/-- java/lang/AbstractStringBuilder.<init> -/
theorem s_J5_init_d00df (l : Launch) (hl : l.stackTraces = false) {h0 h : dm_H} (hA : App h0 h) {q : Nat} (hq : h0.length ≤ q) (hc : h[q]? = some (1, [.null, dI 0, dI 0, dI 0])) {a1 : Int} (h1a : 16 ≤ a1) (h1b : a1 ≤ 16) : dm_M l 225 1 1 16 [.ref q, dI (a1)] h (QT h0 h q (0) (0) (fun v => v = none)) := by
  refine dm_M_of dk_225 hl rfl (Nat.le_of_ble_eq_true rfl) ?_
  show dm_W (fun _ _ _ => True) (dm_P (QT h0 h q (0) (0) (fun v => v = none)) 1 16) l 225 1 1 16 0 [some (.ref q), some (dI (a1))] [] h 0 0
  refine di_aload_n rfl rfl ?_
  refine dr_oinit rfl (by decide) (Nat.le_of_ble_eq_true rfl) ?_
  refine dr_getsC rfl (by decide +kernel) ?_
  refine di_if_eq rfl rfl (by omega) (by omega) (fun c1 => ?_) (fun c1 => ?_)
  · skip
    refine di_aload_n rfl rfl ?_
    refine dr_iload_n rfl rfl ?_
    exfalso; omega
  · skip
    refine di_aload_n rfl rfl ?_
    refine dr_iload_n rfl rfl ?_
    obtain ⟨n2, hn2⟩ := Int.eq_ofNat_of_zero_le (show 0 ≤ (a1 : Int) by omega)
    have n2b : n2 ≤ 16 := by omega
    have lt9 := App_lt hc
    have le10 := hA.1
    refine pnb rfl hn2 (by omega) (by omega) (by omega) (fun h3 hA4 lt8 vs5 hl6 hc7 => ?_)
    refine dm_cew (ce2 := 1) (sl2 := 16) (by omega) (by omega) ?_
    have hc11 := App_at hA4 hc
    have hA12 := App_tr hA hA4
    refine pfs rfl hc11 (Nat.le_of_ble_eq_true rfl) rfl (by omega) hA12 (fun h13 hA14 le17 hc15 hk16 => ?_)
    have hc18 := (hk16 (List.length h) (by omega)).trans hc7
    refine di_aload_n rfl rfl ?_
    refine di_const rfl ?_
    refine pfs rfl hc15 (Nat.le_of_ble_eq_true rfl) rfl (by omega) hA14 (fun h19 hA20 le23 hc21 hk22 => ?_)
    have hc24 := (hk22 (List.length h) (by omega)).trans hc18
    refine dr_goto rfl rfl ?_
    have lt25 := App_lt hc24
    have lt26 := App_lt hc21
    have le27 := hA20.1
    exact dr_vret rfl rfl (by omega) (by omega) ⟨hA20, by omega, ⟨_, vs5, by omega, by omega, hc21, hc24, by omega, by omega, by omega⟩, rfl⟩
set_option maxHeartbeats 4000000 in
set_option maxRecDepth 100000 in
/-- java/lang/StringBuilder.<init> -/
theorem s_J4_init_da8c8 (l : Launch) (hl : l.stackTraces = false) {h0 h : dm_H} (hA : App h0 h) {q : Nat} (hq : h0.length ≤ q) (hc : h[q]? = some (1, [.null, dI 0, dI 0, dI 0])) : dm_M l 251 2 1 16 [.ref q] h (QT h0 h q (0) (0) (fun v => v = none)) := by
  refine dm_M_of dk_251 hl rfl (Nat.le_of_ble_eq_true rfl) ?_
  show dm_W (fun _ _ _ => True) (dm_P (QT h0 h q (0) (0) (fun v => v = none)) 1 16) l 251 2 1 16 0 [some (.ref q)] [] h 0 0
  refine di_aload_n rfl rfl ?_
  refine di_bipush rfl (by decide) ?_
  have lt1 := App_lt hc
  have le2 := hA.1
  refine dr_init rfl rfl rfl rfl rfl (s_J5_init_d00df l hl hA (q := q) (by omega) hc (a1 := 16) (by omega) (by omega)) kQTn (by decide) (by omega) (by omega) (Nat.le_of_ble_eq_true rfl) (kQT0 (fun h3 hA4 le5 b6 vs7 ht8 ht9 ht10 ht11 ht12 ht13 ht14 => ?_))
  have ht13 : 0 ≤ (List.length vs7 : Int) := ht13
  have lt15 := App_lt ht10
  have lt16 := App_lt ht11
  have le17 := hA4.1
  exact dr_vret rfl rfl (by omega) (by omega) ⟨hA4, by omega, ⟨_, vs7, by omega, by omega, ht10, ht11, by omega, by omega, by omega⟩, rfl⟩
