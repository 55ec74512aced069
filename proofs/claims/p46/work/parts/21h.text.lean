set_option maxHeartbeats 4000000 in
set_option maxRecDepth 100000 in
/-- java/lang/AbstractStringBuilder.append -/
theorem s_J5_append_c97b9 (l : Launch) (hl : l.stackTraces = false) {h0 h : dm_H} (hA : App h0 h) {q b : Nat} {n : Int} {vs : List Value} (hq : h0.length ≤ q) (hb : h0.length ≤ b) (hqb : b ≠ q) (hc : h[q]? = some (1, [.ref b, dI 0, dI 0, dI (n)])) (hv : h[b]? = some (21, vs)) (hn0 : 0 ≤ n) (hnl : n ≤ vs.length) (hnc : (vs.length : Int) ≤ 400) {a1 : Int} (h1a : -2147483648 ≤ a1) (h1b : a1 ≤ 2147483647) (hp0 : n ≤ 170) : dm_M l 233 4 1 400 [.ref q, dI (a1)] h (QTi h0 h q n a1 (fun v => v = some (.ref q))) := by
  refine dm_M_of dk_233 hl rfl (Nat.le_of_ble_eq_true rfl) ?_
  show dm_W (fun _ _ _ => True) (dm_P (QTi h0 h q n a1 (fun v => v = some (.ref q))) 1 400) l 233 4 1 400 0 [some (.ref q), some (dI (a1)), none, none] [] h 0 0
  refine di_aload_n rfl rfl ?_
  refine dr_getf rfl hc rfl ?_
  refine di_istore_n (ls2 := [some (.ref q), some (dI (a1)), some (dI (n)), none]) rfl rfl rfl ?_
  refine dr_iload_n rfl rfl ?_
  refine dr_iload_n rfl rfl ?_
  have lt1 := App_lt hc
  have lt2 := App_lt hv
  have le3 := hA.1
  refine dr_stat rfl rfl rfl rfl (s_J6_stringSize_0f7a4 l hl hA (a0 := a1) (by omega) (by omega)) (by decide) (by omega) (by omega) (Nat.le_of_ble_eq_true rfl) (fun Y h9 q9 => absurd q9 (kNP0 Y h9)) (kIP (fun y4 y4f y4a y4b => ?_))
  have y4g : 1 ≤ y4 ∧ y4 ≤ 11 ∧ (0 ≤ (a1) → y4 ≤ 10) ∧ ((a1) < 0 → 2 ≤ y4) ∧ (-1 ≤ (a1) → (a1) ≤ 99 → y4 ≤ 2) ∧ dgz y4 (a1) := y4f
  refine di_iadd rfl ?_
  refine di_istore_n (ls2 := [some (.ref q), some (dI (a1)), some (dI (n)), some (dI ((n + y4)))]) rfl rfl rfl ?_
  refine di_aload_n rfl rfl ?_
  refine dr_iload_n rfl rfl ?_
  have lt5 := App_lt hc
  have lt6 := App_lt hv
  have le7 := hA.1
  refine dr_up rfl (by decide +kernel) (by decide +kernel) rfl rfl rfl hc (s_J5_ensureCapacityInternal_d00df l hl hA (q := q) (b := b) (n := n) (vs := vs) (by omega) (by omega) (by omega) hc hv (by omega) (by omega) (by omega) (a1 := (n + y4)) (by omega) (by omega)) kQTn (by decide) (by omega) (by omega) (Nat.le_of_ble_eq_true rfl) (kQT0 (fun h8 hA9 le10 b11 vs12 ht13 ht14 ht15 ht16 ht17 ht18 ht19 => ?_))
  have ht18 : ((n + y4)) ≤ (List.length vs12 : Int) := ht18
  refine di_aload_n rfl rfl ?_
  have lt20 := App_lt ht15
  have lt21 := App_lt ht16
  have le22 := hA9.1
  refine dr_up rfl (by decide +kernel) (by decide +kernel) rfl rfl rfl ht15 (s_J5_isLatin1_aae02 l hl hA9 (q := q) (b := b11) (n := (n)) (vs := vs12) (by omega) (by omega) (by omega) ht15 ht16 (by omega) (by omega) (by omega)) kNP0 (by decide) (by omega) (by omega) (Nat.le_of_ble_eq_true rfl) (kIP (fun y23 y23f y23a y23b => ?_))
  have y23g : 1 ≤ y23 ∧ y23 ≤ 1 := y23f
  refine di_if_eq rfl rfl (by omega) (by omega) (fun c24 => ?_) (fun c24 => ?_)
  · skip
    refine dr_iload_n rfl rfl ?_
    refine dr_iload_n rfl rfl ?_
    refine dr_iload_n rfl rfl ?_
    refine di_aload_n rfl rfl ?_
    refine dr_getf rfl ht15 rfl ?_
    exfalso; omega
  · skip
    refine dr_iload_n rfl rfl ?_
    refine dr_iload_n rfl rfl ?_
    refine di_aload_n rfl rfl ?_
    refine dr_getf rfl ht15 rfl ?_
    have lt28 := App_lt ht15
    have lt29 := App_lt ht16
    have le30 := hA9.1
    refine dr_stat rfl rfl rfl rfl (s_J6_getChars_ba4f3 l hl (a0 := a1) (a1 := (n + y4)) (sz := y4) (by omega) (by omega) (by omega) ht16 (by omega) (by omega) (by omega) y4g.2.2.2.2.2) (by decide) (by omega) (by omega) (Nat.le_of_ble_eq_true rfl) kQGN (kQG (fun us25 hu26 x27 => ?_))
    have hA31 : App h0 (h8.set b11 (21, us25)) := ⟨by rw [List.length_set]; exact hA9.1, fun j hj => by rw [List.getElem?_set, if_neg (by omega)]; exact hA9.2 j hj⟩
    have ln32 : (List.length (h8.set b11 (21, us25))) = List.length h8 := List.length_set
    have hc33 := (show (h8.set b11 (21, us25))[q]? = h8[q]? from by rw [List.getElem?_set, if_neg (by omega)]).trans ht15
    have hc34 := st_at (x := (21, us25)) ht16
    refine dr_pop rfl rfl ?_
    refine dr_goto rfl rfl ?_
    refine di_aload_n rfl rfl ?_
    refine dr_iload_n rfl rfl ?_
    refine pfs rfl hc33 (Nat.le_of_ble_eq_true rfl) rfl (by omega) hA31 (fun h35 hA36 le39 hc37 hk38 => ?_)
    have hc40 := (hk38 b11 (by omega)).trans hc34
    refine di_aload_n rfl rfl ?_
    have lt41 := App_lt hc40
    have lt42 := App_lt hc37
    have le43 := hA36.1
    exact dr_aret rfl rfl (Or.inl ⟨_, rfl⟩) (Or.inl ⟨_, rfl⟩) (by omega) (by omega) ⟨(n + y4), by omega, by omega, by omega, hA36, by omega, ⟨_, us25, by omega, by omega, hc37, hc40, by omega, by omega, by omega⟩, rfl⟩
set_option maxHeartbeats 4000000 in
set_option maxRecDepth 100000 in
/-- java/lang/StringBuilder.append -/
theorem s_J4_append_bf812 (l : Launch) (hl : l.stackTraces = false) {h0 h : dm_H} (hA : App h0 h) {q b : Nat} {n : Int} {vs : List Value} (hq : h0.length ≤ q) (hb : h0.length ≤ b) (hqb : b ≠ q) (hc : h[q]? = some (1, [.ref b, dI 0, dI 0, dI (n)])) (hv : h[b]? = some (21, vs)) (hn0 : 0 ≤ n) (hnl : n ≤ vs.length) (hnc : (vs.length : Int) ≤ 400) {a1 : Int} (h1a : -2147483648 ≤ a1) (h1b : a1 ≤ 2147483647) (hp0 : n ≤ 170) : dm_M l 254 5 1 400 [.ref q, dI (a1)] h (QTi h0 h q n a1 (fun v => v = some (.ref q))) := by
  refine dm_M_of dk_254 hl rfl (Nat.le_of_ble_eq_true rfl) ?_
  show dm_W (fun _ _ _ => True) (dm_P (QTi h0 h q n a1 (fun v => v = some (.ref q))) 1 400) l 254 5 1 400 0 [some (.ref q), some (dI (a1))] [] h 0 0
  refine di_aload_n rfl rfl ?_
  refine dr_iload_n rfl rfl ?_
  have lt1 := App_lt hc
  have lt2 := App_lt hv
  have le3 := hA.1
  refine dr_sup (wS := 4104) rfl (by decide +kernel) rfl (by decide +kernel) (by decide) rfl rfl rfl hc (s_J5_append_c97b9 l hl hA (q := q) (b := b) (n := n) (vs := vs) (by omega) (by omega) (by omega) hc hv (by omega) (by omega) (by omega) (a1 := a1) (by omega) (by omega) (by omega)) kQTin (by decide) (by omega) (by omega) (Nat.le_of_ble_eq_true rfl) (kQTi (fun n4 hn5 hn6 hn7 h8 hA9 le10 b11 vs12 ht13 ht14 ht15 ht16 ht17 ht18 ht19 => ?_))
  refine dr_pop rfl rfl ?_
  refine di_aload_n rfl rfl ?_
  have lt20 := App_lt ht15
  have lt21 := App_lt ht16
  have le22 := hA9.1
  exact dr_aret rfl rfl (Or.inl ⟨_, rfl⟩) (Or.inl ⟨_, rfl⟩) (by omega) (by omega) ⟨n4, by omega, by omega, by omega, hA9, by omega, ⟨_, vs12, by omega, by omega, ht15, ht16, by omega, by omega, by omega⟩, rfl⟩
