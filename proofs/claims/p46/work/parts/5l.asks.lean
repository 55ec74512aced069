/-! ===== the class's trial: passes ===== -/
theorem all_sB {s : Int} (s0 : 0 ≤ s) (s8 : s ≤ 8) : sB (pwI s - 1) (fun r => r < s) := by
  have p8 := pwI_8 s0 s8
  refine ⟨⟨by omega, by omega⟩, fun r r0 r7 => ⟨fun q => ?_, fun q => all_bt s0 s8 r0 q⟩⟩
  exact (set_lt (A := pwI s - 1) (by omega) (by omega) s0 s8).mp (by omega) r r0 r7 q
theorem hc_al {F : Int → Int} {u w v : List Value} {s n S H : Int} (hr : Rep (cv u) (cv w) s F) (ht : Srt (cv u) s) (hok : okf (cv u) s) (s8 : s ≤ 8) (hf : fcE F u v s n) (n0 : 0 ≤ n) (hS : sB S (fun r => ∃ j : Int, 0 ≤ j ∧ j < n ∧ cv v j = r)) (hH : heP H s s (cv u) S) : H = pwI s - 1 := sB_uq hH (sB_cg (all_sB hr.1.1 s8) (fun r r0 r7 => ⟨fun q => ⟨q, by
  obtain ⟨k, k1, k2, k3⟩ := ch_hl hr ht hok r0 q
  have k4 := mo_le hf.1.2 (fun j hj => k1 j (by omega)) (k1 k (by omega))
  obtain ⟨⟨p0, p1⟩, p2⟩ := hf.2 (k : Int) (by omega) (by omega)
  rw [show ((k : Int)).toNat = k by omega] at p2
  exact ⟨cv v (k : Int), p0, p1, (hS.2 _ p0 (by omega)).mpr ⟨k, by omega, by omega, rfl⟩, by rw [p2]; exact k2, by rw [p2]; exact k3⟩⟩, fun q => q.1⟩))
set_option maxHeartbeats 4000000 in
set_option maxRecDepth 100000 in
theorem f_X5_passes (l : Launch) (hl : l.stackTraces = false) {kc km : Int} {h : dm_H} (hI : Inv kc km h) {b : Nat} (hb : isBk b) {s m : Int} {u w : List Value} (hC : CA b s m u w h) {F : Int → Int} (hr : Rep (cv u) (cv w) s F) (ht : Srt (cv u) s) {d : Int} {mv he : List Value} {n : Int} {v : List Value} {m2 : Int} {rv : List Value} (hT : TrS F u s d mv he n v m2 rv h) : dm_M l 49 5 0 0 [.ref 8, .ref b] h (QCh kc km h 13 (fun n v r => ∃ x : Int, x = 1 ∧ 0 ≤ x ∧ x ≤ 1 ∧ r = some (dI x))) := by
  obtain ⟨hTA, ⟨hA1, hf⟩, -⟩ := id hT
  obtain ⟨t1, t2, t3, t4, t5⟩ := id hTA
  have n0 := hA1.2.2.2.1
  have s0 := hC.2.2.2.2.2.1
  have s8 := hC.2.2.2.2.2.2.1
  have hok := CA_okf hC
  refine dm_M_of dk_49 hl rfl (Nat.le_of_ble_eq_true rfl) ?_
  show dm_W (fun _ _ _ => True) (dm_P (QCh kc km h 13 (fun n v r => ∃ x : Int, x = 1 ∧ 0 ≤ x ∧ x ≤ 1 ∧ r = some (dI x))) 0 0) l 49 5 0 0 0 [some (.ref 8), some (.ref b), none, none, none] [] h 0 0
  refine di_aload_n rfl rfl ?_
  refine dr_virt rfl rfl rfl rfl hC.1 (f_X0_isRising l hl hI hb hC ht) (by decide) (by decide) (by decide) (Nat.le_of_ble_eq_true rfl) kNP (kIP (fun y yf ya yb => ?_))
  have yf : y = 1 := yf
  subst yf
  refine di_if_ne rfl rfl (by omega) (by omega) (fun _ => ?_) (fun c9 => absurd c9 (by decide))
  refine di_const rfl ?_
  refine di_aload_n rfl rfl ?_
  refine dr_virt rfl rfl rfl rfl hC.1 (f_X0_count l hl hI hb hC) (by decide) (by decide) (by decide) (Nat.le_of_ble_eq_true rfl) kNP (kIP (fun y yf ya yb => ?_))
  obtain ⟨yc, yd, ye⟩ := yf
  have ye2 := ye.symm
  subst ye2
  refine di_shl8 rfl (by omega) (by omega) (fun z za zb ze => ?_)
  refine di_const rfl ?_
  refine di_isub rfl ?_
  refine di_istore_n (ls2 := [some (.ref 8), some (.ref b), some (dI (z - 1)), none, none]) rfl rfl rfl ?_
  refine di_const rfl ?_
  refine di_istore_n (ls2 := [some (.ref 8), some (.ref b), some (dI (z - 1)), some (dI (-1)), none]) rfl rfl rfl ?_
  refine di_const rfl ?_
  refine di_istore (ls2 := [some (.ref 8), some (.ref b), some (dI (z - 1)), some (dI (-1)), some (dI 0)]) rfl rfl rfl ?_
  have L : ∀ (k : Nat) (few t : Int), (256 - t).toNat < k → 0 ≤ t → t ≤ z → -1 ≤ few → few ≤ 8 → (0 < s → fwP u s few t) → dm_W (fun _ _ _ => True) (dm_P (QCh kc km h 13 (fun n v r => ∃ x : Int, x = 1 ∧ 0 ≤ x ∧ x ≤ 1 ∧ r = some (dI x))) 0 0) l 49 5 0 0 23 [some (.ref 8), some (.ref b), some (dI (z - 1)), some (dI few), some (dI t)] [] h 0 0 := by
    intro k
    induction k with
    | zero => intro few t hm; exact absurd hm (Nat.not_lt_zero _)
    | succ k ih =>
      intro few t hm t0 tz f0 f8 PW
      refine dr_iload rfl rfl ?_
      refine dr_iload_n rfl rfl ?_
      refine di_icmp_gt rfl rfl (by omega) (by omega) (by omega) (by omega) (fun c => ?_) (fun c => ?_)
      · have et : t = pwI s := by omega
        subst et
        refine di_aload_n rfl rfl ?_
        refine di_aload_n rfl rfl ?_
        refine dr_getf rfl t1 rfl ?_
        refine dr_virt rfl rfl rfl rfl hA1.1 (f_X1_asSet l hl hI ch_11 hA1 (fun j j0 j1 => by have := (hf.2 j j0 j1).1; omega)) (by decide) (by decide) (by decide) (Nat.le_of_ble_eq_true rfl) kNP (kIP (fun S Sf Sa Sb => ?_))
        have Sbd := Sf.1
        refine dr_virt rfl rfl rfl rfl hC.1 (f_X0_holdingEndsOf l hl hI hb hC (a1 := S) (by omega) (by omega)) (by decide) (by decide) (by decide) (Nat.le_of_ble_eq_true rfl) kNP (kIP (fun H Hf Ha Hb => ?_))
        obtain ⟨Hc, Hd, Hk⟩ := Hf
        have eH := hc_al hr ht hok s8 hf n0 Sf Hk
        refine dr_iload_n rfl rfl ?_
        refine di_icmp_ne rfl rfl (by omega) (by omega) (by omega) (by omega) (fun c2 => ?_) (fun c2 => ?_)
        · omega
        refine di_aload_n rfl rfl ?_
        refine di_aload_n rfl rfl ?_
        refine dr_virt rfl rfl rfl rfl t1 (f_X5_areRoomsTrue l hl hI hb hC hr hT) (by decide) (by decide) (by decide) (Nat.le_of_ble_eq_true rfl) kNP (kIP (fun y yf ya yb => ?_))
        have yf : y = 1 := yf
        subst yf
        refine di_if_eq rfl rfl (by omega) (by omega) (fun c9 => absurd c9 (by decide)) (fun _ => ?_)
        refine di_aload_n rfl rfl ?_
        refine di_aload_n rfl rfl ?_
        refine dr_iload_n rfl rfl ?_
        refine dr_virt rfl rfl rfl rfl t1 (f_X5_areLinksTrue l hl hI hb hC hr ht hTA (a2 := few) f0 f8 PW) (by decide) (by decide) (by decide) (Nat.le_of_ble_eq_true rfl) kChN (kChI (Φ := fun n v x => x = 1) (fun h2 hI2 hK n3 v3 x hA3 xf xa xb => ?_))
        subst xf
        refine di_if_eq rfl rfl (by omega) (by omega) (fun c9 => absurd c9 (by decide)) (fun _ => ?_)
        refine di_const rfl ?_
        refine dr_goto rfl rfl ?_
        exact dr_iret (ty := .boolean) rfl rfl (nar_z (by omega) (by omega)) (by decide) (by decide) ⟨hI2, hK, n3, v3, hA3, 1, rfl, by omega, by omega, rfl⟩
      refine di_aload_n rfl rfl ?_
      refine di_aload_n rfl rfl ?_
      refine dr_iload rfl rfl ?_
      refine dr_iload_n rfl rfl ?_
      refine dr_virt rfl rfl rfl rfl t1 (f_X5_isSetTrue l hl hI hb hC hr ht hT (A := t) t0 (by omega) (a3 := z - 1) (by omega)) (by decide) (by decide) (by decide) (Nat.le_of_ble_eq_true rfl) kNP (kIP (fun y yf ya yb => ?_))
      have yf : y = 1 := yf
      subst yf
      refine di_if_ne rfl rfl (by omega) (by omega) (fun _ => ?_) (fun c9 => absurd c9 (by decide))
      refine di_aload_n rfl rfl ?_
      refine di_aload_n rfl rfl ?_
      refine dr_iload rfl rfl ?_
      have t255 : t ≤ 255 := by omega
      have bt := bb_8 (s := t) t0 t255
      have bn := bb_nn t 8
      refine dr_virt rfl rfl rfl rfl t1 (f_X5_doesCover l hl hI hb hC ht (a2 := t) t0 t255) (by decide) (by decide) (by decide) (Nat.le_of_ble_eq_true rfl) kNP (kIP (fun y yf ya yb => ?_))
      obtain ⟨⟨yc, yd⟩, yk⟩ := yf
      have nx : ∀ few2 : Int, -1 ≤ few2 → few2 ≤ 8 → (0 < s → fwP u s few2 (t + 1)) → dm_W (fun _ _ _ => True) (dm_P (QCh kc km h 13 (fun n v r => ∃ x : Int, x = 1 ∧ 0 ≤ x ∧ x ≤ 1 ∧ r = some (dI x))) 0 0) l 49 5 0 0 72 [some (.ref 8), some (.ref b), some (dI (z - 1)), some (dI few2), some (dI t)] [] h 0 0 := by
        intro few2 q0 q1 qw
        refine di_iinc (ls2 := [some (.ref 8), some (.ref b), some (dI (z - 1)), some (dI few2), some (dI (t + 1))]) rfl rfl rfl rfl ?_
        refine dr_goto rfl rfl ?_
        exact ih few2 (t + 1) (by omega) (by omega) (by omega) q0 q1 qw
      have tk : (few = -1 ∨ bb t 8 < few) → y = 1 → dm_W (fun _ _ _ => True) (dm_P (QCh kc km h 13 (fun n v r => ∃ x : Int, x = 1 ∧ 0 ≤ x ∧ x ≤ 1 ∧ r = some (dI x))) 0 0) l 49 5 0 0 66 [some (.ref 8), some (.ref b), some (dI (z - 1)), some (dI few), some (dI t)] [] h 0 0 := by
        intro c3 y1
        refine dr_iload rfl rfl ?_
        refine dr_stat rfl rfl rfl rfl (f_bitCount l hl (a0 := t) t0 t255) (by decide) (by decide) (by decide) (Nat.le_of_ble_eq_true rfl) kNP (kIP (fun x xf xa xb => ?_))
        have xf : x = bb t 8 := xf
        refine di_istore_n (ls2 := [some (.ref 8), some (.ref b), some (dI (z - 1)), some (dI x), some (dI t)]) rfl rfl rfl ?_
        exact nx x (by omega) (by omega) (fun q => fw_y (PW q) t0 ⟨bn, bt⟩ ((yk q).mp y1) c3 xf)
      refine di_if_eq rfl rfl (by omega) (by omega) (fun c2 => ?_) (fun c2 => ?_)
      · exact nx few f0 f8 (fun q => fw_n (PW q) (fun hc => by have := (yk q).mpr hc; omega))
      refine dr_iload_n rfl rfl ?_
      refine di_const rfl ?_
      refine di_icmp_eq rfl rfl (by omega) (by omega) (by omega) (by omega) (fun c3 => ?_) (fun c3 => ?_)
      · exact tk (Or.inl c3) (by omega)
      refine dr_iload rfl rfl ?_
      refine dr_stat rfl rfl rfl rfl (f_bitCount l hl (a0 := t) t0 t255) (by decide) (by decide) (by decide) (Nat.le_of_ble_eq_true rfl) kNP (kIP (fun x xf xa xb => ?_))
      have xf : x = bb t 8 := xf
      refine dr_iload_n rfl rfl ?_
      refine di_icmp_ge rfl rfl (by omega) (by omega) (by omega) (by omega) (fun c4 => ?_) (fun c4 => ?_)
      · exact nx few f0 f8 (fun q => fw_k (PW q) c3 (by omega))
      · exact tk (Or.inr (by omega)) (by omega)
  exact L _ (-1) 0 (Nat.lt_succ_self _) (by omega) (by omega) (by omega) (by omega) (fun _ => fw_0)
