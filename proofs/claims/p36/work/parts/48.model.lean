/-! ===== copy ===== -/
set_option maxHeartbeats 4000000 in
set_option maxRecDepth 100000 in
/-- EarlyendsModel.copy -/
theorem n_X8_copy_s (l : Launch) (hl : l.stackTraces = false) {kc km : Int} {h : dm_H} (hI : Inv kc km h) {th : Int} {σ : St} (hM : MSt km th σ h) {a1 : Int} (h1a : -2147483648 ≤ a1) (h1b : a1 ≤ 2147483647) : dm_M l 154 8 0 0 [.ref 26, dI (a1), dI (a1)] h (QM9 kc km h (spCopy σ a1 a1)) := by
  obtain ⟨⟨ni, c26, ni0, ni1⟩, ⟨⟨R1, R2⟩, ⟨R3, R4⟩, ⟨R5, R6⟩, ⟨R7, R8⟩, ⟨R9, R10⟩, ⟨R11, R12⟩, R13⟩, ⟨th0, th1⟩, -⟩ := id hM
  have R14 : σ.2.2.2.2.2.1 = -1 ∨ (0 ≤ σ.2.2.2.2.2.1 ∧ σ.2.2.2.2.2.1 ≤ 9999 ∧ σ.2.2.2.2.2.1 % 100 ≤ σ.2.2.2.2.2.1 / 100) := R13
  refine dm_M_of dk_154 hl rfl (Nat.le_of_ble_eq_true rfl) ?_
  show dm_W (fun _ _ _ => True) (dm_P (QM9 kc km h (spCopy σ a1 a1)) 0 0) l 154 8 0 0 0 [some (.ref 26), some (dI (a1)), some (dI (a1)), none] [] h 0 0
  refine di_aload_n rfl rfl ?_
  refine dr_iload_n rfl rfl ?_
  refine dr_stat rfl rfl rfl rfl (f_X8_isNoBook l hl hI (a0 := a1) (by omega) (by omega)) (by decide) (by decide) (by decide) (Nat.le_of_ble_eq_true rfl) kNP (kIP (fun y1 y1f y1a y1b => ?_))
  have y1g : 0 ≤ y1 ∧ y1 ≤ 1 ∧ (y1 = 0 → 0 ≤ a1 ∧ a1 ≤ 2) ∧ (y1 = 1 → a1 < 0 ∨ 2 < a1) := y1f
  clear y1f
  refine di_if_ne rfl rfl (by omega) (by omega) (fun c2 => ?_) (fun c2 => ?_)
  · skip
    refine di_const rfl ?_
    refine dr_goto rfl rfl ?_
    refine di_const rfl ?_
    refine dr_virt rfl rfl rfl rfl c26 (f_X8_start1 l hl hI hM (a2 := 1) (by omega) (by omega)) (by decide) (by decide) (by decide) (Nat.le_of_ble_eq_true rfl) kNQN (kNQ (fun h3 hI4 hF5 hM6 => ?_))
    have hF7 := FrM_tr FrM_rf hF5
    refine di_if_eq rfl rfl (by omega) (by omega) (fun c9 => by exfalso; omega) (fun _ => ?_)
    refine di_const rfl ?_
    exact dr_iret (ty := .int) rfl rfl rfl (by decide) (by decide) (QM_no (x := 0) hI4 hF7 hM6 (by omega) (by omega) (by omega) (by unfold spCopy; (repeat' split) <;> first | rfl | (exfalso; omega) | (apply Prod.ext <;> first | rfl | (dsimp only; omega) | (apply Prod.ext <;> first | rfl | (dsimp only; omega)))))
  · skip
    refine dr_iload_n rfl rfl ?_
    refine dr_stat rfl rfl rfl rfl (f_X8_isNoBook l hl hI (a0 := a1) (by omega) (by omega)) (by decide) (by decide) (by decide) (Nat.le_of_ble_eq_true rfl) kNP (kIP (fun y8 y8f y8a y8b => ?_))
    have y8g : 0 ≤ y8 ∧ y8 ≤ 1 ∧ (y8 = 0 → 0 ≤ a1 ∧ a1 ≤ 2) ∧ (y8 = 1 → a1 < 0 ∨ 2 < a1) := y8f
    clear y8f
    refine di_if_eq rfl rfl (by omega) (by omega) (fun c10 => ?_) (fun c10 => ?_)
    · skip
      refine di_const rfl ?_
      refine di_const rfl ?_
      refine dr_virt rfl rfl rfl rfl c26 (f_X8_start0 l hl hI hM (a2 := 1) (by omega) (by omega)) (by decide) (by decide) (by decide) (Nat.le_of_ble_eq_true rfl) kNQN (kNQ (fun h11 hI12 hF13 hM14 => ?_))
      have hF15 := FrM_tr FrM_rf hF13
      refine di_if_eq rfl rfl (by omega) (by omega) (fun _ => ?_) (fun c9 => by exfalso; omega)
      obtain ⟨r16, q17, u18, w19, us20, er21, eq22, hu23, hw24, au25, aw26, hs27, as28, hr29, sa30, sb31⟩ := MSt_bk hM14 (k := a1) (by omega) (by omega)
      have hz32 : zF (σ.1 a1) = cv us20 a1 := zF_eq hr29
      have mr33 : isCR r16 := isCR_of er21 (by omega) (by omega)
      have mq34 : isNR q17 := isNR_of eq22 (by omega) (by omega)
      refine di_aload_n rfl rfl ?_
      obtain ⟨⟨ni35, ni35c, ni35a, ni35b⟩, -⟩ := id hM14
      refine dr_getf rfl ni35c rfl ?_
      refine dr_iload_n rfl rfl ?_
      refine di_aload_n rfl rfl ?_
      refine dr_getf rfl ni35c rfl ?_
      refine dr_iload_n rfl rfl ?_
      refine di_iald rfl hs27 as28 (by omega) (by omega) (fun x36 x36f x36a x36b x36v => ?_)
      have x36w : cv us20 a1 = x36 := cv_eq x36v x36a x36b
      have x36g : 0 ≤ x36 ∧ x36 ≤ 8 := x36f
      refine paX rfl hs27 as28 (by omega) (by omega) ⟨by omega, by omega⟩ (by omega) (by omega) hI12 (by decide) (fun us9 hu9 => T37_sz hu9) (fun h37 us39 hI38 hk40 hc41 ha42 st43 => ?_)
      have hc44 := (hk40.2 r16 (by omega)).trans hu23
      have hc45 := (hk40.2 q17 (by omega)).trans hw24
      have hc46 := (hk40.2 26 (by omega)).trans ni35c
      have hA47 := FrA_tr FrA_rf (FrA_I (r := r16) (q := q17) hk40 (by omega) (by omega) (by omega))
      have ce9 : cv us39 a1 = cv us20 a1 := (stt_at st43 (by omega)).trans x36w.symm
      refine di_const rfl ?_
      refine di_istore_n (ls2 := [some (.ref 26), some (dI (a1)), some (dI (a1)), some (dI (0))]) rfl rfl rfl ?_
      have L49 : ∀ (n : Nat) (i48 : Int) (h50 : dm_H) (uv53 : List Value) (uv56 : List Value), (8 - i48).toNat < n → 0 ≤ i48 → i48 ≤ 8 → i48 ≤ cv us20 a1 → Inv kc km h50 → FrA r16 q17 h11 h50 → h50[26]? = some (10, [.ref 27, .ref 31, .ref 35, dI (0), dI (ni35), dI (km), dI (σ.2.1.1), dI (σ.2.1.2.1), dI (σ.2.1.2.2), dI (σ.2.2.1), dI (σ.2.2.2.1), dI (σ.2.2.2.2.1), dI (σ.2.2.2.2.2.1)]) → h50[r16]? = some (20, uv53) → arr 8 okC uv53 → h50[q17]? = some (20, uv56) → arr 8 anyI uv56 → h50[35]? = some (20, us39) → (∀ j9 : Int, 0 ≤ j9 → cv uv53 j9 = cv u18 j9) → (∀ j9 : Int, 0 ≤ j9 → cv uv56 j9 = cv w19 j9) → dm_W (fun _ _ _ => True) (dm_P (QM9 kc km h (spCopy σ a1 a1)) 0 0) l 154 8 0 0 43 [some (.ref 26), some (dI (a1)), some (dI (a1)), some (dI (i48))] [] h50 0 0 := by
        intro n
        induction n with
        | zero => intro i48 h50 uv53 uv56 hm; exact absurd hm (Nat.not_lt_zero _)
        | succ n ih =>
          intro i48 h50 uv53 uv56 hm64 hb60 hb61 hx62 hI51 hE52 hc63 hc54 ha55 hc57 ha58 hc59 PU PW
          have ihL49 := ih
          clear ih
          refine dr_iload_n rfl rfl ?_
          refine di_aload_n rfl rfl ?_
          refine dr_getf rfl hc63 rfl ?_
          refine dr_iload_n rfl rfl ?_
          refine di_iald rfl hc59 ha42 (by omega) (by omega) (fun x65 x65f x65a x65b x65v => ?_)
          have x65w : cv us39 a1 = x65 := cv_eq x65v x65a x65b
          have x65g : 0 ≤ x65 ∧ x65 ≤ 8 := x65f
          refine di_icmp_ge rfl rfl (by omega) (by omega) (by omega) (by omega) (fun c66 => ?_) (fun c66 => ?_)
          · skip
            refine di_aload_n rfl rfl ?_
            refine dr_iload_n rfl rfl ?_
            have hM67 : MSt km 0 (stN σ a1 (σ.1 a1)) h50 := MSt_rows hM14 (by omega) (by omega) er21 eq22 hE52.2 (ni' := ni35) hc63 ⟨by omega, by omega⟩ hs27 hc59 hc54 hc57 ha55 ha58 ha42 (fun i i0 i1 ne => stt_ne st43 i0 ne) (by rw [ce9]; exact Rep_cg hr29 (fun j j0 _ => PU j j0) (fun j j0 _ => PW j j0))
            refine dr_virt rfl rfl rfl rfl hc63 (n_X8_touch l hl hI51 hM67 (a1 := a1) (by omega) (by omega)) (by decide) (by decide) (by decide) (Nat.le_of_ble_eq_true rfl) kNQVN (kNQV (fun h68 hI69 hF70 hM71 => ?_))
            have hF72 := FrM_tr (FrM_tr hF15 hE52.1) hF70
            obtain ⟨r73, q74, u75, w76, us77, er78, eq79, hu80, hw81, au82, aw83, hs84, as85, hr86, sa87, sb88⟩ := MSt_bk hM71 (k := a1) (by omega) (by omega)
            have hz89 : zF ((stT (stN σ a1 (σ.1 a1)) a1).1 a1) = cv us77 a1 := zF_eq hr86
            have mr90 : isCR r73 := isCR_of er78 (by omega) (by omega)
            have mq91 : isNR q74 := isNR_of eq79 (by omega) (by omega)
            have hz9 : zF (σ.1 a1) = cv us77 a1 := zF_eq (by have q9 := hr86; rw [show (stT (stN σ a1 (σ.1 a1)) a1).1 a1 = (σ.1 a1) from if_pos rfl] at q9; exact q9)
            refine di_aload_n rfl rfl ?_
            obtain ⟨⟨ni92, ni92c, ni92a, ni92b⟩, -⟩ := id hM71
            have sr93 : sR (stT (stN σ a1 (σ.1 a1)) a1) := hM71.2.1
            have sr94 : 0 ≤ (stT (stN σ a1 (σ.1 a1)) a1).2.2.2.1 ∧ (stT (stN σ a1 (σ.1 a1)) a1).2.2.2.1 ≤ 1 := sr93.2.2.2.2.1
            have hc95 : h68[26]? = some (10, [.ref 27, .ref 31, .ref 35, dI 0, dI ni92, dI km, dI σ.2.1.1, dI σ.2.1.2.1, dI σ.2.1.2.2, dI σ.2.2.1, dI ((stT (stN σ a1 (σ.1 a1)) a1).2.2.2.1), dI σ.2.2.2.2.1, dI σ.2.2.2.2.2.1]) := ni92c
            refine dr_getf rfl hc95 rfl ?_
            refine dr_iload_n rfl rfl ?_
            refine di_icmp_ne rfl rfl (by omega) (by omega) (by omega) (by omega) (fun c96 => ?_) (fun c96 => ?_)
            · skip
              refine di_aload_n rfl rfl ?_
              refine dr_getf rfl hc95 rfl ?_
              refine dr_iload_n rfl rfl ?_
              refine di_iald rfl hs84 as85 (by omega) (by omega) (fun x97 x97f x97a x97b x97v => ?_)
              have x97w : cv us77 a1 = x97 := cv_eq x97v x97a x97b
              have x97g : 0 ≤ x97 ∧ x97 ≤ 8 := x97f
              exact dr_iret (ty := .int) rfl rfl rfl (by decide) (by decide) (QM_ok hI69 hF72 hM71 (by omega) (by omega) (by unfold spCopy; (repeat' split) <;> first | rfl | (exfalso; omega) | (apply Prod.ext <;> first | rfl | (dsimp only; omega) | (apply Prod.ext <;> first | rfl | (dsimp only; omega)))))
            · skip
              refine di_aload_n rfl rfl ?_
              refine di_const rfl ?_
              refine pfX rfl hc95 (Nat.le_of_ble_eq_true rfl) rfl hI69 (by decide) (T37_md (by omega) (by omega) (by omega) (by omega) (by omega) (by omega) (by omega) (by omega) (by first | assumption | omega)) (fun h98 hI99 hk100 hc101 => ?_)
              have hc102 := (hk100.2 r73 (by omega)).trans hu80
              have hc103 := (hk100.2 q74 (by omega)).trans hw81
              have hc104 := (hk100.2 35 (by omega)).trans hs84
              have hF105 := FrM_tr hF72 (FrM_I hk100 (by omega) (by omega))
              have hM106 : MSt km 0 ((stT (stN σ a1 (σ.1 a1)) a1).1, ((-1), σ.2.1.2.1, σ.2.1.2.2), (σ.2.2.1, ((stT (stN σ a1 (σ.1 a1)) a1).2.2.2.1), σ.2.2.2.2.1, σ.2.2.2.2.2.1, σ.2.2.2.2.2.2)) h98 := MSt_md hM71 hk100 (ni' := ni92) hc101 rfl ⟨⟨(show (-1 : Int) ≤ (-1) by omega), (show (-1) ≤ (2 : Int) by omega)⟩, ⟨(show (-1 : Int) ≤ σ.2.1.2.1 by omega), (show σ.2.1.2.1 ≤ (99 : Int) by omega)⟩, ⟨(show (-1 : Int) ≤ σ.2.1.2.2 by omega), (show σ.2.1.2.2 ≤ (99 : Int) by omega)⟩, ⟨(show (-1 : Int) ≤ σ.2.2.1 by omega), (show σ.2.2.1 ≤ (2 : Int) by omega)⟩, ⟨(show (0 : Int) ≤ ((stT (stN σ a1 (σ.1 a1)) a1).2.2.2.1) by omega), (show ((stT (stN σ a1 (σ.1 a1)) a1).2.2.2.1) ≤ (1 : Int) by omega)⟩, ⟨(show (-1 : Int) ≤ σ.2.2.2.2.1 by omega), (show σ.2.2.2.2.1 ≤ (9999 : Int) by omega)⟩, (show σ.2.2.2.2.2.1 = -1 ∨ okC σ.2.2.2.2.2.1 by first | assumption | exact Or.inl rfl | exact Or.inr ⟨by omega, by omega, by omega⟩ | exact (by omega : σ.2.2.2.2.2.1 = -1 ∨ (0 ≤ σ.2.2.2.2.2.1 ∧ σ.2.2.2.2.2.1 ≤ 9999 ∧ σ.2.2.2.2.2.1 % 100 ≤ σ.2.2.2.2.2.1 / 100)))⟩ ⟨by omega, by omega⟩ ⟨by omega, by omega, ni92b.2⟩
              refine di_aload_n rfl rfl ?_
              refine dr_getf rfl hc101 rfl ?_
              refine dr_iload_n rfl rfl ?_
              refine di_iald rfl hc104 as85 (by omega) (by omega) (fun x107 x107f x107a x107b x107v => ?_)
              have x107w : cv us77 a1 = x107 := cv_eq x107v x107a x107b
              have x107g : 0 ≤ x107 ∧ x107 ≤ 8 := x107f
              exact dr_iret (ty := .int) rfl rfl rfl (by decide) (by decide) (QM_ok hI99 hF105 hM106 (by omega) (by omega) (by unfold spCopy; (repeat' split) <;> first | rfl | (exfalso; omega) | (apply Prod.ext <;> first | rfl | (dsimp only; omega) | (apply Prod.ext <;> first | rfl | (dsimp only; omega)))))
          · skip
            refine di_aload_n rfl rfl ?_
            refine dr_getf rfl hc63 rfl ?_
            refine dr_iload_n rfl rfl ?_
            have hc108 := I_mcs hI51
            refine paaE (k0 := 28) er21 rfl hc108 (by omega) (by omega) ?_
            refine dr_iload_n rfl rfl ?_
            refine di_aload_n rfl rfl ?_
            refine dr_getf rfl hc63 rfl ?_
            refine dr_iload_n rfl rfl ?_
            refine paaE (k0 := 28) er21 rfl hc108 (by omega) (by omega) ?_
            refine dr_iload_n rfl rfl ?_
            refine di_iald rfl hc54 ha55 (by omega) (by omega) (fun x109 x109f x109a x109b x109v => ?_)
            have x109w : cv uv53 i48 = x109 := cv_eq x109v x109a x109b
            have x109g : 0 ≤ x109 ∧ x109 ≤ 9999 ∧ x109 % 100 ≤ x109 / 100 := x109f
            refine paX rfl hc54 ha55 (by omega) (by omega) ⟨by omega, by omega, by omega⟩ (by omega) (by omega) hI51 (lt_cr mr33) (fun us9 hu9 => T37_cr mr33 hu9) (fun h110 us112 hI111 hk113 hc114 ha115 st116 => ?_)
            have hc117 := (hk113.2 26 (by omega)).trans hc63
            have hc118 := (hk113.2 q17 (by omega)).trans hc57
            have hc119 := (hk113.2 35 (by omega)).trans hc59
            have hc120 := (hk113.2 27 (by omega)).trans hc108
            have hA121 := FrA_tr hE52 (FrA_I (r := r16) (q := q17) hk113 (by omega) (by omega) (by omega))
            refine di_aload_n rfl rfl ?_
            refine dr_getf rfl hc117 rfl ?_
            refine dr_iload_n rfl rfl ?_
            have hc122 := I_mns hI111
            refine paaE (k0 := 32) eq22 rfl hc122 (by omega) (by omega) ?_
            refine dr_iload_n rfl rfl ?_
            refine di_aload_n rfl rfl ?_
            refine dr_getf rfl hc117 rfl ?_
            refine dr_iload_n rfl rfl ?_
            refine paaE (k0 := 32) eq22 rfl hc122 (by omega) (by omega) ?_
            refine dr_iload_n rfl rfl ?_
            refine di_iald rfl hc118 ha58 (by omega) (by omega) (fun x123 x123f x123a x123b x123v => ?_)
            have x123w : cv uv56 i48 = x123 := cv_eq x123v x123a x123b
            refine paX rfl hc118 ha58 (by omega) (by omega) trivial (by omega) (by omega) hI111 (lt_nr mq34) (fun us9 hu9 => T37_nr mq34 hu9) (fun h124 us126 hI125 hk127 hc128 ha129 st130 => ?_)
            have hc131 := (hk127.2 26 (by omega)).trans hc117
            have hc132 := (hk127.2 35 (by omega)).trans hc119
            have hc133 := (hk127.2 27 (by omega)).trans hc120
            have hc134 := (hk127.2 r16 (by omega)).trans hc114
            have hc135 := (hk127.2 31 (by omega)).trans hc122
            have hA136 := FrA_tr hA121 (FrA_I (r := r16) (q := q17) hk127 (by omega) (by omega) (by omega))
            refine di_iinc (ls2 := [some (.ref 26), some (dI (a1)), some (dI (a1)), some (dI ((i48 + 1)))]) rfl rfl rfl rfl ?_
            refine dr_goto rfl rfl ?_
            exact ihL49 ((i48 + 1)) h124 (us112) (us126) (by omega) (by omega) (by omega) (by omega) hI125 hA136 hc131 hc134 ha115 hc128 ha129 hc132 (fun j9 j0 => (nt_same st116 j0 x109w).trans (PU j9 j0)) (fun j9 j0 => (nt_same st130 j0 x123w).trans (PW j9 j0))
      exact L49 _ (0) h37 (u18) (w19) (Nat.lt_succ_self _) (by omega) (by omega) (by omega) hI38 hA47 hc46 hc44 au25 hc45 aw26 hc41 (fun _ _ => rfl) (fun _ _ => rfl)
    · skip
      refine di_const rfl ?_
      refine dr_goto rfl rfl ?_
      refine di_const rfl ?_
      refine dr_virt rfl rfl rfl rfl c26 (f_X8_start1 l hl hI hM (a2 := 1) (by omega) (by omega)) (by decide) (by decide) (by decide) (Nat.le_of_ble_eq_true rfl) kNQN (kNQ (fun h137 hI138 hF139 hM140 => ?_))
      have hF141 := FrM_tr FrM_rf hF139
      refine di_if_eq rfl rfl (by omega) (by omega) (fun c9 => by exfalso; omega) (fun _ => ?_)
      refine di_const rfl ?_
      exact dr_iret (ty := .int) rfl rfl rfl (by decide) (by decide) (QM_no (x := 0) hI138 hF141 hM140 (by omega) (by omega) (by omega) (by unfold spCopy; (repeat' split) <;> first | rfl | (exfalso; omega) | (apply Prod.ext <;> first | rfl | (dsimp only; omega) | (apply Prod.ext <;> first | rfl | (dsimp only; omega)))))
set_option maxHeartbeats 4000000 in
set_option maxRecDepth 100000 in
/-- EarlyendsModel.copy -/
theorem n_X8_copy_d (l : Launch) (hl : l.stackTraces = false) {kc km : Int} {h : dm_H} (hI : Inv kc km h) {th : Int} {σ : St} (hM : MSt km th σ h) {a1 : Int} (h1a : -2147483648 ≤ a1) (h1b : a1 ≤ 2147483647) {a2 : Int} (h2a : -2147483648 ≤ a2) (h2b : a2 ≤ 2147483647) (hne : a1 ≠ a2) : dm_M l 154 8 0 0 [.ref 26, dI (a1), dI (a2)] h (QM9 kc km h (spCopy σ a1 a2)) := by
  obtain ⟨⟨ni, c26, ni0, ni1⟩, ⟨⟨R1, R2⟩, ⟨R3, R4⟩, ⟨R5, R6⟩, ⟨R7, R8⟩, ⟨R9, R10⟩, ⟨R11, R12⟩, R13⟩, ⟨th0, th1⟩, -⟩ := id hM
  have R14 : σ.2.2.2.2.2.1 = -1 ∨ (0 ≤ σ.2.2.2.2.2.1 ∧ σ.2.2.2.2.2.1 ≤ 9999 ∧ σ.2.2.2.2.2.1 % 100 ≤ σ.2.2.2.2.2.1 / 100) := R13
  refine dm_M_of dk_154 hl rfl (Nat.le_of_ble_eq_true rfl) ?_
  show dm_W (fun _ _ _ => True) (dm_P (QM9 kc km h (spCopy σ a1 a2)) 0 0) l 154 8 0 0 0 [some (.ref 26), some (dI (a1)), some (dI (a2)), none] [] h 0 0
  refine di_aload_n rfl rfl ?_
  refine dr_iload_n rfl rfl ?_
  refine dr_stat rfl rfl rfl rfl (f_X8_isNoBook l hl hI (a0 := a1) (by omega) (by omega)) (by decide) (by decide) (by decide) (Nat.le_of_ble_eq_true rfl) kNP (kIP (fun y1 y1f y1a y1b => ?_))
  have y1g : 0 ≤ y1 ∧ y1 ≤ 1 ∧ (y1 = 0 → 0 ≤ a1 ∧ a1 ≤ 2) ∧ (y1 = 1 → a1 < 0 ∨ 2 < a1) := y1f
  clear y1f
  refine di_if_ne rfl rfl (by omega) (by omega) (fun c2 => ?_) (fun c2 => ?_)
  · skip
    refine di_const rfl ?_
    refine dr_goto rfl rfl ?_
    refine di_const rfl ?_
    refine dr_virt rfl rfl rfl rfl c26 (f_X8_start1 l hl hI hM (a2 := 1) (by omega) (by omega)) (by decide) (by decide) (by decide) (Nat.le_of_ble_eq_true rfl) kNQN (kNQ (fun h3 hI4 hF5 hM6 => ?_))
    have hF7 := FrM_tr FrM_rf hF5
    refine di_if_eq rfl rfl (by omega) (by omega) (fun c9 => by exfalso; omega) (fun _ => ?_)
    refine di_const rfl ?_
    exact dr_iret (ty := .int) rfl rfl rfl (by decide) (by decide) (QM_no (x := 0) hI4 hF7 hM6 (by omega) (by omega) (by omega) (by unfold spCopy; (repeat' split) <;> first | rfl | (exfalso; omega) | (apply Prod.ext <;> first | rfl | (dsimp only; omega) | (apply Prod.ext <;> first | rfl | (dsimp only; omega)))))
  · skip
    refine dr_iload_n rfl rfl ?_
    refine dr_stat rfl rfl rfl rfl (f_X8_isNoBook l hl hI (a0 := a2) (by omega) (by omega)) (by decide) (by decide) (by decide) (Nat.le_of_ble_eq_true rfl) kNP (kIP (fun y8 y8f y8a y8b => ?_))
    have y8g : 0 ≤ y8 ∧ y8 ≤ 1 ∧ (y8 = 0 → 0 ≤ a2 ∧ a2 ≤ 2) ∧ (y8 = 1 → a2 < 0 ∨ 2 < a2) := y8f
    clear y8f
    refine di_if_eq rfl rfl (by omega) (by omega) (fun c10 => ?_) (fun c10 => ?_)
    · skip
      refine di_const rfl ?_
      refine di_const rfl ?_
      refine dr_virt rfl rfl rfl rfl c26 (f_X8_start0 l hl hI hM (a2 := 1) (by omega) (by omega)) (by decide) (by decide) (by decide) (Nat.le_of_ble_eq_true rfl) kNQN (kNQ (fun h11 hI12 hF13 hM14 => ?_))
      have hF15 := FrM_tr FrM_rf hF13
      refine di_if_eq rfl rfl (by omega) (by omega) (fun _ => ?_) (fun c9 => by exfalso; omega)
      obtain ⟨r16, q17, u18, w19, us20, er21, eq22, hu23, hw24, au25, aw26, hs27, as28, hr29, sa30, sb31⟩ := MSt_bk hM14 (k := a1) (by omega) (by omega)
      have hz32 : zF (σ.1 a1) = cv us20 a1 := zF_eq hr29
      have mr33 : isCR r16 := isCR_of er21 (by omega) (by omega)
      have mq34 : isNR q17 := isNR_of eq22 (by omega) (by omega)
      obtain ⟨r35, q36, u37, w38, us39, er40, eq41, hu42, hw43, au44, aw45, hs46, as47, hr48, sa49, sb50⟩ := MSt_bk hM14 (k := a2) (by omega) (by omega)
      have es51 := some20 hs27 hs46
      subst es51
      have hz52 : zF (σ.1 a2) = cv us20 a2 := zF_eq hr48
      have mr53 : isCR r35 := isCR_of er40 (by omega) (by omega)
      have mq54 : isNR q36 := isNR_of eq41 (by omega) (by omega)
      refine di_aload_n rfl rfl ?_
      obtain ⟨⟨ni55, ni55c, ni55a, ni55b⟩, -⟩ := id hM14
      refine dr_getf rfl ni55c rfl ?_
      refine dr_iload_n rfl rfl ?_
      refine di_aload_n rfl rfl ?_
      refine dr_getf rfl ni55c rfl ?_
      refine dr_iload_n rfl rfl ?_
      refine di_iald rfl hs46 as47 (by omega) (by omega) (fun x56 x56f x56a x56b x56v => ?_)
      have x56w : cv us20 a2 = x56 := cv_eq x56v x56a x56b
      have x56g : 0 ≤ x56 ∧ x56 ≤ 8 := x56f
      refine paX rfl hs46 as47 (by omega) (by omega) ⟨by omega, by omega⟩ (by omega) (by omega) hI12 (by decide) (fun us9 hu9 => T37_sz hu9) (fun h57 us59 hI58 hk60 hc61 ha62 st63 => ?_)
      have hc64 := (hk60.2 r16 (by omega)).trans hu23
      have hc65 := (hk60.2 q17 (by omega)).trans hw24
      have hc66 := (hk60.2 r35 (by omega)).trans hu42
      have hc67 := (hk60.2 q36 (by omega)).trans hw43
      have hc68 := (hk60.2 26 (by omega)).trans ni55c
      have hA69 := FrA_tr FrA_rf (FrA_I (r := r16) (q := q17) hk60 (by omega) (by omega) (by omega))
      have ce9 : cv us59 a2 = cv us20 a2 := stt_ne st63 (by omega) (by omega)
      have cf9 : cv us59 a1 = cv us20 a2 := (stt_at st63 (by omega)).trans x56w.symm
      refine di_const rfl ?_
      refine di_istore_n (ls2 := [some (.ref 26), some (dI (a1)), some (dI (a2)), some (dI (0))]) rfl rfl rfl ?_
      have L71 : ∀ (n : Nat) (i70 : Int) (h72 : dm_H) (uv75 : List Value) (uv78 : List Value), (8 - i70).toNat < n → 0 ≤ i70 → i70 ≤ 8 → i70 ≤ cv us20 a2 → Inv kc km h72 → FrA r16 q17 h11 h72 → h72[26]? = some (10, [.ref 27, .ref 31, .ref 35, dI (0), dI (ni55), dI (km), dI (σ.2.1.1), dI (σ.2.1.2.1), dI (σ.2.1.2.2), dI (σ.2.2.1), dI (σ.2.2.2.1), dI (σ.2.2.2.2.1), dI (σ.2.2.2.2.2.1)]) → h72[r16]? = some (20, uv75) → arr 8 okC uv75 → h72[q17]? = some (20, uv78) → arr 8 anyI uv78 → h72[r35]? = some (20, u37) → h72[q36]? = some (20, w38) → h72[35]? = some (20, us59) → isCp u37 uv75 i70 → isCp w38 uv78 i70 → dm_W (fun _ _ _ => True) (dm_P (QM9 kc km h (spCopy σ a1 a2)) 0 0) l 154 8 0 0 43 [some (.ref 26), some (dI (a1)), some (dI (a2)), some (dI (i70))] [] h72 0 0 := by
        intro n
        induction n with
        | zero => intro i70 h72 uv75 uv78 hm; exact absurd hm (Nat.not_lt_zero _)
        | succ n ih =>
          intro i70 h72 uv75 uv78 hm88 hb84 hb85 hx86 hI73 hE74 hc87 hc76 ha77 hc79 ha80 hc81 hc82 hc83 PU PW
          have ihL71 := ih
          clear ih
          refine dr_iload_n rfl rfl ?_
          refine di_aload_n rfl rfl ?_
          refine dr_getf rfl hc87 rfl ?_
          refine dr_iload_n rfl rfl ?_
          refine di_iald rfl hc83 ha62 (by omega) (by omega) (fun x89 x89f x89a x89b x89v => ?_)
          have x89w : cv us59 a2 = x89 := cv_eq x89v x89a x89b
          have x89g : 0 ≤ x89 ∧ x89 ≤ 8 := x89f
          refine di_icmp_ge rfl rfl (by omega) (by omega) (by omega) (by omega) (fun c90 => ?_) (fun c90 => ?_)
          · skip
            refine di_aload_n rfl rfl ?_
            refine dr_iload_n rfl rfl ?_
            have hM91 : MSt km 0 (stN σ a1 (σ.1 a2)) h72 := MSt_rows hM14 (by omega) (by omega) er21 eq22 hE74.2 (ni' := ni55) hc87 ⟨by omega, by omega⟩ hs27 hc83 hc76 hc79 ha77 ha80 ha62 (fun i i0 i1 ne => stt_ne st63 i0 ne) (by rw [cf9]; exact Rep_cg hr48 (fun j j0 j1 => PU j j0 (by omega)) (fun j j0 j1 => PW j j0 (by omega)))
            refine dr_virt rfl rfl rfl rfl hc87 (n_X8_touch l hl hI73 hM91 (a1 := a1) (by omega) (by omega)) (by decide) (by decide) (by decide) (Nat.le_of_ble_eq_true rfl) kNQVN (kNQV (fun h92 hI93 hF94 hM95 => ?_))
            have hF96 := FrM_tr (FrM_tr hF15 hE74.1) hF94
            obtain ⟨r97, q98, u99, w100, us101, er102, eq103, hu104, hw105, au106, aw107, hs108, as109, hr110, sa111, sb112⟩ := MSt_bk hM95 (k := a1) (by omega) (by omega)
            have hz113 : zF ((stT (stN σ a1 (σ.1 a2)) a1).1 a1) = cv us101 a1 := zF_eq hr110
            have mr114 : isCR r97 := isCR_of er102 (by omega) (by omega)
            have mq115 : isNR q98 := isNR_of eq103 (by omega) (by omega)
            have hz9 : zF (σ.1 a2) = cv us101 a1 := zF_eq (by have q9 := hr110; rw [show (stT (stN σ a1 (σ.1 a2)) a1).1 a1 = (σ.1 a2) from if_pos rfl] at q9; exact q9)
            refine di_aload_n rfl rfl ?_
            obtain ⟨⟨ni116, ni116c, ni116a, ni116b⟩, -⟩ := id hM95
            have sr117 : sR (stT (stN σ a1 (σ.1 a2)) a1) := hM95.2.1
            have sr118 : 0 ≤ (stT (stN σ a1 (σ.1 a2)) a1).2.2.2.1 ∧ (stT (stN σ a1 (σ.1 a2)) a1).2.2.2.1 ≤ 1 := sr117.2.2.2.2.1
            have hc119 : h92[26]? = some (10, [.ref 27, .ref 31, .ref 35, dI 0, dI ni116, dI km, dI σ.2.1.1, dI σ.2.1.2.1, dI σ.2.1.2.2, dI σ.2.2.1, dI ((stT (stN σ a1 (σ.1 a2)) a1).2.2.2.1), dI σ.2.2.2.2.1, dI σ.2.2.2.2.2.1]) := ni116c
            refine dr_getf rfl hc119 rfl ?_
            refine dr_iload_n rfl rfl ?_
            refine di_icmp_ne rfl rfl (by omega) (by omega) (by omega) (by omega) (fun c120 => ?_) (fun c120 => ?_)
            · skip
              refine di_aload_n rfl rfl ?_
              refine dr_getf rfl hc119 rfl ?_
              refine dr_iload_n rfl rfl ?_
              refine di_iald rfl hs108 as109 (by omega) (by omega) (fun x121 x121f x121a x121b x121v => ?_)
              have x121w : cv us101 a1 = x121 := cv_eq x121v x121a x121b
              have x121g : 0 ≤ x121 ∧ x121 ≤ 8 := x121f
              exact dr_iret (ty := .int) rfl rfl rfl (by decide) (by decide) (QM_ok hI93 hF96 hM95 (by omega) (by omega) (by unfold spCopy; (repeat' split) <;> first | rfl | (exfalso; omega) | (apply Prod.ext <;> first | rfl | (dsimp only; omega) | (apply Prod.ext <;> first | rfl | (dsimp only; omega)))))
            · skip
              refine di_aload_n rfl rfl ?_
              refine di_const rfl ?_
              refine pfX rfl hc119 (Nat.le_of_ble_eq_true rfl) rfl hI93 (by decide) (T37_md (by omega) (by omega) (by omega) (by omega) (by omega) (by omega) (by omega) (by omega) (by first | assumption | omega)) (fun h122 hI123 hk124 hc125 => ?_)
              have hc126 := (hk124.2 r97 (by omega)).trans hu104
              have hc127 := (hk124.2 q98 (by omega)).trans hw105
              have hc128 := (hk124.2 35 (by omega)).trans hs108
              have hF129 := FrM_tr hF96 (FrM_I hk124 (by omega) (by omega))
              have hM130 : MSt km 0 ((stT (stN σ a1 (σ.1 a2)) a1).1, ((-1), σ.2.1.2.1, σ.2.1.2.2), (σ.2.2.1, ((stT (stN σ a1 (σ.1 a2)) a1).2.2.2.1), σ.2.2.2.2.1, σ.2.2.2.2.2.1, σ.2.2.2.2.2.2)) h122 := MSt_md hM95 hk124 (ni' := ni116) hc125 rfl ⟨⟨(show (-1 : Int) ≤ (-1) by omega), (show (-1) ≤ (2 : Int) by omega)⟩, ⟨(show (-1 : Int) ≤ σ.2.1.2.1 by omega), (show σ.2.1.2.1 ≤ (99 : Int) by omega)⟩, ⟨(show (-1 : Int) ≤ σ.2.1.2.2 by omega), (show σ.2.1.2.2 ≤ (99 : Int) by omega)⟩, ⟨(show (-1 : Int) ≤ σ.2.2.1 by omega), (show σ.2.2.1 ≤ (2 : Int) by omega)⟩, ⟨(show (0 : Int) ≤ ((stT (stN σ a1 (σ.1 a2)) a1).2.2.2.1) by omega), (show ((stT (stN σ a1 (σ.1 a2)) a1).2.2.2.1) ≤ (1 : Int) by omega)⟩, ⟨(show (-1 : Int) ≤ σ.2.2.2.2.1 by omega), (show σ.2.2.2.2.1 ≤ (9999 : Int) by omega)⟩, (show σ.2.2.2.2.2.1 = -1 ∨ okC σ.2.2.2.2.2.1 by first | assumption | exact Or.inl rfl | exact Or.inr ⟨by omega, by omega, by omega⟩ | exact (by omega : σ.2.2.2.2.2.1 = -1 ∨ (0 ≤ σ.2.2.2.2.2.1 ∧ σ.2.2.2.2.2.1 ≤ 9999 ∧ σ.2.2.2.2.2.1 % 100 ≤ σ.2.2.2.2.2.1 / 100)))⟩ ⟨by omega, by omega⟩ ⟨by omega, by omega, ni116b.2⟩
              refine di_aload_n rfl rfl ?_
              refine dr_getf rfl hc125 rfl ?_
              refine dr_iload_n rfl rfl ?_
              refine di_iald rfl hc128 as109 (by omega) (by omega) (fun x131 x131f x131a x131b x131v => ?_)
              have x131w : cv us101 a1 = x131 := cv_eq x131v x131a x131b
              have x131g : 0 ≤ x131 ∧ x131 ≤ 8 := x131f
              exact dr_iret (ty := .int) rfl rfl rfl (by decide) (by decide) (QM_ok hI123 hF129 hM130 (by omega) (by omega) (by unfold spCopy; (repeat' split) <;> first | rfl | (exfalso; omega) | (apply Prod.ext <;> first | rfl | (dsimp only; omega) | (apply Prod.ext <;> first | rfl | (dsimp only; omega)))))
          · skip
            refine di_aload_n rfl rfl ?_
            refine dr_getf rfl hc87 rfl ?_
            refine dr_iload_n rfl rfl ?_
            have hc132 := I_mcs hI73
            refine paaE (k0 := 28) er21 rfl hc132 (by omega) (by omega) ?_
            refine dr_iload_n rfl rfl ?_
            refine di_aload_n rfl rfl ?_
            refine dr_getf rfl hc87 rfl ?_
            refine dr_iload_n rfl rfl ?_
            refine paaE (k0 := 28) er40 rfl hc132 (by omega) (by omega) ?_
            refine dr_iload_n rfl rfl ?_
            refine di_iald rfl hc81 au44 (by omega) (by omega) (fun x133 x133f x133a x133b x133v => ?_)
            have x133w : cv u37 i70 = x133 := cv_eq x133v x133a x133b
            have x133g : 0 ≤ x133 ∧ x133 ≤ 9999 ∧ x133 % 100 ≤ x133 / 100 := x133f
            refine paX rfl hc76 ha77 (by omega) (by omega) ⟨by omega, by omega, by omega⟩ (by omega) (by omega) hI73 (lt_cr mr33) (fun us9 hu9 => T37_cr mr33 hu9) (fun h134 us136 hI135 hk137 hc138 ha139 st140 => ?_)
            have hc141 := (hk137.2 26 (by omega)).trans hc87
            have hc142 := (hk137.2 q17 (by omega)).trans hc79
            have hc143 := (hk137.2 r35 (by omega)).trans hc81
            have hc144 := (hk137.2 q36 (by omega)).trans hc82
            have hc145 := (hk137.2 35 (by omega)).trans hc83
            have hc146 := (hk137.2 27 (by omega)).trans hc132
            have hA147 := FrA_tr hE74 (FrA_I (r := r16) (q := q17) hk137 (by omega) (by omega) (by omega))
            refine di_aload_n rfl rfl ?_
            refine dr_getf rfl hc141 rfl ?_
            refine dr_iload_n rfl rfl ?_
            have hc148 := I_mns hI135
            refine paaE (k0 := 32) eq22 rfl hc148 (by omega) (by omega) ?_
            refine dr_iload_n rfl rfl ?_
            refine di_aload_n rfl rfl ?_
            refine dr_getf rfl hc141 rfl ?_
            refine dr_iload_n rfl rfl ?_
            refine paaE (k0 := 32) eq41 rfl hc148 (by omega) (by omega) ?_
            refine dr_iload_n rfl rfl ?_
            refine di_iald rfl hc144 aw45 (by omega) (by omega) (fun x149 x149f x149a x149b x149v => ?_)
            have x149w : cv w38 i70 = x149 := cv_eq x149v x149a x149b
            refine paX rfl hc142 ha80 (by omega) (by omega) trivial (by omega) (by omega) hI135 (lt_nr mq34) (fun us9 hu9 => T37_nr mq34 hu9) (fun h150 us152 hI151 hk153 hc154 ha155 st156 => ?_)
            have hc157 := (hk153.2 26 (by omega)).trans hc141
            have hc158 := (hk153.2 r35 (by omega)).trans hc143
            have hc159 := (hk153.2 q36 (by omega)).trans hc144
            have hc160 := (hk153.2 35 (by omega)).trans hc145
            have hc161 := (hk153.2 27 (by omega)).trans hc146
            have hc162 := (hk153.2 r16 (by omega)).trans hc138
            have hc163 := (hk153.2 31 (by omega)).trans hc148
            have hA164 := FrA_tr hA147 (FrA_I (r := r16) (q := q17) hk153 (by omega) (by omega) (by omega))
            refine di_iinc (ls2 := [some (.ref 26), some (dI (a1)), some (dI (a2)), some (dI ((i70 + 1)))]) rfl rfl rfl rfl ?_
            refine dr_goto rfl rfl ?_
            exact ihL71 ((i70 + 1)) h150 (us136) (us152) (by omega) (by omega) (by omega) (by omega) hI151 hA164 hc157 hc162 ha139 hc154 ha155 hc158 hc159 hc160 (isCp_s PU st140 x133w) (isCp_s PW st156 x149w)
      exact L71 _ (0) h57 (u18) (w19) (Nat.lt_succ_self _) (by omega) (by omega) (by omega) hI58 hA69 hc68 hc64 au25 hc65 aw26 hc66 hc67 hc61 isCp_0 isCp_0
    · skip
      refine di_const rfl ?_
      refine dr_goto rfl rfl ?_
      refine di_const rfl ?_
      refine dr_virt rfl rfl rfl rfl c26 (f_X8_start1 l hl hI hM (a2 := 1) (by omega) (by omega)) (by decide) (by decide) (by decide) (Nat.le_of_ble_eq_true rfl) kNQN (kNQ (fun h165 hI166 hF167 hM168 => ?_))
      have hF169 := FrM_tr FrM_rf hF167
      refine di_if_eq rfl rfl (by omega) (by omega) (fun c9 => by exfalso; omega) (fun _ => ?_)
      refine di_const rfl ?_
      exact dr_iret (ty := .int) rfl rfl rfl (by decide) (by decide) (QM_no (x := 0) hI166 hF169 hM168 (by omega) (by omega) (by omega) (by unfold spCopy; (repeat' split) <;> first | rfl | (exfalso; omega) | (apply Prod.ext <;> first | rfl | (dsimp only; omega) | (apply Prod.ext <;> first | rfl | (dsimp only; omega)))))
theorem n_X8_copy (l : Launch) (hl : l.stackTraces = false) {kc km : Int} {h : dm_H} (hI : Inv kc km h) {th : Int} {σ : St} (hM : MSt km th σ h) {a1 : Int} (h1a : -2147483648 ≤ a1) (h1b : a1 ≤ 2147483647) {a2 : Int} (h2a : -2147483648 ≤ a2) (h2b : a2 ≤ 2147483647) : dm_M l 154 8 0 0 [.ref 26, dI (a1), dI (a2)] h (QM9 kc km h (spCopy σ a1 a2)) := by
  by_cases e : a1 = a2
  · subst e; exact n_X8_copy_s l hl hI hM h1a h1b
  · exact n_X8_copy_d l hl hI hM h1a h1b h2a h2b e
/-! ===== the class's calls that ask: books, part and hand stay ===== -/
def FQ (h h' : dm_H) : Prop := Ext h h' ∧ ∀ j : Nat, 0 ≤ j → j ≤ 3 ∨ 17 ≤ j → j ≤ 36 → h'[j]? = h[j]?
theorem FQ_rf {h : dm_H} : FQ h h := ⟨Ext_rf, fun _ _ _ _ => rfl⟩
def QSQ (kc km : Int) (h : dm_H) (R : Option Value → Prop) (X : List String) : dm_Rs := fun r h' => Inv kc km h' ∧ FQ h h' ∧ match r with
  | .inl v => R v
  | .inr e => e ∈ X
section QSQR
variable {E : dm_Ex} {P : dm_Po} {l : Launch} {z d MC MS pc ce sl : Nat} {ls : List (Option Value)} {st : List Value} {h : dm_H} {kc km : Int} {X : List String}
theorem kXPSq {R R2 : Option Value → Prop} {X2 : List String} {h0 : dm_H} (hh : (dm_m z).2.2.2.2 = []) (hc : ce ≤ MC) (hs : sl ≤ MS) (hI : Inv kc km h) (hE : FQ h0 h) (hX : ∀ Y ∈ X2, Y ∈ X) : ∀ (Y : String) (h1 : dm_H), QP h R2 X2 (.inr Y) h1 → dm_T9 E (dm_P (QSQ kc km h0 R X) MC MS) l z d MC MS Y pc ls h1 ce sl := fun Y h1 q => dr_out hh hc hs (by rw [q.1]; exact ⟨hI, hE, hX Y q.2⟩)
end QSQR
/-! ===== the class's texts: books, part and hand stay ===== -/
theorem FQ_App {kc km : Int} {h h' : dm_H} (hI : Inv kc km h) (a : App h h') : FQ h h' := ⟨App_Ext a, fun j x y z => a.2 j (by have := Inv_len hI; omega)⟩

set_option maxHeartbeats 4000000 in
set_option maxRecDepth 100000 in
/-- Earlyends.text -/
theorem q_X6_text (l : Launch) (hl : l.stackTraces = false) {kc km : Int} {h : dm_H} (hI : Inv kc km h) {a1 : Int} (h1a : -2147483648 ≤ a1) (h1b : a1 ≤ 2147483647) {a2 : Int} (h2a : 0 ≤ a2) (h2b : a2 ≤ 1) : dm_M l 87 8 59 22030 [.ref 0, dI (a1), dI (a2)] h (QSQ kc km h RO [XB]) := by
  refine dm_M_of dk_87 hl rfl (Nat.le_of_ble_eq_true rfl) ?_
  show dm_W (fun _ _ _ => True) (dm_P (QSQ kc km h RO [XB]) 59 22030) l 87 8 59 22030 0 [some (.ref 0), some (dI (a1)), some (dI (a2)), none] [] h 0 0
  refine di_aload_n rfl rfl ?_
  refine dr_iload_n rfl rfl ?_
  obtain ⟨r_1, c2, c3, hc4⟩ := I_cls hI
  refine dr_virt rfl rfl rfl rfl hc4 (s_X6_bookAt l hl hI (a1 := a1) (by omega) (by omega)) (by decide) (by decide) (by decide) (Nat.le_of_ble_eq_true rfl) (kXPSq rfl (by decide) (by decide) hI FQ_rf (by decide)) (kRP (fun r5 hr5 => ?_))
  obtain ⟨hr5, hr5p⟩ := hr5
  have hr5p : 0 ≤ (a1) ∧ (a1) ≤ 2 := hr5p
  refine di_astore_n (ls2 := [some (.ref 0), some (dI (a1)), some (dI (a2)), some (.ref r5)]) rfl rfl rfl ?_
  refine di_aload_n rfl rfl ?_
  refine di_const rfl ?_
  refine di_aload_n rfl rfl ?_
  obtain ⟨s_6, m_9, c7, c8, c10, c11, hc12⟩ := I_bk hI (p := r5) hr5
  refine dr_virt rfl rfl rfl rfl hc12 (s_X0_count l hl hI (b0 := r5) hr5 (s0 := s_6) (m0 := m_9) hc12 (by omega) (by omega) (by omega) (by omega)) (by decide) (by decide) (by decide) (Nat.le_of_ble_eq_true rfl) kNP (kIP (fun y13 y13f y13a y13b => ?_))
  have y13g : 0 ≤ y13 ∧ y13 ≤ 8 ∧ y13 = (s_6) := y13f
  refine dr_iload_n rfl rfl ?_
  refine dr_virt rfl rfl rfl rfl hc12 (s_X0_tell l hl hI (b0 := r5) hr5 (a1 := 0) (by omega) (by omega) (a2 := y13) (by omega) (by omega) (a3 := a2) (by omega) (by omega)) (by decide) (by decide) (by decide) (Nat.le_of_ble_eq_true rfl) kAN (kAS (fun h14 hA15 p16 => ?_))
  have hc17 := App_at hA15 hc4
  have hc18 := App_at hA15 hc12
  have hI19 := App_Inv hA15 hI
  have hE20 := FQ_App hI hA15
  exact dr_aret rfl rfl (Or.inl ⟨_, rfl⟩) (Or.inl ⟨_, rfl⟩) (by decide) (by decide) ⟨hI19, hE20, _, rfl, (Or.inl ⟨_, rfl⟩)⟩
set_option maxHeartbeats 4000000 in
set_option maxRecDepth 100000 in
/-- Earlyends.partText -/
theorem q_X6_partText (l : Launch) (hl : l.stackTraces = false) {kc km : Int} {h : dm_H} (hI : Inv kc km h)  : dm_M l 75 8 59 22030 [.ref 0] h (QSQ kc km h RO [XS]) := by
  refine dm_M_of dk_75 hl rfl (Nat.le_of_ble_eq_true rfl) ?_
  show dm_W (fun _ _ _ => True) (dm_P (QSQ kc km h RO [XS]) 59 22030) l 75 8 59 22030 0 [some (.ref 0), none] [] h 0 0
  refine di_aload_n rfl rfl ?_
  obtain ⟨r_1, c2, c3, hc4⟩ := I_cls hI
  refine dr_virt rfl rfl rfl rfl hc4 (s_X6_bookOfPart l hl hI ) (by decide) (by decide) (by decide) (Nat.le_of_ble_eq_true rfl) (kXPSq rfl (by decide) (by decide) hI FQ_rf (by decide)) (kRP (fun r5 hr5 => ?_))
  refine di_astore_n (ls2 := [some (.ref 0), some (.ref r5)]) rfl rfl rfl ?_
  refine di_aload_n rfl rfl ?_
  refine di_aload_n rfl rfl ?_
  refine dr_getf rfl hc4 rfl ?_
  refine di_aload_n rfl rfl ?_
  obtain ⟨b_6, lo_9, hi_12, c7, c8, c10, c11, c13, c14, hc15⟩ := I_part hI
  refine dr_virt rfl rfl rfl rfl hc15 (s_X4_startIn l hl hI (b1 := r5) hr5) (by decide) (by decide) (by decide) (Nat.le_of_ble_eq_true rfl) kNP (kIP (fun y16 y16f y16a y16b => ?_))
  have y16g : 0 ≤ y16 ∧ y16 ≤ 8 := y16f
  refine di_aload_n rfl rfl ?_
  refine dr_getf rfl hc4 rfl ?_
  refine di_aload_n rfl rfl ?_
  refine dr_virt rfl rfl rfl rfl hc15 (s_X4_endIn l hl hI (b1 := r5) hr5) (by decide) (by decide) (by decide) (Nat.le_of_ble_eq_true rfl) kNP (kIP (fun y17 y17f y17a y17b => ?_))
  have y17g : 0 ≤ y17 ∧ y17 ≤ 8 := y17f
  refine di_const rfl ?_
  obtain ⟨s_18, m_21, c19, c20, c22, c23, hc24⟩ := I_bk hI (p := r5) hr5
  refine dr_virt rfl rfl rfl rfl hc24 (s_X0_tell l hl hI (b0 := r5) hr5 (a1 := y16) (by omega) (by omega) (a2 := y17) (by omega) (by omega) (a3 := 0) (by omega) (by omega)) (by decide) (by decide) (by decide) (Nat.le_of_ble_eq_true rfl) kAN (kAS (fun h25 hA26 p27 => ?_))
  have hc28 := App_at hA26 hc4
  have hc29 := App_at hA26 hc15
  have hc30 := App_at hA26 hc24
  have hI31 := App_Inv hA26 hI
  have hE32 := FQ_App hI hA26
  exact dr_aret rfl rfl (Or.inl ⟨_, rfl⟩) (Or.inl ⟨_, rfl⟩) (by decide) (by decide) ⟨hI31, hE32, _, rfl, (Or.inl ⟨_, rfl⟩)⟩
/-! ===== asking calls, their answers told ===== -/
noncomputable def spHas (σ : St) (b f t : Int) : Int × Int × St := if b < 0 ∨ 2 < b then (1, 0, σ) else if f < 0 ∨ t < f ∨ 99 < t then (2, 0, σ) else (0, if σ.1 b (100 * t + f) ≠ -1 then 1 else 0, σ)
noncomputable def spNoteOf (σ : St) (b f t x : Int) : Int × Int × St := if b < 0 ∨ 2 < b then (1, 0, σ) else if (f < 0 ∨ t < f ∨ 99 < t) ∨ (x < -1 ∨ 99 < x) then (2, 0, σ) else (0, if σ.1 b (100 * t + f) ≠ -1 then σ.1 b (100 * t + f) else x, σ)

set_option maxHeartbeats 4000000 in
set_option maxRecDepth 100000 in
/-- Earlyends.has -/
theorem c_X6_has (l : Launch) (hl : l.stackTraces = false) {kc km : Int} {h : dm_H} (hI : Inv kc km h) {B : Int} {σ : St} (hS : CSt B σ h) (hB : B ≤ 80000) {a1 : Int} (h1a : -2147483648 ≤ a1) (h1b : a1 ≤ 2147483647) {a2 : Int} (h2a : -2147483648 ≤ a2) (h2b : a2 ≤ 2147483647) {a3 : Int} (h3a : -2147483648 ≤ a3) (h3b : a3 ≤ 2147483647) : dm_M l 82 6 8 48 [.ref 0, dI (a1), dI (a2), dI (a3)] h (QX kc km h B XB XA (spHas σ a1 a2 a3)) := by
  refine dm_M_of dk_82 hl rfl (Nat.le_of_ble_eq_true rfl) ?_
  show dm_W (fun _ _ _ => True) (dm_P (QX kc km h B XB XA (spHas σ a1 a2 a3)) 8 48) l 82 6 8 48 0 [some (.ref 0), some (dI (a1)), some (dI (a2)), some (dI (a3)), none] [] h 0 0
  refine di_aload_n rfl rfl ?_
  refine dr_iload_n rfl rfl ?_
  obtain ⟨r1, c2, c3, hc4⟩ := I_cls hI
  refine dr_virt rfl rfl rfl rfl hc4 (f_X6_bookAt l hl hI (a1 := a1) (by omega) (by omega)) (by decide) (by decide) (by decide) (Nat.le_of_ble_eq_true rfl) (fun Y h9 q9 => by obtain ⟨rfl, rfl, hC⟩ := q9; exact dr_out rfl (by decide) (by decide) (QX_1 (a := 0) hI FrC_rf hS (by omega) (by unfold spHas; (repeat' split) <;> first | rfl | (exfalso; omega) | (apply Prod.ext <;> first | rfl | (dsimp only; omega) | (apply Prod.ext <;> first | rfl | (dsimp only; omega)))))) (kPXR (fun r5 ⟨q6, q7, q8, q10⟩ => ?_))
  refine di_astore (ls2 := [some (.ref 0), some (dI (a1)), some (dI (a2)), some (dI (a3)), some (.ref r5)]) rfl rfl rfl ?_
  refine di_aload rfl rfl ?_
  refine dr_iload_n rfl rfl ?_
  refine dr_iload_n rfl rfl ?_
  refine dr_stat rfl rfl rfl rfl (f_X6_codeOfSpan l hl hI (a0 := a2) (by omega) (by omega) (a1 := a3) (by omega) (by omega)) (by decide) (by decide) (by decide) (Nat.le_of_ble_eq_true rfl) (fun Y h9 q9 => by obtain ⟨rfl, rfl, hC⟩ := q9; exact dr_out rfl (by decide) (by decide) (QX_2 (a := 0) hI FrC_rf hS (by omega) (by unfold spHas; (repeat' split) <;> first | rfl | (exfalso; omega) | (apply Prod.ext <;> first | rfl | (dsimp only; omega) | (apply Prod.ext <;> first | rfl | (dsimp only; omega)))))) (kPXI (fun y11 ⟨q12, q13, q14, q15⟩ => ?_))
  subst q12
  obtain ⟨s16, m17, u18, w19, hc20, hr21, ht22, ma23, mb24⟩ := CSt_bk hS (k := a1) q8 q10 q7
  have sq25 : 0 ≤ s16 ∧ s16 ≤ 8 := ⟨hc20.2.2.2.2.2.1, hc20.2.2.2.2.2.2.1⟩
  have hz26 : zF (σ.1 a1) = s16 := zF_eq hr21
  refine dr_virt rfl rfl rfl rfl hc20.1 (f_X0_rankOf l hl hI q6 hc20 (a1 := (100 * a3 + a2)) (by omega) (by omega) hr21 ht22) (by decide) (by decide) (by decide) (Nat.le_of_ble_eq_true rfl) kNP (kIP (fun y27 y27f y27a y27b => ?_))
  obtain ⟨y27c, y27d, y27k⟩ := y27f
  refine di_const rfl ?_
  refine di_icmp_eq rfl rfl (by omega) (by omega) (by omega) (by omega) (fun c28 => ?_) (fun c28 => ?_)
  · skip
    have hFn29 := rkp_n y27k (by omega)
    refine di_const rfl ?_
    exact dr_iret (ty := .boolean) rfl rfl (nar_z (by omega) (by omega)) (by decide) (by decide) (QX_ok hI FrC_rf hS (by omega) (by unfold spHas; (repeat' split) <;> first | rfl | (exfalso; omega) | (apply Prod.ext <;> first | rfl | (dsimp only; omega) | (apply Prod.ext <;> first | rfl | (dsimp only; omega)))))
  · skip
    have hFy31 := rkp_y hr21 y27k (by omega)
    have hri30 := rkp_in y27k (by omega)
    refine di_const rfl ?_
    refine dr_goto rfl rfl ?_
    exact dr_iret (ty := .boolean) rfl rfl (nar_z (by omega) (by omega)) (by decide) (by decide) (QX_ok hI FrC_rf hS (by omega) (by unfold spHas; (repeat' split) <;> first | rfl | (exfalso; omega) | (apply Prod.ext <;> first | rfl | (dsimp only; omega) | (apply Prod.ext <;> first | rfl | (dsimp only; omega)))))
set_option maxHeartbeats 4000000 in
set_option maxRecDepth 100000 in
/-- Earlyends.noteOf -/
theorem c_X6_noteOf (l : Launch) (hl : l.stackTraces = false) {kc km : Int} {h : dm_H} (hI : Inv kc km h) {B : Int} {σ : St} (hS : CSt B σ h) (hB : B ≤ 80000) {a1 : Int} (h1a : -2147483648 ≤ a1) (h1b : a1 ≤ 2147483647) {a2 : Int} (h2a : -2147483648 ≤ a2) (h2b : a2 ≤ 2147483647) {a3 : Int} (h3a : -2147483648 ≤ a3) (h3b : a3 ≤ 2147483647) {a4 : Int} (h4a : -2147483648 ≤ a4) (h4b : a4 ≤ 2147483647) : dm_M l 81 6 8 48 [.ref 0, dI (a1), dI (a2), dI (a3), dI (a4)] h (QX kc km h B XB XA (spNoteOf σ a1 a2 a3 a4)) := by
  refine dm_M_of dk_81 hl rfl (Nat.le_of_ble_eq_true rfl) ?_
  show dm_W (fun _ _ _ => True) (dm_P (QX kc km h B XB XA (spNoteOf σ a1 a2 a3 a4)) 8 48) l 81 6 8 48 0 [some (.ref 0), some (dI (a1)), some (dI (a2)), some (dI (a3)), some (dI (a4)), none, none, none] [] h 0 0
  refine di_aload_n rfl rfl ?_
  refine dr_iload_n rfl rfl ?_
  obtain ⟨r1, c2, c3, hc4⟩ := I_cls hI
  refine dr_virt rfl rfl rfl rfl hc4 (f_X6_bookAt l hl hI (a1 := a1) (by omega) (by omega)) (by decide) (by decide) (by decide) (Nat.le_of_ble_eq_true rfl) (fun Y h9 q9 => by obtain ⟨rfl, rfl, hC⟩ := q9; exact dr_out rfl (by decide) (by decide) (QX_1 (a := 0) hI FrC_rf hS (by omega) (by unfold spNoteOf; (repeat' split) <;> first | rfl | (exfalso; omega) | (apply Prod.ext <;> first | rfl | (dsimp only; omega) | (apply Prod.ext <;> first | rfl | (dsimp only; omega)))))) (kPXR (fun r5 ⟨q6, q7, q8, q10⟩ => ?_))
  refine di_astore (ls2 := [some (.ref 0), some (dI (a1)), some (dI (a2)), some (dI (a3)), some (dI (a4)), some (.ref r5), none, none]) rfl rfl rfl ?_
  refine dr_iload_n rfl rfl ?_
  refine dr_iload_n rfl rfl ?_
  refine dr_stat rfl rfl rfl rfl (f_X6_codeOfSpan l hl hI (a0 := a2) (by omega) (by omega) (a1 := a3) (by omega) (by omega)) (by decide) (by decide) (by decide) (Nat.le_of_ble_eq_true rfl) (fun Y h9 q9 => by obtain ⟨rfl, rfl, hC⟩ := q9; exact dr_out rfl (by decide) (by decide) (QX_2 (a := 0) hI FrC_rf hS (by omega) (by unfold spNoteOf; (repeat' split) <;> first | rfl | (exfalso; omega) | (apply Prod.ext <;> first | rfl | (dsimp only; omega) | (apply Prod.ext <;> first | rfl | (dsimp only; omega)))))) (kPXI (fun y11 ⟨q12, q13, q14, q15⟩ => ?_))
  subst q12
  refine di_istore (ls2 := [some (.ref 0), some (dI (a1)), some (dI (a2)), some (dI (a3)), some (dI (a4)), some (.ref r5), some (dI ((100 * a3 + a2))), none]) rfl rfl rfl ?_
  refine dr_iload rfl rfl ?_
  refine di_const rfl ?_
  refine di_icmp_eq rfl rfl (by omega) (by omega) (by omega) (by omega) (fun c16 => ?_) (fun c16 => ?_)
  · skip
    refine di_aload rfl rfl ?_
    refine dr_iload rfl rfl ?_
    obtain ⟨s17, m18, u19, w20, hc21, hr22, ht23, ma24, mb25⟩ := CSt_bk hS (k := a1) q8 q10 q7
    have sq26 : 0 ≤ s17 ∧ s17 ≤ 8 := ⟨hc21.2.2.2.2.2.1, hc21.2.2.2.2.2.2.1⟩
    have hz27 : zF (σ.1 a1) = s17 := zF_eq hr22
    refine dr_virt rfl rfl rfl rfl hc21.1 (f_X0_rankOf l hl hI q6 hc21 (a1 := (100 * a3 + a2)) (by omega) (by omega) hr22 ht23) (by decide) (by decide) (by decide) (Nat.le_of_ble_eq_true rfl) kNP (kIP (fun y28 y28f y28a y28b => ?_))
    obtain ⟨y28c, y28d, y28k⟩ := y28f
    refine di_istore (ls2 := [some (.ref 0), some (dI (a1)), some (dI (a2)), some (dI (a3)), some (dI (a4)), some (.ref r5), some (dI ((100 * a3 + a2))), some (dI (y28))]) rfl rfl rfl ?_
    refine dr_iload rfl rfl ?_
    refine di_const rfl ?_
    refine di_icmp_ne rfl rfl (by omega) (by omega) (by omega) (by omega) (fun c29 => ?_) (fun c29 => ?_)
    · skip
      have hFy31 := rkp_y hr22 y28k (by omega)
      have hri30 := rkp_in y28k (by omega)
      refine di_aload rfl rfl ?_
      refine dr_iload rfl rfl ?_
      refine dr_virt rfl rfl rfl rfl hc21.1 (f_X0_noteAt l hl hI q6 hc21 (a1 := y28) (by omega) (by omega)) (by decide) (by decide) (by decide) (Nat.le_of_ble_eq_true rfl) kNP (kIP (fun y32 y32f y32a y32b => ?_))
      obtain ⟨y32c, y32d, y32k, y32k2, y32k3⟩ := y32f
      have y32n : (σ.1 a1) (100 * a3 + a2) = y32 := rk_note hr22 y28k y32k y32k2 y32k3
      have y32q := Rep_ge hr22 (100 * a3 + a2)
      clear y32k y32k2 y32k3
      subst y32n
      exact dr_iret (ty := .int) rfl rfl rfl (by decide) (by decide) (QX_ok hI FrC_rf hS (by omega) (by unfold spNoteOf; (repeat' split) <;> first | rfl | (exfalso; omega) | (apply Prod.ext <;> first | rfl | (dsimp only; omega) | (apply Prod.ext <;> first | rfl | (dsimp only; omega)))))
    · skip
      have hFn33 := rkp_n y28k (by omega)
      refine dr_iload rfl rfl ?_
      refine dr_goto rfl rfl ?_
      exact dr_iret (ty := .int) rfl rfl rfl (by decide) (by decide) (QX_ok hI FrC_rf hS (by omega) (by unfold spNoteOf; (repeat' split) <;> first | rfl | (exfalso; omega) | (apply Prod.ext <;> first | rfl | (dsimp only; omega) | (apply Prod.ext <;> first | rfl | (dsimp only; omega)))))
  · skip
    refine dr_iload rfl rfl ?_
    refine dr_stat rfl rfl rfl rfl (f_X6_needNote l hl hI (a0 := a4) (by omega) (by omega)) (by decide) (by decide) (by decide) (Nat.le_of_ble_eq_true rfl) (fun Y h9 q9 => by obtain ⟨rfl, rfl, hC⟩ := q9; exact dr_out rfl (by decide) (by decide) (QX_2 (a := 0) hI FrC_rf hS (by omega) (by unfold spNoteOf; (repeat' split) <;> first | rfl | (exfalso; omega) | (apply Prod.ext <;> first | rfl | (dsimp only; omega) | (apply Prod.ext <;> first | rfl | (dsimp only; omega)))))) (kPXV (fun q34 => ?_))
    refine di_aload rfl rfl ?_
    refine dr_iload rfl rfl ?_
    obtain ⟨s35, m36, u37, w38, hc39, hr40, ht41, ma42, mb43⟩ := CSt_bk hS (k := a1) q8 q10 q7
    have sq44 : 0 ≤ s35 ∧ s35 ≤ 8 := ⟨hc39.2.2.2.2.2.1, hc39.2.2.2.2.2.2.1⟩
    have hz45 : zF (σ.1 a1) = s35 := zF_eq hr40
    refine dr_virt rfl rfl rfl rfl hc39.1 (f_X0_rankOf l hl hI q6 hc39 (a1 := (100 * a3 + a2)) (by omega) (by omega) hr40 ht41) (by decide) (by decide) (by decide) (Nat.le_of_ble_eq_true rfl) kNP (kIP (fun y46 y46f y46a y46b => ?_))
    obtain ⟨y46c, y46d, y46k⟩ := y46f
    refine di_istore (ls2 := [some (.ref 0), some (dI (a1)), some (dI (a2)), some (dI (a3)), some (dI (a4)), some (.ref r5), some (dI ((100 * a3 + a2))), some (dI (y46))]) rfl rfl rfl ?_
    refine dr_iload rfl rfl ?_
    refine di_const rfl ?_
    refine di_icmp_ne rfl rfl (by omega) (by omega) (by omega) (by omega) (fun c47 => ?_) (fun c47 => ?_)
    · skip
      have hFy49 := rkp_y hr40 y46k (by omega)
      have hri48 := rkp_in y46k (by omega)
      refine di_aload rfl rfl ?_
      refine dr_iload rfl rfl ?_
      refine dr_virt rfl rfl rfl rfl hc39.1 (f_X0_noteAt l hl hI q6 hc39 (a1 := y46) (by omega) (by omega)) (by decide) (by decide) (by decide) (Nat.le_of_ble_eq_true rfl) kNP (kIP (fun y50 y50f y50a y50b => ?_))
      obtain ⟨y50c, y50d, y50k, y50k2, y50k3⟩ := y50f
      have y50n : (σ.1 a1) (100 * a3 + a2) = y50 := rk_note hr40 y46k y50k y50k2 y50k3
      have y50q := Rep_ge hr40 (100 * a3 + a2)
      clear y50k y50k2 y50k3
      subst y50n
      exact dr_iret (ty := .int) rfl rfl rfl (by decide) (by decide) (QX_ok hI FrC_rf hS (by omega) (by unfold spNoteOf; (repeat' split) <;> first | rfl | (exfalso; omega) | (apply Prod.ext <;> first | rfl | (dsimp only; omega) | (apply Prod.ext <;> first | rfl | (dsimp only; omega)))))
    · skip
      have hFn51 := rkp_n y46k (by omega)
      refine dr_iload rfl rfl ?_
      refine dr_goto rfl rfl ?_
      exact dr_iret (ty := .int) rfl rfl rfl (by decide) (by decide) (QX_ok hI FrC_rf hS (by omega) (by unfold spNoteOf; (repeat' split) <;> first | rfl | (exfalso; omega) | (apply Prod.ext <;> first | rfl | (dsimp only; omega) | (apply Prod.ext <;> first | rfl | (dsimp only; omega)))))
set_option maxHeartbeats 4000000 in
set_option maxRecDepth 100000 in
/-- EarlyendsModel.has -/
theorem n_X8_has (l : Launch) (hl : l.stackTraces = false) {kc km : Int} {h : dm_H} (hI : Inv kc km h) {th : Int} {σ : St} (hM : MSt km th σ h) {a1 : Int} (h1a : -2147483648 ≤ a1) (h1b : a1 ≤ 2147483647) {a2 : Int} (h2a : -2147483648 ≤ a2) (h2b : a2 ≤ 2147483647) {a3 : Int} (h3a : -2147483648 ≤ a3) (h3b : a3 ≤ 2147483647) : dm_M l 175 8 0 0 [.ref 26, dI (a1), dI (a2), dI (a3)] h (QM9 kc km h (spHas σ a1 a2 a3)) := by
  obtain ⟨⟨ni, c26, ni0, ni1⟩, ⟨⟨R1, R2⟩, ⟨R3, R4⟩, ⟨R5, R6⟩, ⟨R7, R8⟩, ⟨R9, R10⟩, ⟨R11, R12⟩, R13⟩, ⟨th0, th1⟩, -⟩ := id hM
  have R14 : σ.2.2.2.2.2.1 = -1 ∨ (0 ≤ σ.2.2.2.2.2.1 ∧ σ.2.2.2.2.2.1 ≤ 9999 ∧ σ.2.2.2.2.2.1 % 100 ≤ σ.2.2.2.2.2.1 / 100) := R13
  refine dm_M_of dk_175 hl rfl (Nat.le_of_ble_eq_true rfl) ?_
  show dm_W (fun _ _ _ => True) (dm_P (QM9 kc km h (spHas σ a1 a2 a3)) 0 0) l 175 8 0 0 0 [some (.ref 26), some (dI (a1)), some (dI (a2)), some (dI (a3))] [] h 0 0
  refine di_aload_n rfl rfl ?_
  refine dr_iload_n rfl rfl ?_
  refine dr_stat rfl rfl rfl rfl (f_X8_isNoBook l hl hI (a0 := a1) (by omega) (by omega)) (by decide) (by decide) (by decide) (Nat.le_of_ble_eq_true rfl) kNP (kIP (fun y1 y1f y1a y1b => ?_))
  have y1g : 0 ≤ y1 ∧ y1 ≤ 1 ∧ (y1 = 0 → 0 ≤ a1 ∧ a1 ≤ 2) ∧ (y1 = 1 → a1 < 0 ∨ 2 < a1) := y1f
  clear y1f
  refine di_const rfl ?_
  rcases (by omega : y1 = 0 ∨ y1 = 1) with ey2 | ey2
  · skip
    rw [ey2]
    refine dr_virt rfl rfl rfl rfl c26 (f_X8_start0 l hl hI hM (a2 := 1) (by omega) (by omega)) (by decide) (by decide) (by decide) (Nat.le_of_ble_eq_true rfl) kNQN (kNQ (fun h3 hI4 hF5 hM6 => ?_))
    have hF7 := FrM_tr FrM_rf hF5
    refine di_if_ne rfl rfl (by omega) (by omega) (fun c9 => by exfalso; omega) (fun _ => ?_)
    refine di_aload_n rfl rfl ?_
    refine dr_iload_n rfl rfl ?_
    refine dr_iload_n rfl rfl ?_
    refine dr_stat rfl rfl rfl rfl (f_X8_isNoSpan l hl hI4 (a0 := a2) (by omega) (by omega) (a1 := a3) (by omega) (by omega)) (by decide) (by decide) (by decide) (Nat.le_of_ble_eq_true rfl) kNP (kIP (fun y8 y8f y8a y8b => ?_))
    have y8g : 0 ≤ y8 ∧ y8 ≤ 1 ∧ (y8 = 0 → 0 ≤ a2 ∧ a2 ≤ a3 ∧ a3 ≤ 99) ∧ (y8 = 1 → a2 < 0 ∨ a3 < a2 ∨ 99 < a3) := y8f
    clear y8f
    refine di_const rfl ?_
    obtain ⟨⟨ni10, ni10c, ni10a, ni10b⟩, -⟩ := id hM6
    rcases (by omega : y8 = 0 ∨ y8 = 1) with ey11 | ey11
    · skip
      rw [ey11]
      refine dr_virt rfl rfl rfl rfl ni10c (f_X8_refuse0 l hl hI4 hM6 (a2 := 2) (by omega) (by omega)) (by decide) (by decide) (by decide) (Nat.le_of_ble_eq_true rfl) kNQN (kNQ (fun h12 hI13 hF14 hM15 => ?_))
      have hF16 := FrM_tr hF7 hF14
      refine di_if_eq rfl rfl (by omega) (by omega) (fun _ => ?_) (fun c9 => by exfalso; omega)
      refine di_aload_n rfl rfl ?_
      refine dr_iload_n rfl rfl ?_
      refine di_bipush rfl (by decide) ?_
      refine dr_iload_n rfl rfl ?_
      refine di_imul rfl ?_
      refine dr_iload_n rfl rfl ?_
      refine di_iadd rfl ?_
      obtain ⟨⟨ni17, ni17c, ni17a, ni17b⟩, -⟩ := id hM15
      obtain ⟨r18, q19, u20, w21, us22, er23, eq24, hu25, hw26, au27, aw28, hs29, as30, hr31, sa32, sb33⟩ := MSt_bk hM15 (k := a1) (by omega) (by omega)
      have hz34 : zF (σ.1 a1) = cv us22 a1 := zF_eq hr31
      have mr35 : isCR r18 := isCR_of er23 (by omega) (by omega)
      have mq36 : isNR q19 := isNR_of eq24 (by omega) (by omega)
      refine dr_virt rfl rfl rfl rfl ni17c (n_X8_at l hl hI13 hM15 (a1 := a1) (by omega) (by omega) (a2 := ((100 * a3) + a2)) (by omega) (by omega) er23 eq24 hu25 hw26 au27 aw28 hs29 as30 hr31 sa32 sb33) (by decide) (by decide) (by decide) (Nat.le_of_ble_eq_true rfl) kNP (kIP (fun y37 y37f y37a y37b => ?_))
      obtain ⟨y37c, y37d, y37k⟩ := y37f
      refine di_if_lt rfl rfl (by omega) (by omega) (fun c38 => ?_) (fun c38 => ?_)
      · skip
        have hFn39 := rkp_n y37k (by omega)
        refine di_const rfl ?_
        exact dr_iret (ty := .boolean) rfl rfl (nar_z (by omega) (by omega)) (by decide) (by decide) (QM_ok hI13 hF16 hM15 (by omega) (by omega) (by unfold spHas; (repeat' split) <;> first | rfl | (exfalso; omega) | (apply Prod.ext <;> first | rfl | (dsimp only; omega) | (apply Prod.ext <;> first | rfl | (dsimp only; omega)))))
      · skip
        have hFy41 := rkp_y hr31 y37k (by omega)
        have hri40 := rkp_in y37k (by omega)
        refine di_const rfl ?_
        refine dr_goto rfl rfl ?_
        exact dr_iret (ty := .boolean) rfl rfl (nar_z (by omega) (by omega)) (by decide) (by decide) (QM_ok hI13 hF16 hM15 (by omega) (by omega) (by unfold spHas; (repeat' split) <;> first | rfl | (exfalso; omega) | (apply Prod.ext <;> first | rfl | (dsimp only; omega) | (apply Prod.ext <;> first | rfl | (dsimp only; omega)))))
    · skip
      rw [ey11]
      refine dr_virt rfl rfl rfl rfl ni10c (f_X8_refuse1 l hl hI4 hM6 (a2 := 2) (by omega) (by omega)) (by decide) (by decide) (by decide) (Nat.le_of_ble_eq_true rfl) kNQN (kNQ (fun h42 hI43 hF44 hM45 => ?_))
      have hF46 := FrM_tr hF7 hF44
      refine di_if_eq rfl rfl (by omega) (by omega) (fun c9 => by exfalso; omega) (fun _ => ?_)
      refine di_const rfl ?_
      exact dr_iret (ty := .boolean) rfl rfl (nar_z (by omega) (by omega)) (by decide) (by decide) (QM_no (x := 0) hI43 hF46 hM45 (by omega) (by omega) (by omega) (by unfold spHas; (repeat' split) <;> first | rfl | (exfalso; omega) | (apply Prod.ext <;> first | rfl | (dsimp only; omega) | (apply Prod.ext <;> first | rfl | (dsimp only; omega)))))
  · skip
    rw [ey2]
    refine dr_virt rfl rfl rfl rfl c26 (f_X8_start1 l hl hI hM (a2 := 1) (by omega) (by omega)) (by decide) (by decide) (by decide) (Nat.le_of_ble_eq_true rfl) kNQN (kNQ (fun h47 hI48 hF49 hM50 => ?_))
    have hF51 := FrM_tr FrM_rf hF49
    refine di_if_ne rfl rfl (by omega) (by omega) (fun _ => ?_) (fun c9 => by exfalso; omega)
    refine di_const rfl ?_
    exact dr_iret (ty := .boolean) rfl rfl (nar_z (by omega) (by omega)) (by decide) (by decide) (QM_no (x := 0) hI48 hF51 hM50 (by omega) (by omega) (by omega) (by unfold spHas; (repeat' split) <;> first | rfl | (exfalso; omega) | (apply Prod.ext <;> first | rfl | (dsimp only; omega) | (apply Prod.ext <;> first | rfl | (dsimp only; omega)))))
set_option maxHeartbeats 4000000 in
set_option maxRecDepth 100000 in
/-- EarlyendsModel.noteOf -/
theorem n_X8_noteOf (l : Launch) (hl : l.stackTraces = false) {kc km : Int} {h : dm_H} (hI : Inv kc km h) {th : Int} {σ : St} (hM : MSt km th σ h) {a1 : Int} (h1a : -2147483648 ≤ a1) (h1b : a1 ≤ 2147483647) {a2 : Int} (h2a : -2147483648 ≤ a2) (h2b : a2 ≤ 2147483647) {a3 : Int} (h3a : -2147483648 ≤ a3) (h3b : a3 ≤ 2147483647) {a4 : Int} (h4a : -2147483648 ≤ a4) (h4b : a4 ≤ 2147483647) : dm_M l 174 8 0 0 [.ref 26, dI (a1), dI (a2), dI (a3), dI (a4)] h (QM9 kc km h (spNoteOf σ a1 a2 a3 a4)) := by
  obtain ⟨⟨ni, c26, ni0, ni1⟩, ⟨⟨R1, R2⟩, ⟨R3, R4⟩, ⟨R5, R6⟩, ⟨R7, R8⟩, ⟨R9, R10⟩, ⟨R11, R12⟩, R13⟩, ⟨th0, th1⟩, -⟩ := id hM
  have R14 : σ.2.2.2.2.2.1 = -1 ∨ (0 ≤ σ.2.2.2.2.2.1 ∧ σ.2.2.2.2.2.1 ≤ 9999 ∧ σ.2.2.2.2.2.1 % 100 ≤ σ.2.2.2.2.2.1 / 100) := R13
  refine dm_M_of dk_174 hl rfl (Nat.le_of_ble_eq_true rfl) ?_
  show dm_W (fun _ _ _ => True) (dm_P (QM9 kc km h (spNoteOf σ a1 a2 a3 a4)) 0 0) l 174 8 0 0 0 [some (.ref 26), some (dI (a1)), some (dI (a2)), some (dI (a3)), some (dI (a4)), none] [] h 0 0
  refine di_aload_n rfl rfl ?_
  refine dr_iload_n rfl rfl ?_
  refine dr_stat rfl rfl rfl rfl (f_X8_isNoBook l hl hI (a0 := a1) (by omega) (by omega)) (by decide) (by decide) (by decide) (Nat.le_of_ble_eq_true rfl) kNP (kIP (fun y1 y1f y1a y1b => ?_))
  have y1g : 0 ≤ y1 ∧ y1 ≤ 1 ∧ (y1 = 0 → 0 ≤ a1 ∧ a1 ≤ 2) ∧ (y1 = 1 → a1 < 0 ∨ 2 < a1) := y1f
  clear y1f
  refine di_const rfl ?_
  rcases (by omega : y1 = 0 ∨ y1 = 1) with ey2 | ey2
  · skip
    rw [ey2]
    refine dr_virt rfl rfl rfl rfl c26 (f_X8_start0 l hl hI hM (a2 := 1) (by omega) (by omega)) (by decide) (by decide) (by decide) (Nat.le_of_ble_eq_true rfl) kNQN (kNQ (fun h3 hI4 hF5 hM6 => ?_))
    have hF7 := FrM_tr FrM_rf hF5
    refine di_if_ne rfl rfl (by omega) (by omega) (fun c9 => by exfalso; omega) (fun _ => ?_)
    refine di_aload_n rfl rfl ?_
    refine dr_iload_n rfl rfl ?_
    refine dr_iload_n rfl rfl ?_
    refine dr_stat rfl rfl rfl rfl (f_X8_isNoSpan l hl hI4 (a0 := a2) (by omega) (by omega) (a1 := a3) (by omega) (by omega)) (by decide) (by decide) (by decide) (Nat.le_of_ble_eq_true rfl) kNP (kIP (fun y8 y8f y8a y8b => ?_))
    have y8g : 0 ≤ y8 ∧ y8 ≤ 1 ∧ (y8 = 0 → 0 ≤ a2 ∧ a2 ≤ a3 ∧ a3 ≤ 99) ∧ (y8 = 1 → a2 < 0 ∨ a3 < a2 ∨ 99 < a3) := y8f
    clear y8f
    refine di_if_ne rfl rfl (by omega) (by omega) (fun c10 => ?_) (fun c10 => ?_)
    · skip
      refine di_const rfl ?_
      refine dr_goto rfl rfl ?_
      refine di_const rfl ?_
      obtain ⟨⟨ni11, ni11c, ni11a, ni11b⟩, -⟩ := id hM6
      refine dr_virt rfl rfl rfl rfl ni11c (f_X8_refuse1 l hl hI4 hM6 (a2 := 2) (by omega) (by omega)) (by decide) (by decide) (by decide) (Nat.le_of_ble_eq_true rfl) kNQN (kNQ (fun h12 hI13 hF14 hM15 => ?_))
      have hF16 := FrM_tr hF7 hF14
      refine di_if_eq rfl rfl (by omega) (by omega) (fun c9 => by exfalso; omega) (fun _ => ?_)
      refine di_const rfl ?_
      exact dr_iret (ty := .int) rfl rfl rfl (by decide) (by decide) (QM_no (x := 0) hI13 hF16 hM15 (by omega) (by omega) (by omega) (by unfold spNoteOf; (repeat' split) <;> first | rfl | (exfalso; omega) | (apply Prod.ext <;> first | rfl | (dsimp only; omega) | (apply Prod.ext <;> first | rfl | (dsimp only; omega)))))
    · skip
      refine dr_iload rfl rfl ?_
      refine di_const rfl ?_
      refine di_icmp_lt rfl rfl (by omega) (by omega) (by omega) (by omega) (fun c17 => ?_) (fun c17 => ?_)
      · skip
        refine di_const rfl ?_
        refine dr_goto rfl rfl ?_
        refine di_const rfl ?_
        obtain ⟨⟨ni18, ni18c, ni18a, ni18b⟩, -⟩ := id hM6
        refine dr_virt rfl rfl rfl rfl ni18c (f_X8_refuse1 l hl hI4 hM6 (a2 := 2) (by omega) (by omega)) (by decide) (by decide) (by decide) (Nat.le_of_ble_eq_true rfl) kNQN (kNQ (fun h19 hI20 hF21 hM22 => ?_))
        have hF23 := FrM_tr hF7 hF21
        refine di_if_eq rfl rfl (by omega) (by omega) (fun c9 => by exfalso; omega) (fun _ => ?_)
        refine di_const rfl ?_
        exact dr_iret (ty := .int) rfl rfl rfl (by decide) (by decide) (QM_no (x := 0) hI20 hF23 hM22 (by omega) (by omega) (by omega) (by unfold spNoteOf; (repeat' split) <;> first | rfl | (exfalso; omega) | (apply Prod.ext <;> first | rfl | (dsimp only; omega) | (apply Prod.ext <;> first | rfl | (dsimp only; omega)))))
      · skip
        refine dr_iload rfl rfl ?_
        refine di_bipush rfl (by decide) ?_
        refine di_icmp_le rfl rfl (by omega) (by omega) (by omega) (by omega) (fun c24 => ?_) (fun c24 => ?_)
        · skip
          refine di_const rfl ?_
          refine di_const rfl ?_
          obtain ⟨⟨ni25, ni25c, ni25a, ni25b⟩, -⟩ := id hM6
          refine dr_virt rfl rfl rfl rfl ni25c (f_X8_refuse0 l hl hI4 hM6 (a2 := 2) (by omega) (by omega)) (by decide) (by decide) (by decide) (Nat.le_of_ble_eq_true rfl) kNQN (kNQ (fun h26 hI27 hF28 hM29 => ?_))
          have hF30 := FrM_tr hF7 hF28
          refine di_if_eq rfl rfl (by omega) (by omega) (fun _ => ?_) (fun c9 => by exfalso; omega)
          refine di_aload_n rfl rfl ?_
          refine dr_iload_n rfl rfl ?_
          refine di_bipush rfl (by decide) ?_
          refine dr_iload_n rfl rfl ?_
          refine di_imul rfl ?_
          refine dr_iload_n rfl rfl ?_
          refine di_iadd rfl ?_
          obtain ⟨⟨ni31, ni31c, ni31a, ni31b⟩, -⟩ := id hM29
          obtain ⟨r32, q33, u34, w35, us36, er37, eq38, hu39, hw40, au41, aw42, hs43, as44, hr45, sa46, sb47⟩ := MSt_bk hM29 (k := a1) (by omega) (by omega)
          have hz48 : zF (σ.1 a1) = cv us36 a1 := zF_eq hr45
          have mr49 : isCR r32 := isCR_of er37 (by omega) (by omega)
          have mq50 : isNR q33 := isNR_of eq38 (by omega) (by omega)
          refine dr_virt rfl rfl rfl rfl ni31c (n_X8_noteAt l hl hI27 hM29 (a1 := a1) (by omega) (by omega) (a2 := ((100 * a3) + a2)) (by omega) (by omega) er37 eq38 hu39 hw40 au41 aw42 hs43 as44 hr45 sa46 sb47) (by decide) (by decide) (by decide) (Nat.le_of_ble_eq_true rfl) kNP (kIP (fun y51 y51f y51a y51b => ?_))
          obtain ⟨y51c, y51d, y51n⟩ := y51f
          subst y51n
          refine di_istore (ls2 := [some (.ref 26), some (dI (a1)), some (dI (a2)), some (dI (a3)), some (dI (a4)), some (dI ((σ.1 a1 ((100 * a3) + a2))))]) rfl rfl rfl ?_
          refine dr_iload rfl rfl ?_
          refine di_const rfl ?_
          refine di_icmp_ne rfl rfl (by omega) (by omega) (by omega) (by omega) (fun c52 => ?_) (fun c52 => ?_)
          · skip
            refine dr_iload rfl rfl ?_
            exact dr_iret (ty := .int) rfl rfl rfl (by decide) (by decide) (QM_ok hI27 hF30 hM29 (by omega) (by omega) (by unfold spNoteOf; (repeat' split) <;> first | rfl | (exfalso; omega) | (apply Prod.ext <;> first | rfl | (dsimp only; omega) | (apply Prod.ext <;> first | rfl | (dsimp only; omega)))))
          · skip
            refine dr_iload rfl rfl ?_
            refine dr_goto rfl rfl ?_
            exact dr_iret (ty := .int) rfl rfl rfl (by decide) (by decide) (QM_ok hI27 hF30 hM29 (by omega) (by omega) (by unfold spNoteOf; (repeat' split) <;> first | rfl | (exfalso; omega) | (apply Prod.ext <;> first | rfl | (dsimp only; omega) | (apply Prod.ext <;> first | rfl | (dsimp only; omega)))))
        · skip
          refine di_const rfl ?_
          refine dr_goto rfl rfl ?_
          refine di_const rfl ?_
          obtain ⟨⟨ni53, ni53c, ni53a, ni53b⟩, -⟩ := id hM6
          refine dr_virt rfl rfl rfl rfl ni53c (f_X8_refuse1 l hl hI4 hM6 (a2 := 2) (by omega) (by omega)) (by decide) (by decide) (by decide) (Nat.le_of_ble_eq_true rfl) kNQN (kNQ (fun h54 hI55 hF56 hM57 => ?_))
          have hF58 := FrM_tr hF7 hF56
          refine di_if_eq rfl rfl (by omega) (by omega) (fun c9 => by exfalso; omega) (fun _ => ?_)
          refine di_const rfl ?_
          exact dr_iret (ty := .int) rfl rfl rfl (by decide) (by decide) (QM_no (x := 0) hI55 hF58 hM57 (by omega) (by omega) (by omega) (by unfold spNoteOf; (repeat' split) <;> first | rfl | (exfalso; omega) | (apply Prod.ext <;> first | rfl | (dsimp only; omega) | (apply Prod.ext <;> first | rfl | (dsimp only; omega)))))
  · skip
    rw [ey2]
    refine dr_virt rfl rfl rfl rfl c26 (f_X8_start1 l hl hI hM (a2 := 1) (by omega) (by omega)) (by decide) (by decide) (by decide) (Nat.le_of_ble_eq_true rfl) kNQN (kNQ (fun h59 hI60 hF61 hM62 => ?_))
    have hF63 := FrM_tr FrM_rf hF61
    refine di_if_ne rfl rfl (by omega) (by omega) (fun _ => ?_) (fun c9 => by exfalso; omega)
    refine di_const rfl ?_
    exact dr_iret (ty := .int) rfl rfl rfl (by decide) (by decide) (QM_no (x := 0) hI60 hF63 hM62 (by omega) (by omega) (by omega) (by unfold spNoteOf; (repeat' split) <;> first | rfl | (exfalso; omega) | (apply Prod.ext <;> first | rfl | (dsimp only; omega) | (apply Prod.ext <;> first | rfl | (dsimp only; omega)))))
