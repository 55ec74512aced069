/-! ===== steps of the model that keep the other books' rows ===== -/
def QNF (Q : dm_Rs) (r q : Nat) (h : dm_H) (Φ : dm_H → Prop) : dm_Rs := fun x h' => Q x h' ∧ FrX r q h h' ∧ Φ h'
section QNFR
variable {E : dm_Ex} {P : dm_Po} {l : Launch} {z d MC MS pc ce sl : Nat} {ls : List (Option Value)} {st : List Value} {h h' : dm_H} {kc km th a : Int} {σ : St} {r q : Nat} {Φ : dm_H → Prop}
theorem kNF (kk : ∀ h1 : dm_H, Inv kc km h1 → FrM h h1 → MSt km th σ h1 → FrX r q h h1 → Φ h1 → dm_W E P l z d MC MS pc ls (dI a :: st) h1 ce sl) : ∀ (v : Option Value) (h1 : dm_H), QNF (QN kc km h th a σ) r q h Φ (.inl v) h1 → dm_W E P l z d MC MS pc ls (v.toList ++ st) h1 ce sl := by
  rintro v h1 ⟨⟨x, y, z, e⟩, f, g⟩
  cases e
  exact kk h1 x y z f g
theorem kNFV (kk : ∀ h1 : dm_H, Inv kc km h1 → FrM h h1 → MSt km th σ h1 → FrX r q h h1 → Φ h1 → dm_W E P l z d MC MS pc ls st h1 ce sl) : ∀ (v : Option Value) (h1 : dm_H), QNF (QNV kc km h th σ) r q h Φ (.inl v) h1 → dm_W E P l z d MC MS pc ls (v.toList ++ st) h1 ce sl := by
  rintro v h1 ⟨⟨x, y, z, e⟩, f, g⟩
  cases e
  exact kk h1 x y z f g
theorem kNFN : ∀ (Y : String) (h1 : dm_H), QNF (QN kc km h th a σ) r q h Φ (.inr Y) h1 → dm_T9 E P l z d MC MS Y pc ls h1 ce sl := fun _ _ q => by cases q.1.2.2.2
theorem kNFVN : ∀ (Y : String) (h1 : dm_H), QNF (QNV kc km h th σ) r q h Φ (.inr Y) h1 → dm_T9 E P l z d MC MS Y pc ls h1 ce sl := fun _ _ q => by cases q.1.2.2.2
end QNFR
set_option maxRecDepth 100000 in
theorem nx_X8_touch (l : Launch) (hl : l.stackTraces = false) {kc km : Int} {h : dm_H} (hI : Inv kc km h) {th : Int} {σ : St} (hM : MSt km th σ h) {a1 : Int} (h1a : 0 ≤ a1) (h1b : a1 ≤ 2) : dm_M l 138 0 0 0 [.ref 26, dI a1] h (QNF (QNV kc km h th (stT σ a1)) 26 26 h (fun h' => ∀ j : Nat, j ≠ 26 → h'[j]? = h[j]?)) := by
  obtain ⟨⟨ni, c26, ni0, ni1⟩, ⟨⟨R1, R2⟩, ⟨R3, R4⟩, ⟨R5, R6⟩, ⟨R7, R8⟩, ⟨R9, R10⟩, ⟨R11, R12⟩, R13⟩, ⟨th0, th1⟩, -⟩ := id hM
  refine dm_M_of dk_138 hl rfl (Nat.le_of_ble_eq_true rfl) ?_
  show dm_W (fun _ _ _ => True) (dm_P (QNF (QNV kc km h th (stT σ a1)) 26 26 h (fun h' => ∀ j : Nat, j ≠ 26 → h'[j]? = h[j]?)) 0 0) l 138 0 0 0 0 [some (.ref 26), some (dI a1)] [] h 0 0
  refine di_aload_n rfl rfl ?_
  refine dr_getf rfl c26 rfl ?_
  refine dr_iload_n rfl rfl ?_
  refine di_icmp_ne rfl rfl (by omega) (by omega) (by omega) (by omega) (fun c => ?_) (fun c => ?_)
  · have e : stT σ a1 = σ := by unfold stT; rw [if_neg c]
    rw [e]
    exact dr_vret rfl rfl (by decide) (by decide) ⟨⟨hI, FrM_rf, hM, rfl⟩, FrX_rf, fun _ _ => rfl⟩
  · refine di_aload_n rfl rfl ?_
    refine di_const rfl ?_
    refine pfX rfl c26 (Nat.le_of_ble_eq_true rfl) (fit_z (by omega) (by omega)) hI (by decide) (T37_md (by omega) (by omega) (by omega) (by omega) (by omega) (by omega) (by omega) (by omega) R13) (fun h1 hI1 hk1 hc1 => ?_)
    have e : stT σ a1 = (σ.1, σ.2.1, (σ.2.2.1, 1, σ.2.2.2.2.1, σ.2.2.2.2.2.1, σ.2.2.2.2.2.2)) := by unfold stT; rw [if_pos c]
    rw [e]
    exact dr_vret rfl rfl (by decide) (by decide) ⟨⟨hI1, FrM_I hk1 (by decide) (by decide), MSt_md hM hk1 (ni' := ni) hc1 rfl ⟨⟨R1, R2⟩, ⟨R3, R4⟩, ⟨R5, R6⟩, ⟨R7, R8⟩, ⟨(show (0 : Int) ≤ 1 by decide), (show (1 : Int) ≤ 1 by decide)⟩, ⟨R11, R12⟩, R13⟩ ⟨th0, th1⟩ ⟨ni0, ni1⟩, rfl⟩, fun j x _ _ _ => hk1.2 j x, fun j x => hk1.2 j x⟩
theorem isDl_lo {u v : List Value} {r s i : Int} (h : isDl u v r s i) {j : Int} (j0 : 0 ≤ j) (j1 : j < r) (j2 : r ≤ s) : cv v j = cv u j := by
  rw [h j j0 (by omega)]
  split
  · unfold delf; rw [if_pos j1]
  · rfl
theorem nt_same {w w' : List Value} {e x j : Int} (h : stt w w' e x) (j0 : 0 ≤ j) (hx : cv w e = x) : cv w' j = cv w j := by
  by_cases q : j = e
  · rw [q, stt_at h (by omega), hx]
  · exact stt_ne h j0 q

set_option maxHeartbeats 4000000 in
set_option maxRecDepth 100000 in
/-- EarlyendsModel.come -/
theorem nx_X8_come (l : Launch) (hl : l.stackTraces = false) {kc km : Int} {h : dm_H} (hI : Inv kc km h) {th : Int} {σ : St} (hM : MSt km th σ h) {a1 : Int} (h1a : 0 ≤ a1) (h1b : a1 ≤ 2) {a2 : Int} (h2a : 0 ≤ a2) (h2b : a2 ≤ 9999) {a3 : Int} (h3a : 0 ≤ a3) (h3b : a3 ≤ 99) {r q : Nat} {u w us : List Value} (er : (r : Int) = (28 : Nat) + a1) (eq : (q : Int) = (32 : Nat) + a1) (hu : h[r]? = some (20, u)) (hw : h[q]? = some (20, w)) (au : arr 8 okC u) (aw : arr 8 anyI w) (h35 : h[35]? = some (20, us)) (as : arr 3 okS us) (hr : Rep (cv u) (cv w) (cv us a1) (σ.1 a1)) (s0 : 0 ≤ cv us a1) (s8 : cv us a1 ≤ 8) (hp0 : a2 % 100 ≤ a2 / 100) (hFn : σ.1 a1 a2 = -1) (hp1 : cv us a1 ≤ 7) : dm_M l 139 1 0 0 [.ref 26, dI (a1), dI (a2), dI (a3)] h (QNF (QNV kc km h th (stM σ a1 (up (σ.1 a1) a2 a3))) r q h (fun h9 => True)) := by
  obtain ⟨⟨ni, c26, ni0, ni1⟩, ⟨⟨R1, R2⟩, ⟨R3, R4⟩, ⟨R5, R6⟩, ⟨R7, R8⟩, ⟨R9, R10⟩, ⟨R11, R12⟩, R13⟩, ⟨th0, th1⟩, -⟩ := id hM
  have R14 : σ.2.2.2.2.2.1 = -1 ∨ (0 ≤ σ.2.2.2.2.2.1 ∧ σ.2.2.2.2.2.1 ≤ 9999 ∧ σ.2.2.2.2.2.1 % 100 ≤ σ.2.2.2.2.2.1 / 100) := R13
  have mr : isCR r := isCR_of er (by omega) (by omega)
  have mq : isNR q := isNR_of eq (by omega) (by omega)
  refine dm_M_of dk_139 hl rfl (Nat.le_of_ble_eq_true rfl) ?_
  show dm_W (fun _ _ _ => True) (dm_P (QNF (QNV kc km h th (stM σ a1 (up (σ.1 a1) a2 a3))) r q h (fun h9 => True)) 0 0) l 139 1 0 0 0 [some (.ref 26), some (dI (a1)), some (dI (a2)), some (dI (a3))] [] h 0 0
  refine di_aload_n rfl rfl ?_
  refine dr_getf rfl c26 rfl ?_
  refine dr_iload_n rfl rfl ?_
  have hc1 := I_mcs hI
  refine paaE (k0 := 28) er rfl hc1 (by omega) (by omega) ?_
  refine di_aload_n rfl rfl ?_
  refine dr_getf rfl c26 rfl ?_
  refine dr_iload_n rfl rfl ?_
  refine di_iald rfl h35 as (by omega) (by omega) (fun x2 x2f x2a x2b x2v => ?_)
  have x2w : cv us a1 = x2 := cv_eq x2v x2a x2b
  have x2g : 0 ≤ x2 ∧ x2 ≤ 8 := x2f
  refine dr_iload_n rfl rfl ?_
  refine paX rfl hu au (by omega) (by omega) ⟨by omega, by omega, by omega⟩ (by omega) (by omega) hI (lt_cr mr) (fun us9 hu9 => T37_cr mr hu9) (fun h3 us5 hI4 hk6 hc7 ha8 st10 => ?_)
  have hc11 := (hk6.2 26 (by omega)).trans c26
  have hc12 := (hk6.2 q (by omega)).trans hw
  have hc13 := (hk6.2 35 (by omega)).trans h35
  have hc14 := (hk6.2 27 (by omega)).trans hc1
  have hA15 := FrA_tr FrA_rf (FrA_I (r := r) (q := q) hk6 (by omega) (by omega) (by omega))
  refine di_aload_n rfl rfl ?_
  refine dr_getf rfl hc11 rfl ?_
  refine dr_iload_n rfl rfl ?_
  have hc16 := I_mns hI4
  refine paaE (k0 := 32) eq rfl hc16 (by omega) (by omega) ?_
  refine di_aload_n rfl rfl ?_
  refine dr_getf rfl hc11 rfl ?_
  refine dr_iload_n rfl rfl ?_
  refine di_iald rfl hc13 as (by omega) (by omega) (fun x17 x17f x17a x17b x17v => ?_)
  have x17w : cv us a1 = x17 := cv_eq x17v x17a x17b
  have x17g : 0 ≤ x17 ∧ x17 ≤ 8 := x17f
  refine dr_iload_n rfl rfl ?_
  refine paX rfl hc12 aw (by omega) (by omega) trivial (by omega) (by omega) hI4 (lt_nr mq) (fun us9 hu9 => T37_nr mq hu9) (fun h18 us20 hI19 hk21 hc22 ha23 st24 => ?_)
  have hc25 := (hk21.2 26 (by omega)).trans hc11
  have hc26 := (hk21.2 35 (by omega)).trans hc13
  have hc27 := (hk21.2 27 (by omega)).trans hc14
  have hc28 := (hk21.2 r (by omega)).trans hc7
  have hc29 := (hk21.2 31 (by omega)).trans hc16
  have hA30 := FrA_tr hA15 (FrA_I (r := r) (q := q) hk21 (by omega) (by omega) (by omega))
  refine di_aload_n rfl rfl ?_
  refine dr_getf rfl hc25 rfl ?_
  refine dr_iload_n rfl rfl ?_
  refine dr_dup2 rfl rfl rfl ?_
  refine di_iald rfl hc26 as (by omega) (by omega) (fun x31 x31f x31a x31b x31v => ?_)
  have x31w : cv us a1 = x31 := cv_eq x31v x31a x31b
  have x31g : 0 ≤ x31 ∧ x31 ≤ 8 := x31f
  refine di_const rfl ?_
  refine di_iadd rfl ?_
  refine paX rfl hc26 as (by omega) (by omega) ⟨by omega, by omega⟩ (by omega) (by omega) hI19 (by decide) (fun us9 hu9 => T37_sz hu9) (fun h32 us34 hI33 hk35 hc36 ha37 st38 => ?_)
  have hc39 := (hk35.2 26 (by omega)).trans hc25
  have hc40 := (hk35.2 27 (by omega)).trans hc27
  have hc41 := (hk35.2 r (by omega)).trans hc28
  have hc42 := (hk35.2 31 (by omega)).trans hc29
  have hc43 := (hk35.2 q (by omega)).trans hc22
  have hA44 := FrA_tr hA30 (FrA_I (r := r) (q := q) hk35 (by omega) (by omega) (by omega))
  refine di_aload_n rfl rfl ?_
  refine dr_iload_n rfl rfl ?_
  have hM45 : MSt km th (stN σ a1 (up (σ.1 a1) a2 a3)) h32 := MSt_rows hM h1a h1b er eq hA44.2 (ni' := ni) hc39 ⟨ni0, ni1⟩ h35 hc36 hc41 hc43 ha8 ha23 ha37 (fun i i0 i1 ne => stt_ne st38 i0 ne) (Rep_cm h1a hr hFn (by omega) (by omega) (by omega) (by omega) x2w x17w x31w st10 st24 st38)
  refine dr_virt rfl rfl rfl rfl hc39 (nx_X8_touch l hl hI33 hM45 (a1 := a1) (by omega) (by omega)) (by decide) (by decide) (by decide) (Nat.le_of_ble_eq_true rfl) kNFVN (kNFV (fun h46 hI47 hF48 hM49 hX50 hT51 => ?_))
  have hF52 := FrM_tr hA44.1 hF48
  have hX53 := FrX_tr hA44.2 (fun j9 x1 _ _ _ => hT51 j9 x1 : FrX r q h32 h46)
  have hc54 := (hT51 r (by omega)).trans hc41
  have hc55 := (hT51 q (by omega)).trans hc43
  exact dr_vret rfl rfl (by decide) (by decide) ⟨(QNV_ok hI47 hF52 hM49 rfl rfl), hX53, trivial⟩
set_option maxHeartbeats 4000000 in
set_option maxRecDepth 100000 in
/-- EarlyendsModel.go -/
theorem nx_X8_go (l : Launch) (hl : l.stackTraces = false) {kc km : Int} {h : dm_H} (hI : Inv kc km h) {th : Int} {σ : St} (hM : MSt km th σ h) {a1 : Int} (h1a : 0 ≤ a1) (h1b : a1 ≤ 2) {a2 : Int} (h2a : 0 ≤ a2) (h2b : a2 ≤ 8) {r q : Nat} {u w us : List Value} (er : (r : Int) = (28 : Nat) + a1) (eq : (q : Int) = (32 : Nat) + a1) (hu : h[r]? = some (20, u)) (hw : h[q]? = some (20, w)) (au : arr 8 okC u) (aw : arr 8 anyI w) (h35 : h[35]? = some (20, us)) (as : arr 3 okS us) (hr : Rep (cv u) (cv w) (cv us a1) (σ.1 a1)) (s0 : 0 ≤ cv us a1) (s8 : cv us a1 ≤ 8) {c : Int} (hp0 : a2 < cv us a1) (hc : cv u a2 = c) : dm_M l 140 1 0 0 [.ref 26, dI (a1), dI (a2)] h (QNF (QNV kc km h th (stM σ a1 (up (σ.1 a1) c (-1)))) r q h (fun h9 => ∃ u' w' : List Value, h9[r]? = some (20, u') ∧ h9[q]? = some (20, w') ∧ ∀ j : Int, 0 ≤ j → j < a2 → cv u' j = cv u j ∧ cv w' j = cv w j)) := by
  obtain ⟨⟨ni, c26, ni0, ni1⟩, ⟨⟨R1, R2⟩, ⟨R3, R4⟩, ⟨R5, R6⟩, ⟨R7, R8⟩, ⟨R9, R10⟩, ⟨R11, R12⟩, R13⟩, ⟨th0, th1⟩, -⟩ := id hM
  have R14 : σ.2.2.2.2.2.1 = -1 ∨ (0 ≤ σ.2.2.2.2.2.1 ∧ σ.2.2.2.2.2.1 ≤ 9999 ∧ σ.2.2.2.2.2.1 % 100 ≤ σ.2.2.2.2.2.1 / 100) := R13
  have mr : isCR r := isCR_of er (by omega) (by omega)
  have mq : isNR q := isNR_of eq (by omega) (by omega)
  refine dm_M_of dk_140 hl rfl (Nat.le_of_ble_eq_true rfl) ?_
  show dm_W (fun _ _ _ => True) (dm_P (QNF (QNV kc km h th (stM σ a1 (up (σ.1 a1) c (-1)))) r q h (fun h9 => ∃ u' w' : List Value, h9[r]? = some (20, u') ∧ h9[q]? = some (20, w') ∧ ∀ j : Int, 0 ≤ j → j < a2 → cv u' j = cv u j ∧ cv w' j = cv w j)) 0 0) l 140 1 0 0 0 [some (.ref 26), some (dI (a1)), some (dI (a2)), none] [] h 0 0
  refine di_aload_n rfl rfl ?_
  refine dr_getf rfl c26 rfl ?_
  refine dr_iload_n rfl rfl ?_
  refine dr_dup2 rfl rfl rfl ?_
  refine di_iald rfl h35 as (by omega) (by omega) (fun x1 x1f x1a x1b x1v => ?_)
  have x1w : cv us a1 = x1 := cv_eq x1v x1a x1b
  have x1g : 0 ≤ x1 ∧ x1 ≤ 8 := x1f
  refine di_const rfl ?_
  refine di_isub rfl ?_
  refine paX rfl h35 as (by omega) (by omega) ⟨by omega, by omega⟩ (by omega) (by omega) hI (by decide) (fun us9 hu9 => T37_sz hu9) (fun h2 us4 hI3 hk5 hc6 ha7 st8 => ?_)
  have hc10 := (hk5.2 26 (by omega)).trans c26
  have hc11 := (hk5.2 r (by omega)).trans hu
  have hc12 := (hk5.2 q (by omega)).trans hw
  have hA13 := FrA_tr FrA_rf (FrA_I (r := r) (q := q) hk5 (by omega) (by omega) (by omega))
  have zs9 := stt_at st8 h1a
  refine dr_iload_n rfl rfl ?_
  refine di_istore_n (ls2 := [some (.ref 26), some (dI (a1)), some (dI (a2)), some (dI (a2))]) rfl rfl rfl ?_
  have L15 : ∀ (n : Nat) (i14 : Int) (h16 : dm_H) (uv19 : List Value) (uv22 : List Value), (8 - i14).toNat < n → 0 ≤ i14 → i14 ≤ 8 → a2 ≤ i14 → Inv kc km h16 → FrA r q h h16 → h16[26]? = some (10, [.ref 27, .ref 31, .ref 35, dI (th), dI (ni), dI (km), dI (σ.2.1.1), dI (σ.2.1.2.1), dI (σ.2.1.2.2), dI (σ.2.2.1), dI (σ.2.2.2.1), dI (σ.2.2.2.2.1), dI (σ.2.2.2.2.2.1)]) → h16[r]? = some (20, uv19) → arr 8 okC uv19 → h16[q]? = some (20, uv22) → arr 8 anyI uv22 → h16[35]? = some (20, us4) → isDl u uv19 a2 (cv us a1 - 1) i14 → isDl w uv22 a2 (cv us a1 - 1) i14 → dm_W (fun _ _ _ => True) (dm_P (QNF (QNV kc km h th (stM σ a1 (up (σ.1 a1) c (-1)))) r q h (fun h9 => ∃ u' w' : List Value, h9[r]? = some (20, u') ∧ h9[q]? = some (20, w') ∧ ∀ j : Int, 0 ≤ j → j < a2 → cv u' j = cv u j ∧ cv w' j = cv w j)) 0 0) l 140 1 0 0 12 [some (.ref 26), some (dI (a1)), some (dI (a2)), some (dI (i14))] [] h16 0 0 := by
    intro n
    induction n with
    | zero => intro i14 h16 uv19 uv22 hm; exact absurd hm (Nat.not_lt_zero _)
    | succ n ih =>
      intro i14 h16 uv19 uv22 hm30 hb26 hb27 hx28 hI17 hE18 hc29 hc20 ha21 hc23 ha24 hc25 PU PW
      have ihL15 := ih
      clear ih
      refine dr_iload_n rfl rfl ?_
      refine di_aload_n rfl rfl ?_
      refine dr_getf rfl hc29 rfl ?_
      refine dr_iload_n rfl rfl ?_
      refine di_iald rfl hc25 ha7 (by omega) (by omega) (fun x31 x31f x31a x31b x31v => ?_)
      have x31w : cv us4 a1 = x31 := cv_eq x31v x31a x31b
      have x31g : 0 ≤ x31 ∧ x31 ≤ 8 := x31f
      refine di_icmp_ge rfl rfl (by omega) (by omega) (by omega) (by omega) (fun c32 => ?_) (fun c32 => ?_)
      · skip
        refine di_aload_n rfl rfl ?_
        refine dr_iload_n rfl rfl ?_
        have hM33 : MSt km th (stN σ a1 (up (σ.1 a1) c (-1))) h16 := MSt_rows hM h1a h1b er eq hE18.2 (ni' := ni) hc29 ⟨ni0, ni1⟩ h35 hc25 hc20 hc23 ha21 ha24 ha7 (fun i i0 i1 ne => stt_ne st8 i0 ne) (Rep_dl h1a hr h2a hp0 hc x1w PU PW st8 (by omega))
        refine dr_virt rfl rfl rfl rfl hc29 (nx_X8_touch l hl hI17 hM33 (a1 := a1) (by omega) (by omega)) (by decide) (by decide) (by decide) (Nat.le_of_ble_eq_true rfl) kNFVN (kNFV (fun h34 hI35 hF36 hM37 hX38 hT39 => ?_))
        have hF40 := FrM_tr hE18.1 hF36
        have hX41 := FrX_tr hE18.2 (fun j9 x1 _ _ _ => hT39 j9 x1 : FrX r q h16 h34)
        have hc42 := (hT39 r (by omega)).trans hc20
        have hc43 := (hT39 q (by omega)).trans hc23
        exact dr_vret rfl rfl (by decide) (by decide) ⟨(QNV_ok hI35 hF40 hM37 rfl rfl), hX41, ⟨_, _, hc42, hc43, fun j9 j0 j1 => ⟨isDl_lo PU j0 j1 (by omega), isDl_lo PW j0 j1 (by omega)⟩⟩⟩
      · skip
        refine di_aload_n rfl rfl ?_
        refine dr_getf rfl hc29 rfl ?_
        refine dr_iload_n rfl rfl ?_
        have hc44 := I_mcs hI17
        refine paaE (k0 := 28) er rfl hc44 (by omega) (by omega) ?_
        refine dr_iload_n rfl rfl ?_
        refine di_aload_n rfl rfl ?_
        refine dr_getf rfl hc29 rfl ?_
        refine dr_iload_n rfl rfl ?_
        refine paaE (k0 := 28) er rfl hc44 (by omega) (by omega) ?_
        refine dr_iload_n rfl rfl ?_
        refine di_const rfl ?_
        refine di_iadd rfl ?_
        refine di_iald rfl hc20 ha21 (by omega) (by omega) (fun x45 x45f x45a x45b x45v => ?_)
        have x45w : cv uv19 (i14 + 1) = x45 := cv_eq x45v x45a x45b
        have x45g : 0 ≤ x45 ∧ x45 ≤ 9999 ∧ x45 % 100 ≤ x45 / 100 := x45f
        refine paX rfl hc20 ha21 (by omega) (by omega) ⟨by omega, by omega, by omega⟩ (by omega) (by omega) hI17 (lt_cr mr) (fun us9 hu9 => T37_cr mr hu9) (fun h46 us48 hI47 hk49 hc50 ha51 st52 => ?_)
        have hc53 := (hk49.2 26 (by omega)).trans hc29
        have hc54 := (hk49.2 q (by omega)).trans hc23
        have hc55 := (hk49.2 35 (by omega)).trans hc25
        have hc56 := (hk49.2 27 (by omega)).trans hc44
        have hA57 := FrA_tr hE18 (FrA_I (r := r) (q := q) hk49 (by omega) (by omega) (by omega))
        refine di_aload_n rfl rfl ?_
        refine dr_getf rfl hc53 rfl ?_
        refine dr_iload_n rfl rfl ?_
        have hc58 := I_mns hI47
        refine paaE (k0 := 32) eq rfl hc58 (by omega) (by omega) ?_
        refine dr_iload_n rfl rfl ?_
        refine di_aload_n rfl rfl ?_
        refine dr_getf rfl hc53 rfl ?_
        refine dr_iload_n rfl rfl ?_
        refine paaE (k0 := 32) eq rfl hc58 (by omega) (by omega) ?_
        refine dr_iload_n rfl rfl ?_
        refine di_const rfl ?_
        refine di_iadd rfl ?_
        refine di_iald rfl hc54 ha24 (by omega) (by omega) (fun x59 x59f x59a x59b x59v => ?_)
        have x59w : cv uv22 (i14 + 1) = x59 := cv_eq x59v x59a x59b
        refine paX rfl hc54 ha24 (by omega) (by omega) trivial (by omega) (by omega) hI47 (lt_nr mq) (fun us9 hu9 => T37_nr mq hu9) (fun h60 us62 hI61 hk63 hc64 ha65 st66 => ?_)
        have hc67 := (hk63.2 26 (by omega)).trans hc53
        have hc68 := (hk63.2 35 (by omega)).trans hc55
        have hc69 := (hk63.2 27 (by omega)).trans hc56
        have hc70 := (hk63.2 r (by omega)).trans hc50
        have hc71 := (hk63.2 31 (by omega)).trans hc58
        have hA72 := FrA_tr hA57 (FrA_I (r := r) (q := q) hk63 (by omega) (by omega) (by omega))
        refine di_iinc (ls2 := [some (.ref 26), some (dI (a1)), some (dI (a2)), some (dI ((i14 + 1)))]) rfl rfl rfl rfl ?_
        refine dr_goto rfl rfl ?_
        exact ihL15 ((i14 + 1)) h60 (us48) (us62) (by omega) (by omega) (by omega) (by omega) hI61 hA72 hc67 hc70 ha51 hc64 ha65 hc68 (isDl_s PU st52 x45w (by omega) (by omega) (by omega)) (isDl_s PW st66 x59w (by omega) (by omega) (by omega))
  exact L15 _ (a2) h2 (u) (w) (Nat.lt_succ_self _) (by omega) (by omega) (by omega) hI3 hA13 hc10 hc11 au hc12 aw hc6 isDl_0 isDl_0
set_option maxHeartbeats 4000000 in
set_option maxRecDepth 100000 in
/-- EarlyendsModel.putIn -/
theorem nx_X8_putIn (l : Launch) (hl : l.stackTraces = false) {kc km : Int} {h : dm_H} (hI : Inv kc km h) {th : Int} {σ : St} (hM : MSt km th σ h) {a1 : Int} (h1a : 0 ≤ a1) (h1b : a1 ≤ 2) {a2 : Int} (h2a : 0 ≤ a2) (h2b : a2 ≤ 9999) {a3 : Int} (h3a : 0 ≤ a3) (h3b : a3 ≤ 99) {r q : Nat} {u w us : List Value} (er : (r : Int) = (28 : Nat) + a1) (eq : (q : Int) = (32 : Nat) + a1) (hu : h[r]? = some (20, u)) (hw : h[q]? = some (20, w)) (au : arr 8 okC u) (aw : arr 8 anyI w) (h35 : h[35]? = some (20, us)) (as : arr 3 okS us) (hr : Rep (cv u) (cv w) (cv us a1) (σ.1 a1)) (s0 : 0 ≤ cv us a1) (s8 : cv us a1 ≤ 8) (hp0 : a2 % 100 ≤ a2 / 100) (hnn : σ.1 a1 a2 ≠ -1 ∨ cv us a1 ≤ 7) : dm_M l 141 2 0 0 [.ref 26, dI (a1), dI (a2), dI (a3)] h (QNF (QN kc km h th (sPut σ a1 a2 a3).1 (sPut σ a1 a2 a3).2) r q h (fun h9 => σ.1 a1 a2 = a3 → a3 ≠ -1 → h9[r]? = some (20, u) ∧ ∃ w' : List Value, h9[q]? = some (20, w') ∧ ∀ j : Int, 0 ≤ j → cv w' j = cv w j)) := by
  obtain ⟨⟨ni, c26, ni0, ni1⟩, ⟨⟨R1, R2⟩, ⟨R3, R4⟩, ⟨R5, R6⟩, ⟨R7, R8⟩, ⟨R9, R10⟩, ⟨R11, R12⟩, R13⟩, ⟨th0, th1⟩, -⟩ := id hM
  have R14 : σ.2.2.2.2.2.1 = -1 ∨ (0 ≤ σ.2.2.2.2.2.1 ∧ σ.2.2.2.2.2.1 ≤ 9999 ∧ σ.2.2.2.2.2.1 % 100 ≤ σ.2.2.2.2.2.1 / 100) := R13
  have mr : isCR r := isCR_of er (by omega) (by omega)
  have mq : isNR q := isNR_of eq (by omega) (by omega)
  refine dm_M_of dk_141 hl rfl (Nat.le_of_ble_eq_true rfl) ?_
  show dm_W (fun _ _ _ => True) (dm_P (QNF (QN kc km h th (sPut σ a1 a2 a3).1 (sPut σ a1 a2 a3).2) r q h (fun h9 => σ.1 a1 a2 = a3 → a3 ≠ -1 → h9[r]? = some (20, u) ∧ ∃ w' : List Value, h9[q]? = some (20, w') ∧ ∀ j : Int, 0 ≤ j → cv w' j = cv w j)) 0 0) l 141 2 0 0 0 [some (.ref 26), some (dI (a1)), some (dI (a2)), some (dI (a3)), none, none] [] h 0 0
  refine di_aload_n rfl rfl ?_
  refine dr_iload_n rfl rfl ?_
  refine dr_iload_n rfl rfl ?_
  refine dr_virt rfl rfl rfl rfl c26 (n_X8_at l hl hI hM (a1 := a1) (by omega) (by omega) (a2 := a2) (by omega) (by omega) er eq hu hw au aw h35 as hr s0 s8) (by decide) (by decide) (by decide) (Nat.le_of_ble_eq_true rfl) kNP (kIP (fun y1 y1f y1a y1b => ?_))
  obtain ⟨y1c, y1d, y1k⟩ := y1f
  refine di_istore (ls2 := [some (.ref 26), some (dI (a1)), some (dI (a2)), some (dI (a3)), some (dI (y1)), none]) rfl rfl rfl ?_
  refine dr_iload rfl rfl ?_
  refine di_if_lt rfl rfl (by omega) (by omega) (fun c2 => ?_) (fun c2 => ?_)
  · skip
    have hFn3 := rkp_n y1k (by omega)
    refine di_aload_n rfl rfl ?_
    refine dr_getf rfl c26 rfl ?_
    refine dr_iload_n rfl rfl ?_
    refine di_iald rfl h35 as (by omega) (by omega) (fun x4 x4f x4a x4b x4v => ?_)
    have x4w : cv us a1 = x4 := cv_eq x4v x4a x4b
    have x4g : 0 ≤ x4 ∧ x4 ≤ 8 := x4f
    refine di_bipush rfl (by decide) ?_
    refine di_icmp_ne rfl rfl (by omega) (by omega) (by omega) (by omega) (fun c5 => ?_) (fun c5 => ?_)
    · skip
      refine di_aload_n rfl rfl ?_
      refine dr_iload_n rfl rfl ?_
      refine dr_iload_n rfl rfl ?_
      refine dr_iload_n rfl rfl ?_
      refine dr_virt rfl rfl rfl rfl c26 (nx_X8_come l hl hI hM (a1 := a1) (by omega) (by omega) (a2 := a2) (by omega) (by omega) (a3 := a3) (by omega) (by omega) er eq hu hw au aw h35 as hr s0 s8 (by omega) (by omega) (by omega)) (by decide) (by decide) (by decide) (Nat.le_of_ble_eq_true rfl) kNFVN (kNFV (fun h6 hI7 hF8 hM10 hX11 hT12 => ?_))
      have hF13 := FrM_tr FrM_rf hF8
      refine di_const rfl ?_
      have hz9 : zF (σ.1 a1) = cv us a1 := zF_eq hr
      have eS : sPut σ a1 a2 a3 = ((-1), (stM σ a1 (up (σ.1 a1) a2 a3))) := by unfold sPut; (repeat' split) <;> first | rfl | (exfalso; omega) | (apply Prod.ext <;> first | rfl | (dsimp only; omega) | (apply Prod.ext <;> first | rfl | (dsimp only; omega)))
      exact dr_iret (ty := .int) rfl rfl rfl (by decide) (by decide) ⟨(QN_ok hI7 hF13 hM10 rfl (congrArg Prod.fst eS) (congrArg Prod.snd eS)), hX11, (fun e9 x9 => by exfalso; omega)⟩
    · skip
      refine di_aload_n rfl rfl ?_
      exfalso; omega
  · skip
    have hFy15 := rkp_y hr y1k (by omega)
    have hri14 := rkp_in y1k (by omega)
    refine di_aload_n rfl rfl ?_
    refine dr_getf rfl c26 rfl ?_
    refine dr_iload_n rfl rfl ?_
    have hc16 := I_mns hI
    refine paaE (k0 := 32) eq rfl hc16 (by omega) (by omega) ?_
    refine dr_iload rfl rfl ?_
    refine di_iald rfl hw aw (by omega) (by omega) (fun x17 x17f x17a x17b x17v => ?_)
    have x17w : cv w y1 = x17 := cv_eq x17v x17a x17b
    refine di_istore (ls2 := [some (.ref 26), some (dI (a1)), some (dI (a2)), some (dI (a3)), some (dI (y1)), some (dI (x17))]) rfl rfl rfl ?_
    refine di_aload_n rfl rfl ?_
    refine dr_getf rfl c26 rfl ?_
    refine dr_iload_n rfl rfl ?_
    refine paaE (k0 := 32) eq rfl hc16 (by omega) (by omega) ?_
    refine dr_iload rfl rfl ?_
    refine dr_iload_n rfl rfl ?_
    refine paX rfl hw aw (by omega) (by omega) trivial (by omega) (by omega) hI (lt_nr mq) (fun us9 hu9 => T37_nr mq hu9) (fun h18 us20 hI19 hk21 hc22 ha23 st24 => ?_)
    have hc25 := (hk21.2 26 (by omega)).trans c26
    have hc26 := (hk21.2 r (by omega)).trans hu
    have hc27 := (hk21.2 35 (by omega)).trans h35
    have hc28 := (hk21.2 31 (by omega)).trans hc16
    have hA29 := FrA_tr FrA_rf (FrA_I (r := r) (q := q) hk21 (by omega) (by omega) (by omega))
    refine dr_iload rfl rfl ?_
    have nt9 : Rep (cv u) (cv us20) (cv us a1) (up (σ.1 a1) a2 a3) := by have q9 := Rep_nt (g := cv w) hr hri14.1 hri14.2.1 (by omega) (by omega) st24; rw [hri14.2.2] at q9; exact q9
    have hM30 : MSt km th (stN σ a1 (up (σ.1 a1) a2 a3)) h18 := MSt_rows hM h1a h1b er eq hA29.2 (ni' := ni) hc25 ⟨ni0, ni1⟩ h35 hc27 hc26 hc22 au ha23 as (fun _ _ _ _ => rfl) nt9
    have ny9 := (Rep_yes hr hri14.1 hri14.2.1 hri14.2.2).1
    have hz9 : zF (σ.1 a1) = cv us a1 := zF_eq hr
    have eS : sPut σ a1 a2 a3 = (x17, (stN σ a1 (up (σ.1 a1) a2 a3))) := by unfold sPut; (repeat' split) <;> first | rfl | (exfalso; omega) | (apply Prod.ext <;> first | rfl | (dsimp only; omega) | (apply Prod.ext <;> first | rfl | (dsimp only; omega)))
    exact dr_iret (ty := .int) rfl rfl rfl (by decide) (by decide) ⟨(QN_ok hI19 hA29.1 hM30 rfl (congrArg Prod.fst eS) (congrArg Prod.snd eS)), hA29.2, (fun e9 x9 => ⟨hc26, _, hc22, fun j9 j0 => nt_same st24 j0 (by have q9 := (Rep_yes hr hri14.1 hri14.2.1 hri14.2.2).1; omega)⟩)⟩
