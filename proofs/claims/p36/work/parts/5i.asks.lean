/-! ===== the class's trial: measure ===== -/
theorem QP_mo {h : dm_H} {F G : Int → Prop} (hFG : ∀ x, F x → G x) : ∀ r h', QP h (RI F) [] r h' → QP h (RI G) [] r h' := by
  rintro r h' ⟨e, q⟩
  refine ⟨e, ?_⟩
  rcases r with v | x
  · obtain ⟨x, a, b, c, d⟩ := q
    exact ⟨x, hFG x a, b, c, d⟩
  · exact q
def meQ (u : List Value) (s j x : Int) : Prop := j < s → hsP x s (fun r => cv u r % 100 ≤ cv u j / 100 ∧ cv u j % 100 ≤ cv u r / 100)
def hoQ (u : List Value) (s j x : Int) : Prop := j < s → hsP x s (fun r => cv u r % 100 ≤ cv u j / 100 ∧ cv u j / 100 ≤ cv u r / 100)
theorem f_X0_meetT (l : Launch) (hl : l.stackTraces = false) {kc km : Int} {h : dm_H} (hI : Inv kc km h) {b : Nat} (hb : isBk b) {s m : Int} {u w : List Value} (hC : CA b s m u w h) {a1 : Int} (h1a : 0 ≤ a1) (h1b : a1 ≤ 7) : dm_M l 23 2 0 0 [.ref b, dI a1] h (QP h (RI (fun x => meQ u s a1 x)) []) := by
  by_cases q : a1 < s
  · exact dm_M_imp (f_X0_meeting l hl hI hb hC (a1 := a1) (by omega) (by omega) h1a q) (QP_mo (fun x hx _ => hx.2.2))
  · exact dm_M_imp (s_X0_meeting l hl hI (b0 := b) hb (a1 := a1) (by omega) (by omega)) (QP_mo (fun x _ z => absurd z q))
def FrT (h h1 : dm_H) : Prop := h1.length = h.length ∧ ∀ j : Nat, j < 8 ∨ 16 < j → h1[j]? = h[j]?
theorem FrT_rf {h : dm_H} : FrT h h := ⟨rfl, fun _ _ => rfl⟩
theorem FrT_tr {h h1 h2 : dm_H} (a : FrT h h1) (c : FrT h1 h2) : FrT h h2 := ⟨c.1.trans a.1, fun j x => (c.2 j x).trans (a.2 j x)⟩
theorem FrT_I {i : Nat} {h h1 : dm_H} (a : FrI i h h1) (h8 : 8 ≤ i) (h16 : i ≤ 16) : FrT h h1 := ⟨a.1, fun j x => a.2 j (by omega)⟩
theorem FrT_K {b : Nat} {h h1 : dm_H} (a : FrK b h h1) (h8 : 8 ≤ b) (h16 : b ≤ 15) : FrT h h1 := ⟨a.1, fun j x => a.2 j (by omega) (by omega)⟩
theorem CA_T {b : Nat} {s m : Int} {u w : List Value} {h h' : dm_H} (f : FrT h h') (hb : isBk b) (hc : CA b s m u w h) : CA b s m u w h' := by
  have h2 := bk_17 hb
  unfold CA at *
  rw [f.2 b (by omega), f.2 (b + 1) (by omega), f.2 (b + 2) (by omega)]
  exact hc
theorem CSt_T {B : Int} {σ : St} {h h' : dm_H} (hS : CSt B σ h) (f : FrT h h') : CSt B σ h' := CSt_same hS (fun j j0 j1 j2 => f.2 j (by omega))
def TrA (d : Int) (mv he : List Value) (h : dm_H) : Prop := h[8]? = some (7, [.ref 9, .ref 10, .ref 11, .ref 13, .ref 15, dI d]) ∧ h[9]? = some (20, mv) ∧ h[10]? = some (20, he) ∧ arr 8 anyI mv ∧ arr 8 anyI he
/-- all that measure leaves -/
def TrS (F : Int → Int) (u : List Value) (s : Int) (d : Int) (mv he : List Value) (n : Int) (v : List Value) (m2 : Int) (rv : List Value) (h : dm_H) : Prop := TrA d mv he h ∧ (ChA 11 n v h ∧ fcE F u v s n) ∧ (HsA 15 s m2 rv h ∧ RM (cv u) s (cv rv) ∧ mxR (cv rv) s m2) ∧ (∀ j : Int, 0 ≤ j → j < 8 → meQ u s j (cv mv j)) ∧ (∀ j : Int, 0 ≤ j → j < 8 → hoQ u s j (cv he j)) ∧ ∃ p : Int, isDp F p ∧ d = cnt (cv u) (hoP p) s.toNat
def QTm (kc km : Int) (h : dm_H) (F : Int → Int) (u : List Value) (s : Int) : dm_Rs := fun r h' => Inv kc km h' ∧ FrT h h' ∧ (∃ (d : Int) (mv he : List Value) (n : Int) (v : List Value) (m2 : Int) (rv : List Value), TrS F u s d mv he n v m2 rv h') ∧ r = .inl none
section KTM
variable {E : dm_Ex} {P : dm_Po} {l : Launch} {z dd MC MS pc ce sl : Nat} {ls : List (Option Value)} {st : List Value} {h : dm_H} {kc km s : Int} {F : Int → Int} {u : List Value}
theorem kQTm (kk : ∀ (h1 : dm_H), Inv kc km h1 → FrT h h1 → ∀ (d : Int) (mv he : List Value) (n : Int) (v : List Value) (m2 : Int) (rv : List Value), TrS F u s d mv he n v m2 rv h1 → dm_W E P l z dd MC MS pc ls st h1 ce sl) : ∀ (v : Option Value) (h1 : dm_H), QTm kc km h F u s (.inl v) h1 → dm_W E P l z dd MC MS pc ls (v.toList ++ st) h1 ce sl := by
  rintro v h1 ⟨a, c, ⟨d, mv, he, n, w, m2, rv, q⟩, e⟩
  cases e
  exact kk h1 a c d mv he n w m2 rv q
theorem kQTmN : ∀ (Y : String) (h1 : dm_H), QTm kc km h F u s (.inr Y) h1 → dm_T9 E P l z dd MC MS Y pc ls h1 ce sl := fun _ _ q => by cases q.2.2.2
end KTM
theorem ta_9 : isTa 9 := Or.inl rfl
theorem ta_10 : isTa 10 := Or.inr rfl
theorem ch_11 : isCh 11 := Or.inr (Or.inl rfl)
theorem ch_13' : isCh 13 := Or.inr (Or.inr rfl)
theorem hs_15' : isHs 15 := Or.inr rfl
set_option maxHeartbeats 4000000 in
set_option maxRecDepth 100000 in
theorem f_X5_measure (l : Launch) (hl : l.stackTraces = false) {kc km : Int} {h : dm_H} (hI : Inv kc km h) {b : Nat} (hb : isBk b) {s m : Int} {u w : List Value} (hC : CA b s m u w h) {F : Int → Int} (hr : Rep (cv u) (cv w) s F) (ht : Srt (cv u) s) : dm_M l 48 6 0 0 [.ref 8, .ref b] h (QTm kc km h F u s) := by
  obtain ⟨d0, -, -, t8⟩ := I_tr hI
  obtain ⟨mv0, hm0, am0⟩ := I_tra hI ta_9
  obtain ⟨he0, hh0, ah0⟩ := I_tra hI ta_10
  have s0 := hC.2.2.2.2.2.1
  have s8 := hC.2.2.2.2.2.2.1
  refine dm_M_of dk_48 hl rfl (Nat.le_of_ble_eq_true rfl) ?_
  show dm_W (fun _ _ _ => True) (dm_P (QTm kc km h F u s) 0 0) l 48 6 0 0 0 [some (.ref 8), some (.ref b), none] [] h 0 0
  refine di_const rfl ?_
  refine di_istore_n (ls2 := [some (.ref 8), some (.ref b), some (dI 0)]) rfl rfl rfl ?_
  have L : ∀ (k : Nat) (i : Int) (mv he : List Value) (h2 : dm_H), (8 - i).toNat < k → 0 ≤ i → i ≤ 8 → Inv kc km h2 → FrT h h2 → TrA d0 mv he h2 → (∀ j : Int, 0 ≤ j → j < i → meQ u s j (cv mv j)) → (∀ j : Int, 0 ≤ j → j < i → hoQ u s j (cv he j)) → dm_W (fun _ _ _ => True) (dm_P (QTm kc km h F u s) 0 0) l 48 6 0 0 2 [some (.ref 8), some (.ref b), some (dI i)] [] h2 0 0 := by
    intro k
    induction k with
    | zero => intro i mv he h2 hm; exact absurd hm (Nat.not_lt_zero _)
    | succ k ih =>
      intro i mv he h2 hm i0 i1 hI2 hF2 hT2 PM PH
      obtain ⟨t1, t2, t3, t4, t5⟩ := id hT2
      have hC2 := CA_T hF2 hb hC
      refine dr_iload_n rfl rfl ?_
      refine di_bipush rfl (by decide) ?_
      refine di_icmp_ge rfl rfl (by omega) (by omega) (by omega) (by omega) (fun c => ?_) (fun c => ?_)
      · refine di_aload_n rfl rfl ?_
        refine di_aload_n rfl rfl ?_
        refine di_aload_n rfl rfl ?_
        refine dr_virt rfl rfl rfl rfl hC2.1 (f_X0_deepPlace l hl hI2 hb hC2 hr) (by decide) (by decide) (by decide) (Nat.le_of_ble_eq_true rfl) kNP (kIP (fun p pf pa pb => ?_))
        obtain ⟨pc, pd, pk⟩ := pf
        refine dr_virt rfl rfl rfl rfl hC2.1 (f_X0_depthAt l hl hI2 hb hC2 (a1 := p) (by omega) (by omega)) (by decide) (by decide) (by decide) (Nat.le_of_ble_eq_true rfl) kNP (kIP (fun d df da db => ?_))
        obtain ⟨dc, ddd, dk⟩ := df
        refine pfX rfl t1 (Nat.le_of_ble_eq_true rfl) rfl hI2 (by decide) (T37_tr (by omega)) (fun h3 hI3 hk3 hc3 => ?_)
        have hF3 := FrT_tr hF2 (FrT_I hk3 (by decide) (by decide))
        have hC3 := CA_T hF3 hb hC
        refine di_aload_n rfl rfl ?_
        refine dr_getf rfl hc3 rfl ?_
        refine di_aload_n rfl rfl ?_
        obtain ⟨n9, v9, hch9⟩ := I_chA hI3 ch_11
        refine dr_virt rfl rfl rfl rfl hch9.1 (f_X1_fillChosen l hl hI3 (b := 11) ch_11 hb hC3 hr ht) (by decide) (by decide) (by decide) (Nat.le_of_ble_eq_true rfl) kChN (kChV (fun h4 hI4 hK4 n v hA4 qf => ?_))
        have hF4 := FrT_tr hF3 (FrT_K hK4 (by decide) (by decide))
        have hC4 := CA_T hF4 hb hC
        have t14 := (hK4.2 8 (by decide) (by decide)).trans hc3
        refine di_aload_n rfl rfl ?_
        refine dr_getf rfl t14 rfl ?_
        refine di_aload_n rfl rfl ?_
        obtain ⟨s9, n9, w9, hhs9⟩ := I_hsA hI4 hs_15'
        refine dr_virt rfl rfl rfl rfl hhs9.1 (f_X3_fill l hl hI4 (b := 15) hs_15' hb hC4) (by decide) (by decide) (by decide) (Nat.le_of_ble_eq_true rfl) kHsN (kHsV (fun h5 hI5 hK5 s5 m5 v5 hH5 q5 => ?_))
        obtain ⟨e5, r5, x5, -⟩ := q5
        subst e5
        have hF5 := FrT_tr hF4 (FrT_K hK5 (by decide) (by decide))
        have k9 : ∀ j : Nat, j = 8 ∨ j = 9 ∨ j = 10 ∨ j = 11 ∨ j = 12 → h5[j]? = h4[j]? := fun j hj => hK5.2 j (by omega) (by omega)
        have k8 : ∀ j : Nat, j = 9 ∨ j = 10 → h5[j]? = h2[j]? := fun j hj => (k9 j (by omega)).trans ((hK4.2 j (by omega) (by omega)).trans (hk3.2 j (by omega)))
        exact dr_vret rfl rfl (by decide) (by decide) ⟨hI5, hF5, ⟨d, mv, he, n, v, m5, v5, ⟨(k9 8 (by omega)).trans t14, (k8 9 (by omega)).trans t2, (k8 10 (by omega)).trans t3, t4, t5⟩, ⟨⟨(k9 11 (by omega)).trans hA4.1, (k9 12 (by omega)).trans hA4.2.1, hA4.2.2⟩, qf⟩, ⟨hH5, r5, x5⟩, fun j j0 j1 => PM j j0 (by omega), fun j j0 j1 => PH j j0 (by omega), p, pk, dk⟩, rfl⟩
      refine di_aload_n rfl rfl ?_
      refine dr_getf rfl t1 rfl ?_
      refine dr_iload_n rfl rfl ?_
      refine di_aload_n rfl rfl ?_
      refine dr_iload_n rfl rfl ?_
      refine dr_virt rfl rfl rfl rfl hC2.1 (f_X0_meetT l hl hI2 hb hC2 (a1 := i) (by omega) (by omega)) (by decide) (by decide) (by decide) (Nat.le_of_ble_eq_true rfl) kNP (kIP (fun y yf ya yb => ?_))
      refine paX rfl t2 t4 (by omega) (by omega) trivial (by omega) (by omega) hI2 (lt_ta ta_9) (fun us9 hu9 => T37_tra ta_9 hu9) (fun h3 mv3 hI3 hk3 hu3 ha3 hs3 => ?_)
      have hF3 := FrT_tr hF2 (FrT_I hk3 (by decide) (by decide))
      have hC3 := CA_T hF3 hb hC
      have t13 := (hk3.2 8 (by decide)).trans t1
      have t33 := (hk3.2 10 (by decide)).trans t3
      refine di_aload_n rfl rfl ?_
      refine dr_getf rfl t13 rfl ?_
      refine dr_iload_n rfl rfl ?_
      refine di_aload_n rfl rfl ?_
      refine di_aload_n rfl rfl ?_
      refine dr_iload_n rfl rfl ?_
      refine dr_virt rfl rfl rfl rfl hC3.1 (f_X0_toAt l hl hI3 hb hC3 (a1 := i) (by omega) (by omega)) (by decide) (by decide) (by decide) (Nat.le_of_ble_eq_true rfl) kNP (kIP (fun t tf ta tb => ?_))
      obtain ⟨tc, td, tk, tk2, tk3⟩ := tf
      refine dr_virt rfl rfl rfl rfl hC3.1 (f_X0_holding l hl hI3 hb hC3 (a1 := t) (by omega) (by omega)) (by decide) (by decide) (by decide) (Nat.le_of_ble_eq_true rfl) kNP (kIP (fun z zf za zb => ?_))
      obtain ⟨zc, zd, zk⟩ := zf
      refine paX rfl t33 t5 (by omega) (by omega) trivial (by omega) (by omega) hI3 (lt_ta ta_10) (fun us9 hu9 => T37_tra ta_10 hu9) (fun h4 he4 hI4 hk4 hu4 ha4 hs4 => ?_)
      refine di_iinc (ls2 := [some (.ref 8), some (.ref b), some (dI (i + 1))]) rfl rfl rfl rfl ?_
      refine dr_goto rfl rfl ?_
      exact ih (i + 1) mv3 he4 h4 (by omega) (by omega) (by omega) hI4 (FrT_tr hF3 (FrT_I hk4 (by decide) (by decide))) ⟨(hk4.2 8 (by decide)).trans t13, (hk4.2 9 (by decide)).trans hu3, hu4, ha3, ha4⟩ (fun j j0 j1 => by
        by_cases e : j = i
        · rw [e, stt_at hs3 i0]; exact yf
        · rw [stt_ne hs3 j0 e]; exact PM j j0 (by omega)) (fun j j0 j1 => by
        by_cases e : j = i
        · rw [e, stt_at hs4 i0]
          intro q
          rw [← tk i0 q]; exact zk
        · rw [stt_ne hs4 j0 e]; exact PH j j0 (by omega))
  exact L _ 0 mv0 he0 h (Nat.lt_succ_self _) (by omega) (by omega) hI FrT_rf ⟨t8, hm0, hh0, am0, ah0⟩ (fun j j0 j1 => by omega) (fun j j0 j1 => by omega)
set_option maxRecDepth 100000 in
theorem f_X1_asSet (l : Launch) (hl : l.stackTraces = false) {kc km : Int} {h : dm_H} (hI : Inv kc km h) {b : Nat} (hb : isCh b) {n : Int} {v : List Value} (hA : ChA b n v h) (h7 : ∀ j : Int, 0 ≤ j → j < n → 0 ≤ cv v j ∧ cv v j ≤ 7) : dm_M l 33 0 0 0 [.ref b] h (QP h (RI (fun x => sB x (fun r => ∃ j : Int, 0 ≤ j ∧ j < n ∧ cv v j = r))) []) := by
  obtain ⟨c1, c2, c3, n0, n8⟩ := id hA
  refine dm_M_of dk_33 hl rfl (Nat.le_of_ble_eq_true rfl) ?_
  show dm_W (fun _ _ _ => True) (dm_P (QP h (RI (fun x => sB x (fun r => ∃ j : Int, 0 ≤ j ∧ j < n ∧ cv v j = r))) []) 0 0) l 33 0 0 0 0 [some (.ref b), none, none] [] h 0 0
  refine di_const rfl ?_
  refine di_istore_n (ls2 := [some (.ref b), some (dI 0), none]) rfl rfl rfl ?_
  refine di_const rfl ?_
  refine di_istore_n (ls2 := [some (.ref b), some (dI 0), some (dI 0)]) rfl rfl rfl ?_
  have L : ∀ (k : Nat) (S i : Int), (8 - i).toNat < k → 0 ≤ i → i ≤ n → sB S (fun r => ∃ j : Int, 0 ≤ j ∧ j < i ∧ cv v j = r) → dm_W (fun _ _ _ => True) (dm_P (QP h (RI (fun x => sB x (fun r => ∃ j : Int, 0 ≤ j ∧ j < n ∧ cv v j = r))) []) 0 0) l 33 0 0 0 4 [some (.ref b), some (dI S), some (dI i)] [] h 0 0 := by
    intro k
    induction k with
    | zero => intro S i hm; exact absurd hm (Nat.not_lt_zero _)
    | succ k ih =>
      intro S i hm i0 i1 PS
      have Sb := PS.1
      refine dr_iload_n rfl rfl ?_
      refine di_aload_n rfl rfl ?_
      refine dr_getf rfl c1 rfl ?_
      refine di_icmp_ge rfl rfl (by omega) (by omega) (by omega) (by omega) (fun c => ?_) (fun c => ?_)
      · refine dr_iload_n rfl rfl ?_
        have e : i = n := by omega
        subst e
        exact dr_iret (ty := .int) rfl rfl rfl (by decide) (by decide) ⟨rfl, S, PS, by omega, by omega, rfl⟩
      refine dr_iload_n rfl rfl ?_
      refine di_const rfl ?_
      refine di_aload_n rfl rfl ?_
      refine dr_getf rfl c1 rfl ?_
      refine dr_iload_n rfl rfl ?_
      refine di_iald rfl c2 c3 (by omega) (by omega) (fun x xf xa xb xv => ?_)
      have xw : cv v i = x := cv_eq xv xa xb
      have x7 := h7 i i0 (by omega)
      rw [xw] at x7
      refine di_shl7 rfl (by omega) (by omega) (fun w9 w9a w9b w9e => ?_)
      refine di_or rfl (by omega) (by omega) (by omega) (by omega) (fun x9 x9a x9b x9e => ?_)
      refine di_istore_n (ls2 := [some (.ref b), some (dI x9), some (dI i)]) rfl rfl rfl ?_
      refine di_iinc (ls2 := [some (.ref b), some (dI x9), some (dI (i + 1))]) rfl rfl rfl rfl ?_
      refine dr_goto rfl rfl ?_
      refine ih x9 (i + 1) (by omega) (by omega) (by omega) ?_
      subst w9e; subst x9e
      refine sB_cg (sB_or PS (sB_pw x7.1 x7.2)) (fun r _ _ => ⟨fun q => ?_, fun ⟨j, j0, j1, e⟩ => ?_⟩)
      · rcases q with ⟨j, j0, j1, e⟩ | e
        · exact ⟨j, j0, by omega, e⟩
        · exact ⟨i, i0, by omega, by rw [xw, e]⟩
      · by_cases c9 : j = i
        · exact Or.inr (by rw [← e, c9, xw])
        · exact Or.inl ⟨j, j0, by omega, e⟩
  exact L _ 0 0 (Nat.lt_succ_self _) (by omega) (by omega) (sB_cg sB_0 (fun r _ _ => ⟨fun q => q.elim, fun ⟨j, j0, j1, _⟩ => by omega⟩))
/-! ===== the class's trial: a set ===== -/
theorem all_b : ∀ n : Fin 9, ∀ r : Fin 8, r.val < n.val → (2 ^ n.val - 1).testBit r.val = true := by decide +kernel
theorem all_bt {s r : Int} (s0 : 0 ≤ s) (s8 : s ≤ 8) (r0 : 0 ≤ r) (r1 : r < s) : hbt (pwI s - 1) r := by
  obtain ⟨n, rfl⟩ := Int.eq_ofNat_of_zero_le s0
  obtain ⟨q, rfl⟩ := Int.eq_ofNat_of_zero_le r0
  have k : (2 ^ n - 1).testBit q = true := all_b ⟨n, by omega⟩ ⟨q, by omega⟩ (show q < n by omega)
  have p := Nat.one_le_two_pow (n := n)
  have e : (pwI (n : Int) - 1).toNat = 2 ^ n - 1 := by
    show (((2 ^ n : Nat) : Int) - 1).toNat = 2 ^ n - 1
    omega
  show (pwI (n : Int) - 1).toNat.testBit q = true
  rw [e]; exact k
section TS
variable {F : Int → Int} {u w v mv he : List Value} {s A n i x y d p m : Int}
theorem CA_okf {b : Nat} {h : dm_H} (hC : CA b s m u w h) : okf (cv u) s := (CA_arr hC).1
theorem ap_le (hr : Rep (cv u) (cv w) s F) (ht : Srt (cv u) s) (hok : okf (cv u) s) (s8 : s ≤ 8) (hS : ∀ r : Int, 0 ≤ r → r ≤ 7 → hbt A r → r < s) (hf : fcE F u v s n) (n0 : 0 ≤ n) (ha : apt (cv u) s A) : bb A 8 ≤ n := by
  by_cases hz : bb A 8 = 0
  · omega
  · have b0 := bb_nn A 8
    obtain ⟨k, k0, k1, k2, k3⟩ := bb_pv (A := A) 8 (by show 0 < bb A 8; omega)
    have k3 : bb A k + 1 = bb A 8 := k3
    obtain ⟨h1, h2, -⟩ := ch_ea hr ht hok ha 8 k k0 k1 (hS k k0 (by omega) k2) k2
    have := mo_le hf.1.2 h1 h2
    have := bb_nn A k
    omega
theorem hd_ge (hr : Rep (cv u) (cv w) s F) (ht : Srt (cv u) s) (s0 : 0 ≤ s) (s8 : s ≤ 8) (hS : ∀ r : Int, 0 ≤ r → r ≤ 7 → hbt A r → r < s) (hf : fcE F u v s n) (n0 : 0 ≤ n) (hH : heP x 8 s (cv u) A) (e : x = pwI s - 1) : n ≤ bb A 8 := he_m hr ht s8 (fun r r0 r1 => by
  subst e
  obtain ⟨-, k, k0, k1, k2, k3⟩ := (hH.2 r r0 (by omega)).mp (all_bt s0 s8 r0 r1)
  exact ⟨k, k0, hS k k0 (by omega) k2, k2, k3⟩) n0 hf.1.1
theorem me_le (hr : Rep (cv u) (cv w) s F) (hok : okf (cv u) s) (s8 : s ≤ 8) (hS : hsP A s (hbt A)) (hp : isDp F p) (hd : d = cnt (cv u) (hoP p) s.toNat) (hm : ∀ r k : Int, 0 ≤ r → r < s → 0 ≤ k → k < s → hbt A r → hbt A k → mt (cv u) k r) : bb A 8 ≤ d := by
  have d0 := (cnt_b (cv u) (hoP p) s.toNat).1
  rcases he_lly hr.1.1 s8 hok hS hm with e | ⟨q, ⟨j, j0, j1, ej⟩, h⟩
  · omega
  · rcases hp with ⟨-, hz⟩ | ⟨-, -, hx, -⟩
    · exact absurd (hz _) (Rep_yes hr j0 j1 rfl).2.1
    · have := hx q (by omega) (by omega)
      rw [dp_e hr, dp_e hr] at this
      omega
theorem me_y {mm : Int} (A0 : 0 ≤ A) (A1 : A ≤ 255) (s8 : s ≤ 8) (hm : hsP mm s (fun r => cv u r % 100 ≤ cv u i / 100 ∧ cv u i % 100 ≤ cv u r / 100)) (ex : x = andI mm A) (e : x = A) : ∀ k : Int, 0 ≤ k → k < s → hbt A k → mt (cv u) k i := fun k k0 k1 hk => by
  have h1 := sB_and hm (sB_self A0 A1)
  rw [← ex, e] at h1
  exact ((h1.2 k k0 (by omega)).mp hk).1.2
theorem ea_x {t1 t2 : Int} (hr : Rep (cv u) (cv w) s F) (ht : Srt (cv u) s) (hok : okf (cv u) s) (hf : fcE F u v s n) (n0 : 0 ≤ n) (i0 : 0 ≤ i) (i1 : i < s) (hA : hbt A i) (e1 : t1 = cv u i / 100) (y1 : 0 ≤ bb A i → bb A i < n → y = cv v (bb A i)) (e2 : 0 ≤ y → y < s → t2 = cv u y / 100) (c : t1 < t2) : ¬ apt (cv u) s A := fun ha => by
  obtain ⟨h1, h2, h3⟩ := ch_ea hr ht hok ha (i.toNat + 1) i i0 (by omega) i1 hA
  have h4 := mo_le hf.1.2 h1 h2
  have b0 := bb_nn A i
  obtain ⟨⟨p0, p1⟩, p2⟩ := hf.2 (bb A i) b0 (by omega)
  have ey := y1 b0 (by omega)
  have := e2 (by omega) (by omega)
  rw [ey, p2] at this
  omega
theorem bb_n9 (h0 : 0 ≤ i) (h : ¬ hbt A i) : bb A (i + 1) = bb A i := by
  rcases bb_s (S := A) (r := i) h0 with ⟨-, e⟩ | ⟨e, -⟩
  · exact absurd e h
  · exact e
theorem bb_y9 (h0 : 0 ≤ i) (h : hbt A i) : bb A (i + 1) = bb A i + 1 := by
  rcases bb_s (S := A) (r := i) h0 with ⟨e, -⟩ | ⟨-, e⟩
  · exact e
  · exact absurd h e
def meP (u : List Value) (s A i : Int) : Prop := ∀ r k : Int, 0 ≤ r → r < i → 0 ≤ k → k < s → hbt A r → hbt A k → mt (cv u) k r
theorem meP_n (h : meP u s A i) (hA : ¬ hbt A i) : meP u s A (i + 1) := fun r k r0 r1 k0 k1 hr hk => by
  by_cases e : r = i
  · rw [e] at hr; exact absurd hr hA
  · exact h r k r0 (by omega) k0 k1 hr hk
theorem meP_y (h : meP u s A i) (hA : ∀ k : Int, 0 ≤ k → k < s → hbt A k → mt (cv u) k i) : meP u s A (i + 1) := fun r k r0 r1 k0 k1 hr hk => by
  by_cases e : r = i
  · rw [e]; exact hA k k0 k1 hk
  · exact h r k r0 (by omega) k0 k1 hr hk
end TS
set_option maxHeartbeats 4000000 in
set_option maxRecDepth 100000 in
theorem f_X5_isSetTrue (l : Launch) (hl : l.stackTraces = false) {kc km : Int} {h : dm_H} (hI : Inv kc km h) {b : Nat} (hb : isBk b) {s m : Int} {u w : List Value} (hC : CA b s m u w h) {F : Int → Int} (hr : Rep (cv u) (cv w) s F) (ht : Srt (cv u) s) {d : Int} {mv he : List Value} {n : Int} {v : List Value} {m2 : Int} {rv : List Value} (hT : TrS F u s d mv he n v m2 rv h) {A : Int} (A0 : 0 ≤ A) (A1 : A < pwI s) {a3 : Int} (h3 : a3 = pwI s - 1) : dm_M l 50 3 0 0 [.ref 8, .ref b, dI A, dI a3] h (QP h (RI (fun x => x = 1)) []) := by
  obtain ⟨⟨t1, t2, t3, t4, t5⟩, ⟨hA1, hf⟩, -, hMe, hHo, p, hp, hd⟩ := id hT
  obtain ⟨c1, c2, c3, n0, n8⟩ := id hA1
  have s0 := hC.2.2.2.2.2.1
  have s8 := hC.2.2.2.2.2.2.1
  have p8 := pwI_8 s0 s8
  have A2 : A ≤ 255 := by omega
  have hok := CA_okf hC
  have hS := (set_lt A0 A2 s0 s8).mp A1
  have hS2 := set_hs A0 A2 s0 s8 A1
  have b8 := bb_8 (s := A) A0 A2
  have d0 := (cnt_b (cv u) (hoP p) s.toNat).1
  have d8 := (cnt_b (cv u) (hoP p) s.toNat).2
  refine dm_M_of dk_50 hl rfl (Nat.le_of_ble_eq_true rfl) ?_
  show dm_W (fun _ _ _ => True) (dm_P (QP h (RI (fun x => x = 1)) []) 0 0) l 50 3 0 0 0 [some (.ref 8), some (.ref b), some (dI A), some (dI a3), none, none, none, none, none, none, none, none] [] h 0 0
  refine di_const rfl ?_
  refine di_istore (ls2 := [some (.ref 8), some (.ref b), some (dI A), some (dI a3), some (dI 0), none, none, none, none, none, none, none]) rfl rfl rfl ?_
  refine di_const rfl ?_
  refine di_istore (ls2 := [some (.ref 8), some (.ref b), some (dI A), some (dI a3), some (dI 0), some (dI 0), none, none, none, none, none, none]) rfl rfl rfl ?_
  refine di_const rfl ?_
  refine di_istore (ls2 := [some (.ref 8), some (.ref b), some (dI A), some (dI a3), some (dI 0), some (dI 0), some (dI 1), none, none, none, none, none]) rfl rfl rfl ?_
  refine di_const rfl ?_
  refine di_istore (ls2 := [some (.ref 8), some (.ref b), some (dI A), some (dI a3), some (dI 0), some (dI 0), some (dI 1), some (dI 1), none, none, none, none]) rfl rfl rfl ?_
  refine di_const rfl ?_
  refine di_istore (ls2 := [some (.ref 8), some (.ref b), some (dI A), some (dI a3), some (dI 0), some (dI 0), some (dI 1), some (dI 1), some (dI 0), none, none, none]) rfl rfl rfl ?_
  refine di_const rfl ?_
  refine di_istore (ls2 := [some (.ref 8), some (.ref b), some (dI A), some (dI a3), some (dI 0), some (dI 0), some (dI 1), some (dI 1), some (dI 0), some (dI 0), none, none]) rfl rfl rfl ?_
  have L : ∀ (k : Nat) (ct hd9 ap me ea i : Int), (8 - i).toNat < k → 0 ≤ i → i ≤ 8 → ct = bb A i → 0 ≤ ct → ct ≤ 8 → 0 ≤ hd9 → hd9 ≤ 255 → 0 ≤ ap → ap ≤ 1 → 0 ≤ me → me ≤ 1 → 0 ≤ ea → ea ≤ 1 → heP hd9 i s (cv u) A → (ap = 1 → chP i (cv u) s A) → (me = 1 → meP u s A i) → (ea = 1 → ¬ apt (cv u) s A) → dm_W (fun _ _ _ => True) (dm_P (QP h (RI (fun x => x = 1)) []) 0 0) l 50 3 0 0 18 [some (.ref 8), some (.ref b), some (dI A), some (dI a3), some (dI ct), some (dI hd9), some (dI ap), some (dI me), some (dI ea), some (dI i), none, none] [] h 0 0 := by
    intro k
    induction k with
    | zero => intro ct hd9 ap me ea i hm; exact absurd hm (Nat.not_lt_zero _)
    | succ k ih =>
      intro ct hd9 ap me ea i hm i0 i1 hct ct0 ct8 hd0 hd255 ap0 ap1 me0 me1 ea0 ea1 PH PA PM PE
      refine dr_iload rfl rfl ?_
      refine di_bipush rfl (by decide) ?_
      refine di_icmp_ge rfl rfl (by omega) (by omega) (by omega) (by omega) (fun c => ?_) (fun c => ?_)
      · have e8 : i = 8 := by omega
        subst e8
        have J215 : dm_W (fun _ _ _ => True) (dm_P (QP h (RI (fun x => x = 1)) []) 0 0) l 50 3 0 0 215 [some (.ref 8), some (.ref b), some (dI A), some (dI a3), some (dI ct), some (dI hd9), some (dI ap), some (dI me), some (dI ea), some (dI 1), some (dI 1), none] [dI 1] h 0 0 := by
          refine di_istore (ls2 := [some (.ref 8), some (.ref b), some (dI A), some (dI a3), some (dI ct), some (dI hd9), some (dI ap), some (dI me), some (dI ea), some (dI 1), some (dI 1), some (dI 1)]) rfl rfl rfl ?_
          refine dr_iload rfl rfl ?_
          refine di_if_eq rfl rfl (by omega) (by omega) (fun c9 => absurd c9 (by decide)) (fun _ => ?_)
          refine dr_iload rfl rfl ?_
          refine di_if_eq rfl rfl (by omega) (by omega) (fun c9 => absurd c9 (by decide)) (fun _ => ?_)
          refine dr_iload rfl rfl ?_
          refine di_if_eq rfl rfl (by omega) (by omega) (fun c9 => absurd c9 (by decide)) (fun _ => ?_)
          refine di_const rfl ?_
          refine dr_goto rfl rfl ?_
          exact dr_iret (ty := .boolean) rfl rfl (nar_z (by omega) (by omega)) (by decide) (by decide) ⟨rfl, 1, rfl, by omega, by omega, rfl⟩
        have J194 : dm_W (fun _ _ _ => True) (dm_P (QP h (RI (fun x => x = 1)) []) 0 0) l 50 3 0 0 194 [some (.ref 8), some (.ref b), some (dI A), some (dI a3), some (dI ct), some (dI hd9), some (dI ap), some (dI me), some (dI ea), some (dI 1), none, none] [dI 1] h 0 0 := by
          refine di_istore (ls2 := [some (.ref 8), some (.ref b), some (dI A), some (dI a3), some (dI ct), some (dI hd9), some (dI ap), some (dI me), some (dI ea), some (dI 1), some (dI 1), none]) rfl rfl rfl ?_
          refine dr_iload rfl rfl ?_
          refine di_if_eq rfl rfl (by omega) (by omega) (fun c9 => ?_) (fun c9 => ?_)
          · refine di_const rfl ?_
            refine dr_goto rfl rfl ?_
            exact J215
          · have hle := me_le hr hok s8 hS2 hp hd (fun r k r0 r1 k0 k1 => PM (by omega) r k r0 (by omega) k0 k1)
            refine dr_iload rfl rfl ?_
            refine di_aload_n rfl rfl ?_
            refine dr_getf rfl t1 rfl ?_
            refine di_icmp_gt rfl rfl (by omega) (by omega) (by omega) (by omega) (fun c10 => ?_) (fun c10 => ?_)
            · omega
            · refine di_const rfl ?_
              refine dr_goto rfl rfl ?_
              exact J215
        have J169 : dm_W (fun _ _ _ => True) (dm_P (QP h (RI (fun x => x = 1)) []) 0 0) l 50 3 0 0 169 [some (.ref 8), some (.ref b), some (dI A), some (dI a3), some (dI ct), some (dI hd9), some (dI ap), some (dI me), some (dI ea), some (dI 8), none, none] [dI 1] h 0 0 := by
          refine di_istore (ls2 := [some (.ref 8), some (.ref b), some (dI A), some (dI a3), some (dI ct), some (dI hd9), some (dI ap), some (dI me), some (dI ea), some (dI 1), none, none]) rfl rfl rfl ?_
          refine dr_iload rfl rfl ?_
          refine dr_iload_n rfl rfl ?_
          refine di_icmp_ne rfl rfl (by omega) (by omega) (by omega) (by omega) (fun c9 => ?_) (fun c9 => ?_)
          · refine di_const rfl ?_
            refine dr_goto rfl rfl ?_
            exact J194
          · have hge := hd_ge hr ht s0 s8 hS hf n0 PH (by omega)
            refine dr_iload rfl rfl ?_
            refine di_aload_n rfl rfl ?_
            refine dr_getf rfl t1 rfl ?_
            refine dr_getf rfl c1 rfl ?_
            refine di_icmp_lt rfl rfl (by omega) (by omega) (by omega) (by omega) (fun c10 => ?_) (fun c10 => ?_)
            · omega
            · refine di_const rfl ?_
              refine dr_goto rfl rfl ?_
              exact J194
        refine dr_iload rfl rfl ?_
        refine di_if_eq rfl rfl (by omega) (by omega) (fun c9 => ?_) (fun c9 => ?_)
        · refine di_const rfl ?_
          refine dr_goto rfl rfl ?_
          exact J169
        have hapt : apt (cv u) s A := fun r k r0 r1 => PA (by omega) r k r0 (by omega)
        have hle := ap_le hr ht hok s8 hS hf n0 hapt
        have hea : ea ≠ 1 := fun q => PE q hapt
        refine dr_iload rfl rfl ?_
        refine di_aload_n rfl rfl ?_
        refine dr_getf rfl t1 rfl ?_
        refine dr_getf rfl c1 rfl ?_
        refine di_icmp_gt rfl rfl (by omega) (by omega) (by omega) (by omega) (fun c10 => ?_) (fun c10 => ?_)
        · omega
        refine dr_iload rfl rfl ?_
        refine di_if_ne rfl rfl (by omega) (by omega) (fun c11 => ?_) (fun c11 => ?_)
        · omega
        refine di_const rfl ?_
        refine dr_goto rfl rfl ?_
        exact J169
      refine dr_iload_n rfl rfl ?_
      refine dr_iload rfl rfl ?_
      refine dr_statN rfl rfl rfl rfl (f_X6_isInSet l hl hI (a0 := A) (by omega) (by omega) (a1 := i) (by omega) (by omega)) kNP0 (by decide) (by decide) (by decide) (Nat.le_of_ble_eq_true rfl) (kIP (fun y yf ya yb => ?_))
      obtain ⟨yc, yd, yk, yk2⟩ := yf
      refine di_if_eq rfl rfl (by omega) (by omega) (fun c2' => ?_) (fun c2' => ?_)
      · have hn := yk2 c2'
        have e9 := bb_n9 i0 hn
        refine di_iinc (ls2 := [some (.ref 8), some (.ref b), some (dI A), some (dI a3), some (dI ct), some (dI hd9), some (dI ap), some (dI me), some (dI ea), some (dI (i + 1)), none, none]) rfl rfl rfl rfl ?_
        refine dr_goto rfl rfl ?_
        exact ih ct hd9 ap me ea (i + 1) (by omega) (by omega) (by omega) (by omega) ct0 ct8 hd0 hd255 ap0 ap1 me0 me1 ea0 ea1 (he_n PH hn) (fun q => ch_n (PA q) hn) (fun q => meP_n (PM q) hn) PE
      have hin := yk (by omega)
      have his := hS i i0 (by omega) hin
      have e9 := bb_y9 i0 hin
      have bm := bb_ml (A := A) (i := i + 1) (j := 8) (by omega) (by omega)
      have hme := hMe i i0 (by omega) his
      have hho := hHo i i0 (by omega) his
      have hmb := hme.1
      have hhb := hho.1
      have J119 : ∀ ap2 me2 ea2 : Int, 0 ≤ ap2 → ap2 ≤ 1 → 0 ≤ me2 → me2 ≤ 1 → 0 ≤ ea2 → ea2 ≤ 1 → (ap2 = 1 → chP (i + 1) (cv u) s A) → (me2 = 1 → meP u s A (i + 1)) → (ea2 = 1 → ¬ apt (cv u) s A) → dm_W (fun _ _ _ => True) (dm_P (QP h (RI (fun x => x = 1)) []) 0 0) l 50 3 0 0 119 [some (.ref 8), some (.ref b), some (dI A), some (dI a3), some (dI ct), some (dI hd9), some (dI ap2), some (dI me2), some (dI ea), some (dI i), none, none] [dI ea2] h 0 0 := by
        intro ap2 me2 ea2 q1 q2 q3 q4 q5 q6 QA QM QE
        refine di_istore (ls2 := [some (.ref 8), some (.ref b), some (dI A), some (dI a3), some (dI ct), some (dI hd9), some (dI ap2), some (dI me2), some (dI ea2), some (dI i), none, none]) rfl rfl rfl ?_
        refine dr_iload rfl rfl ?_
        refine di_aload_n rfl rfl ?_
        refine dr_getf rfl t1 rfl ?_
        refine dr_iload rfl rfl ?_
        refine di_iald rfl t3 t5 (by omega) (by omega) (fun x xf xa xb xv => ?_)
        have xw : cv he i = x := cv_eq xv xa xb
        refine di_or rfl (by omega) (by omega) (by omega) (by omega) (fun x9 x9a x9b x9e => ?_)
        refine di_istore (ls2 := [some (.ref 8), some (.ref b), some (dI A), some (dI a3), some (dI ct), some (dI x9), some (dI ap2), some (dI me2), some (dI ea2), some (dI i), none, none]) rfl rfl rfl ?_
        refine di_iinc (ls2 := [some (.ref 8), some (.ref b), some (dI A), some (dI a3), some (dI (ct + 1)), some (dI x9), some (dI ap2), some (dI me2), some (dI ea2), some (dI i), none, none]) rfl rfl rfl rfl ?_
        refine di_iinc (ls2 := [some (.ref 8), some (.ref b), some (dI A), some (dI a3), some (dI (ct + 1)), some (dI x9), some (dI ap2), some (dI me2), some (dI ea2), some (dI (i + 1)), none, none]) rfl rfl rfl rfl ?_
        refine dr_goto rfl rfl ?_
        exact ih (ct + 1) x9 ap2 me2 ea2 (i + 1) (by omega) (by omega) (by omega) (by omega) (by omega) (by omega) x9a x9b q1 q2 q3 q4 q5 q6 (he_y (y := cv u i / 100) PH i0 hin hho rfl (by rw [xw]; exact x9e)) QA QM QE
      have J85 : ∀ ap2 me2 : Int, 0 ≤ ap2 → ap2 ≤ 1 → 0 ≤ me2 → me2 ≤ 1 → (ap2 = 1 → chP (i + 1) (cv u) s A) → (me2 = 1 → meP u s A (i + 1)) → dm_W (fun _ _ _ => True) (dm_P (QP h (RI (fun x => x = 1)) []) 0 0) l 50 3 0 0 85 [some (.ref 8), some (.ref b), some (dI A), some (dI a3), some (dI ct), some (dI hd9), some (dI ap2), some (dI me), some (dI ea), some (dI i), none, none] [dI me2] h 0 0 := by
        intro ap2 me2 q1 q2 q3 q4 QA QM
        refine di_istore (ls2 := [some (.ref 8), some (.ref b), some (dI A), some (dI a3), some (dI ct), some (dI hd9), some (dI ap2), some (dI me2), some (dI ea), some (dI i), none, none]) rfl rfl rfl ?_
        refine dr_iload rfl rfl ?_
        refine di_if_ne rfl rfl (by omega) (by omega) (fun c3' => ?_) (fun c3' => ?_)
        · refine di_const rfl ?_
          refine dr_goto rfl rfl ?_
          exact J119 ap2 me2 1 q1 q2 q3 q4 (by decide) (by decide) QA QM (fun _ => PE (by omega))
        refine di_aload_n rfl rfl ?_
        refine dr_iload rfl rfl ?_
        refine dr_virt rfl rfl rfl rfl hC.1 (f_X0_toAt l hl hI hb hC (a1 := i) (by omega) (by omega)) (by decide) (by decide) (by decide) (Nat.le_of_ble_eq_true rfl) kNP (kIP (fun t tf ta tb => ?_))
        obtain ⟨tc, td, tk, tk2, tk3⟩ := tf
        refine di_aload_n rfl rfl ?_
        refine di_aload_n rfl rfl ?_
        refine dr_getf rfl t1 rfl ?_
        refine dr_iload rfl rfl ?_
        refine dr_virt rfl rfl rfl rfl c1 (f_X1_rankAt l hl hI ch_11 hA1 (a1 := ct) (by omega) (by omega)) (by decide) (by decide) (by decide) (Nat.le_of_ble_eq_true rfl) kNP (kIP (fun z zf za zb => ?_))
        obtain ⟨zk, zk2⟩ := zf
        refine dr_virt rfl rfl rfl rfl hC.1 (f_X0_toAt l hl hI hb hC (a1 := z) (by omega) (by omega)) (by decide) (by decide) (by decide) (Nat.le_of_ble_eq_true rfl) kNP (kIP (fun t2' tf' ta' tb' => ?_))
        obtain ⟨tc', td', tk', tk2', tk3'⟩ := tf'
        refine di_icmp_ge rfl rfl (by omega) (by omega) (by omega) (by omega) (fun c4' => ?_) (fun c4' => ?_)
        · refine di_const rfl ?_
          exact J119 ap2 me2 0 q1 q2 q3 q4 (by decide) (by decide) QA QM (fun q => absurd q (by decide))
        · refine di_const rfl ?_
          refine dr_goto rfl rfl ?_
          exact J119 ap2 me2 1 q1 q2 q3 q4 (by decide) (by decide) QA QM (fun _ => ea_x (y := z) hr ht hok hf n0 i0 his hin (tk i0 his) (by rw [← hct]; exact zk) tk' (by omega))
      have J60 : ∀ ap2 : Int, 0 ≤ ap2 → ap2 ≤ 1 → (ap2 = 1 → chP (i + 1) (cv u) s A) → dm_W (fun _ _ _ => True) (dm_P (QP h (RI (fun x => x = 1)) []) 0 0) l 50 3 0 0 60 [some (.ref 8), some (.ref b), some (dI A), some (dI a3), some (dI ct), some (dI hd9), some (dI ap), some (dI me), some (dI ea), some (dI i), none, none] [dI ap2] h 0 0 := by
        intro ap2 q1 q2 QA
        refine di_istore (ls2 := [some (.ref 8), some (.ref b), some (dI A), some (dI a3), some (dI ct), some (dI hd9), some (dI ap2), some (dI me), some (dI ea), some (dI i), none, none]) rfl rfl rfl ?_
        refine dr_iload rfl rfl ?_
        refine di_if_eq rfl rfl (by omega) (by omega) (fun c3' => ?_) (fun c3' => ?_)
        · refine di_const rfl ?_
          exact J85 ap2 0 q1 q2 (by decide) (by decide) QA (fun q => absurd q (by decide))
        refine di_aload_n rfl rfl ?_
        refine dr_getf rfl t1 rfl ?_
        refine dr_iload rfl rfl ?_
        refine di_iald rfl t2 t4 (by omega) (by omega) (fun x xf xa xb xv => ?_)
        have xw : cv mv i = x := cv_eq xv xa xb
        refine dr_iload_n rfl rfl ?_
        refine di_and rfl (by omega) (by omega) (by omega) (fun z za zb ze => ?_)
        refine dr_iload_n rfl rfl ?_
        refine di_icmp_ne rfl rfl (by omega) (by omega) (by omega) (by omega) (fun c4' => ?_) (fun c4' => ?_)
        · refine di_const rfl ?_
          exact J85 ap2 0 q1 q2 (by decide) (by decide) QA (fun q => absurd q (by decide))
        · refine di_const rfl ?_
          refine dr_goto rfl rfl ?_
          exact J85 ap2 1 q1 q2 (by decide) (by decide) QA (fun _ => meP_y (PM (by omega)) (me_y (x := z) A0 A2 s8 hme (by rw [xw]; exact ze) (by omega)))
      refine dr_iload rfl rfl ?_
      refine di_if_eq rfl rfl (by omega) (by omega) (fun c3' => ?_) (fun c3' => ?_)
      · refine di_const rfl ?_
        exact J60 0 (by decide) (by decide) (fun q => absurd q (by decide))
      refine di_aload_n rfl rfl ?_
      refine dr_getf rfl t1 rfl ?_
      refine dr_iload rfl rfl ?_
      refine di_iald rfl t2 t4 (by omega) (by omega) (fun x xf xa xb xv => ?_)
      have xw : cv mv i = x := cv_eq xv xa xb
      refine dr_iload_n rfl rfl ?_
      refine di_and rfl (by omega) (by omega) (by omega) (fun z za zb ze => ?_)
      refine di_const rfl ?_
      refine dr_iload rfl rfl ?_
      refine di_shl7 rfl (by omega) (by omega) (fun w9 w9a w9b w9e => ?_)
      refine di_icmp_ne rfl rfl (by omega) (by omega) (by omega) (by omega) (fun c4' => ?_) (fun c4' => ?_)
      · refine di_const rfl ?_
        exact J60 0 (by decide) (by decide) (fun q => absurd q (by decide))
      · refine di_const rfl ?_
        refine dr_goto rfl rfl ?_
        exact J60 1 (by decide) (by decide) (fun _ => ch_y (x := z) (PA (by omega)) i0 (by omega) s8 A0 A2 hme (by rw [xw]; exact ze) w9e (by omega))
  exact L _ 0 0 1 1 0 0 (Nat.lt_succ_self _) (by omega) (by omega) rfl (by omega) (by omega) (by omega) (by omega) (by omega) (by omega) (by omega) (by omega) (by omega) (by omega) he_0 (fun _ => ch_0) (fun _ r k r0 r1 => by omega) (fun q => absurd q (by decide))
/-! ===== the class's trial: rooms, links, all sets ===== -/
section TG
variable {F : Int → Int} {u w v rv : List Value} {s A n i x d p m m2 few t : Int}
theorem dp_le (hr : Rep (cv u) (cv w) s F) (hp : isDp F p) (hd : d = cnt (cv u) (hoP p) s.toNat) {j : Int} (j0 : 0 ≤ j) (j1 : j < s) : cnt (cv u) (hoP (cv u j % 100)) s.toNat ≤ d := by
  rcases hp with ⟨-, hz⟩ | ⟨-, -, hx, -⟩
  · exact absurd (hz _) (Rep_yes hr j0 j1 rfl).2.1
  · have := hx (cv u j % 100) (by omega) (by omega)
    rw [dp_e hr, dp_e hr] at this
    omega
theorem rm_eq (hr : Rep (cv u) (cv w) s F) (hok : okf (cv u) s) (hR : RM (cv u) s (cv rv)) (hm : mxR (cv rv) s m2) (hp : isDp F p) (hd : d = cnt (cv u) (hoP p) s.toNat) : m2 = d := by
  have m0 : 0 ≤ m2 := by
    rcases hm.2 with e | ⟨r, -, p0, p1⟩ <;> omega
  have h1 := rm_ge (p := p) hr.1.1 hR hm m0
  rcases rm_le hr.1.1 hok hR hm with e | ⟨j, ⟨j0, j1⟩, h2⟩
  · have := (cnt_b (cv u) (hoP p) s.toNat).1
    omega
  · have := dp_le hr hp hd j0 j1
    omega
def fwP (u : List Value) (s few t : Int) : Prop := (few = -1 ∧ ∀ S : Int, 0 ≤ S → S < t → ¬ cov (cv u) s S (cv u 0 % 100) (cv u (s - 1) / 100)) ∨ ((0 ≤ few ∧ few ≤ 8) ∧ (∃ S : Int, 0 ≤ S ∧ S < t ∧ cov (cv u) s S (cv u 0 % 100) (cv u (s - 1) / 100) ∧ few = bb S 8) ∧ ∀ S : Int, 0 ≤ S → S < t → cov (cv u) s S (cv u 0 % 100) (cv u (s - 1) / 100) → few ≤ bb S 8)
theorem fw_0 : fwP u s (-1) 0 := Or.inl ⟨rfl, fun S h0 h1 => by omega⟩
theorem fw_n (h : fwP u s few t) (q : ¬ cov (cv u) s t (cv u 0 % 100) (cv u (s - 1) / 100)) : fwP u s few (t + 1) := by
  rcases h with ⟨h0, h1⟩ | ⟨h0, ⟨S, S0, S1, S2, S3⟩, h2⟩
  · refine Or.inl ⟨h0, fun S S0 S1 => ?_⟩
    by_cases e : S = t
    · rw [e]; exact q
    · exact h1 S S0 (by omega)
  · refine Or.inr ⟨h0, ⟨S, S0, by omega, S2, S3⟩, fun S S0 S1 hc => ?_⟩
    by_cases e : S = t
    · rw [e] at hc; exact absurd hc q
    · exact h2 S S0 (by omega) hc
theorem fw_k (h : fwP u s few t) (hn : few ≠ -1) (c : few ≤ bb t 8) : fwP u s few (t + 1) := by
  rcases h with ⟨h0, h1⟩ | ⟨h0, ⟨S, S0, S1, S2, S3⟩, h2⟩
  · exact absurd h0 hn
  · refine Or.inr ⟨h0, ⟨S, S0, by omega, S2, S3⟩, fun S S0 S1 hc => ?_⟩
    by_cases e : S = t
    · rw [e]; exact c
    · exact h2 S S0 (by omega) hc
theorem fw_y (h : fwP u s few t) (t0 : 0 ≤ t) (t8 : 0 ≤ bb t 8 ∧ bb t 8 ≤ 8) (q : cov (cv u) s t (cv u 0 % 100) (cv u (s - 1) / 100)) (c : few = -1 ∨ bb t 8 < few) (e : x = bb t 8) : fwP u s x (t + 1) := by
  subst e
  refine Or.inr ⟨t8, ⟨t, t0, by omega, q, rfl⟩, fun S S0 S1 hc => ?_⟩
  by_cases e : S = t
  · rw [e]; exact Int.le_refl _
  · rcases h with ⟨h0, h1⟩ | ⟨h0, -, h2⟩
    · exact absurd hc (h1 S S0 (by omega))
    · have := h2 S S0 (by omega) hc; omega
theorem fw_l (hr : Rep (cv u) (cv w) s F) (ht : Srt (cv u) s) (s8 : s ≤ 8) (h : fwP u s few (pwI s)) (n0 : 0 ≤ n) (hl : lkOK F (cv u 0 % 100) (cv u (s - 1) / 100) n.toNat) (hb : cv u (s - 1) / 100 < pl F (cv u 0 % 100) n.toNat) : n = few := by
  have s0 := hr.1.1
  obtain ⟨A, hA, hc, hle⟩ := lk_cv hr ht s8 n0 hl hb
  have p8 := pwI_8 s0 s8
  have hlt : A < pwI s := (set_lt hA.1.1 hA.1.2 s0 s8).mpr (fun r r0 r7 hb => ((hA.2 r r0 r7).mp hb).1)
  rcases h with ⟨h0, h1⟩ | ⟨h0, ⟨S, S0, S1, S2, S3⟩, h2⟩
  · exact absurd hc (h1 A hA.1.1 hlt)
  · have e1 := h2 A hA.1.1 hlt hc
    have e2 := cv_m hr ht s8 S2 n0 hl
    omega
theorem fw_z (hr : Rep (cv u) (cv w) s F) (ht : Srt (cv u) s) (h : fwP u s few t) (hf : fnE F (cv u 0 % 100) (cv u (s - 1) / 100)) : few = -1 := by
  rcases h with ⟨h0, -⟩ | ⟨-, ⟨S, S0, S1, S2, S3⟩, -⟩
  · exact h0
  · exact absurd S2 (cv_no hr ht hf)
end TG
set_option maxHeartbeats 4000000 in
set_option maxRecDepth 100000 in
theorem f_X5_areRoomsTrue (l : Launch) (hl : l.stackTraces = false) {kc km : Int} {h : dm_H} (hI : Inv kc km h) {b : Nat} (hb : isBk b) {s m : Int} {u w : List Value} (hC : CA b s m u w h) {F : Int → Int} (hr : Rep (cv u) (cv w) s F) {d : Int} {mv he : List Value} {n : Int} {v : List Value} {m2 : Int} {rv : List Value} (hT : TrS F u s d mv he n v m2 rv h) : dm_M l 51 2 0 0 [.ref 8, .ref b] h (QP h (RI (fun x => x = 1)) []) := by
  obtain ⟨⟨t1, t2, t3, t4, t5⟩, -, ⟨hH, hR, hm⟩, hMe, -, p, hp, hd⟩ := id hT
  have s0 := hC.2.2.2.2.2.1
  have s8 := hC.2.2.2.2.2.2.1
  have hok := CA_okf hC
  have e2 := rm_eq hr hok hR hm hp hd
  have d0 := (cnt_b (cv u) (hoP p) s.toNat).1
  have d8 := (cnt_b (cv u) (hoP p) s.toNat).2
  obtain ⟨g1, g2, g3, g4, g5, g6⟩ := id hH
  refine dm_M_of dk_51 hl rfl (Nat.le_of_ble_eq_true rfl) ?_
  show dm_W (fun _ _ _ => True) (dm_P (QP h (RI (fun x => x = 1)) []) 0 0) l 51 2 0 0 0 [some (.ref 8), some (.ref b), none, none, none] [] h 0 0
  refine di_const rfl ?_
  refine di_istore_n (ls2 := [some (.ref 8), some (.ref b), some (dI 0), none, none]) rfl rfl rfl ?_
  have L : ∀ (k : Nat) (r : Int), (8 - r).toNat < k → 0 ≤ r → r ≤ 8 → dm_W (fun _ _ _ => True) (dm_P (QP h (RI (fun x => x = 1)) []) 0 0) l 51 2 0 0 2 [some (.ref 8), some (.ref b), some (dI r), none, none] [] h 0 0 := by
    intro k
    induction k with
    | zero => intro r hm; exact absurd hm (Nat.not_lt_zero _)
    | succ k ih =>
      intro r hm9 r0 r8
      refine dr_iload_n rfl rfl ?_
      refine di_aload_n rfl rfl ?_
      refine dr_virt rfl rfl rfl rfl hC.1 (f_X0_count l hl hI hb hC) (by decide) (by decide) (by decide) (Nat.le_of_ble_eq_true rfl) kNP (kIP (fun y yf ya yb => ?_))
      obtain ⟨yc, yd, ye⟩ := yf
      have ye2 := ye.symm
      subst ye2
      refine di_icmp_ge rfl rfl (by omega) (by omega) (by omega) (by omega) (fun c => ?_) (fun c => ?_)
      · refine di_aload_n rfl rfl ?_
        refine dr_getf rfl t1 rfl ?_
        refine dr_getf rfl g1 rfl ?_
        refine di_aload_n rfl rfl ?_
        refine dr_getf rfl t1 rfl ?_
        refine di_icmp_ne rfl rfl (by omega) (by omega) (by omega) (by omega) (fun c2 => ?_) (fun c2 => ?_)
        · omega
        · refine di_const rfl ?_
          refine dr_goto rfl rfl ?_
          exact dr_iret (ty := .boolean) rfl rfl (nar_z (by omega) (by omega)) (by decide) (by decide) ⟨rfl, 1, rfl, by omega, by omega, rfl⟩
      refine di_const rfl ?_
      refine di_istore_n (ls2 := [some (.ref 8), some (.ref b), some (dI r), some (dI 0), none]) rfl rfl rfl ?_
      have L2 : ∀ (k : Nat) (o : Int), (8 - o).toNat < k → 0 ≤ o → o ≤ r → dm_W (fun _ _ _ => True) (dm_P (QP h (RI (fun x => x = 1)) []) 0 0) l 51 2 0 0 12 [some (.ref 8), some (.ref b), some (dI r), some (dI o), none] [] h 0 0 := by
        intro k
        induction k with
        | zero => intro o hm; exact absurd hm (Nat.not_lt_zero _)
        | succ k ih2 =>
          intro o hm8 o0 o1
          refine dr_iload_n rfl rfl ?_
          refine dr_iload_n rfl rfl ?_
          refine di_icmp_ge rfl rfl (by omega) (by omega) (by omega) (by omega) (fun c2 => ?_) (fun c2 => ?_)
          · refine di_iinc (ls2 := [some (.ref 8), some (.ref b), some (dI (r + 1)), some (dI o), none]) rfl rfl rfl rfl ?_
            refine dr_goto rfl rfl ?_
            refine dm_wk (ls2 := [some (.ref 8), some (.ref b), some (dI (r + 1)), none, none]) ⟨Or.inr rfl, Or.inr rfl, Or.inr rfl, Or.inl rfl, Or.inl rfl, trivial⟩ ?_
            exact ih (r + 1) (by omega) (by omega) (by omega)
          have tail : ∀ t : Int, 0 ≤ t → t ≤ 1 → (t = 1 → cv rv r = cv rv o) → dm_W (fun _ _ _ => True) (dm_P (QP h (RI (fun x => x = 1)) []) 0 0) l 51 2 0 0 41 [some (.ref 8), some (.ref b), some (dI r), some (dI o), none] [dI t] h 0 0 := by
            intro t q0 q1 qe
            refine di_istore (ls2 := [some (.ref 8), some (.ref b), some (dI r), some (dI o), some (dI t)]) rfl rfl rfl ?_
            refine dr_iload rfl rfl ?_
            have fin : dm_W (fun _ _ _ => True) (dm_P (QP h (RI (fun x => x = 1)) []) 0 0) l 51 2 0 0 63 [some (.ref 8), some (.ref b), some (dI r), some (dI o), some (dI t)] [] h 0 0 := by
              refine di_iinc (ls2 := [some (.ref 8), some (.ref b), some (dI r), some (dI (o + 1)), some (dI t)]) rfl rfl rfl rfl ?_
              refine dr_goto rfl rfl ?_
              refine dm_wk (ls2 := [some (.ref 8), some (.ref b), some (dI r), some (dI (o + 1)), none]) ⟨Or.inr rfl, Or.inr rfl, Or.inr rfl, Or.inr rfl, Or.inl rfl, trivial⟩ ?_
              exact ih2 (o + 1) (by omega) (by omega) (by omega)
            refine di_if_eq rfl rfl (by omega) (by omega) (fun c3 => ?_) (fun c3 => ?_)
            · exact fin
            refine di_aload_n rfl rfl ?_
            refine dr_getf rfl t1 rfl ?_
            refine dr_iload_n rfl rfl ?_
            refine di_iald rfl t2 t4 (by omega) (by omega) (fun x xf xa xb xv => ?_)
            have xw : cv mv r = x := cv_eq xv xa xb
            have hme := hMe r r0 (by omega) (by omega)
            have hmb := hme.1
            refine dr_iload_n rfl rfl ?_
            refine dr_statN rfl rfl rfl rfl (f_X6_isInSet l hl hI (a0 := x) (by omega) (by omega) (a1 := o) (by omega) (by omega)) kNP0 (by decide) (by decide) (by decide) (Nat.le_of_ble_eq_true rfl) (kIP (fun y yf ya yb => ?_))
            obtain ⟨yc, yd, yk, yk2⟩ := yf
            refine di_if_eq rfl rfl (by omega) (by omega) (fun c4 => ?_) (fun c4 => ?_)
            · exact fin
            · have hin := yk (by omega)
              rw [← xw] at hin
              have hmt := ((hme.2 o o0 (by omega)).mp hin).2
              exact absurd (show mt (cv u) o r from ⟨hmt.1, hmt.2⟩) (rm_pr hR r0 (by omega) o0 (by omega) (by omega) (qe (by omega)))
          refine di_aload_n rfl rfl ?_
          refine dr_getf rfl t1 rfl ?_
          refine dr_iload_n rfl rfl ?_
          refine dr_virt rfl rfl rfl rfl g1 (f_X3_roomAt l hl hI hs_15' hH (a1 := r) (by omega) (by omega)) (by decide) (by decide) (by decide) (Nat.le_of_ble_eq_true rfl) kNP (kIP (fun x xf xa xb => ?_))
          have xe := xf.1 r0 (by omega)
          refine di_aload_n rfl rfl ?_
          refine dr_getf rfl t1 rfl ?_
          refine dr_iload_n rfl rfl ?_
          refine dr_virt rfl rfl rfl rfl g1 (f_X3_roomAt l hl hI hs_15' hH (a1 := o) (by omega) (by omega)) (by decide) (by decide) (by decide) (Nat.le_of_ble_eq_true rfl) kNP (kIP (fun y yf ya yb => ?_))
          have ye := yf.1 o0 (by omega)
          refine di_icmp_ne rfl rfl (by omega) (by omega) (by omega) (by omega) (fun c3 => ?_) (fun c3 => ?_)
          · refine di_const rfl ?_
            exact tail 0 (by decide) (by decide) (fun q => absurd q (by decide))
          · refine di_const rfl ?_
            refine dr_goto rfl rfl ?_
            exact tail 1 (by decide) (by decide) (fun _ => by rw [← xe, ← ye]; exact c3)
      exact L2 _ 0 (Nat.lt_succ_self _) (by omega) (by omega)
  exact L _ 0 (Nat.lt_succ_self _) (by omega) (by omega)
set_option maxHeartbeats 4000000 in
set_option maxRecDepth 100000 in
theorem f_X5_areLinksTrue (l : Launch) (hl : l.stackTraces = false) {kc km : Int} {h : dm_H} (hI : Inv kc km h) {b : Nat} (hb : isBk b) {s m : Int} {u w : List Value} (hC : CA b s m u w h) {F : Int → Int} (hr : Rep (cv u) (cv w) s F) (ht : Srt (cv u) s) {d : Int} {mv he : List Value} (hT : TrA d mv he h) {a2 : Int} (h2a : -1 ≤ a2) (h2b : a2 ≤ 8) (hw : 0 < s → fwP u s a2 (pwI s)) : dm_M l 52 4 0 0 [.ref 8, .ref b, dI a2] h (QCh kc km h 13 (fun n v r => ∃ x : Int, x = 1 ∧ 0 ≤ x ∧ x ≤ 1 ∧ r = some (dI x))) := by
  obtain ⟨t1, t2, t3, t4, t5⟩ := id hT
  have s0 := hC.2.2.2.2.2.1
  have s8 := hC.2.2.2.2.2.2.1
  refine dm_M_of dk_52 hl rfl (Nat.le_of_ble_eq_true rfl) ?_
  show dm_W (fun _ _ _ => True) (dm_P (QCh kc km h 13 (fun n v r => ∃ x : Int, x = 1 ∧ 0 ≤ x ∧ x ≤ 1 ∧ r = some (dI x))) 0 0) l 52 4 0 0 0 [some (.ref 8), some (.ref b), some (dI a2), none, none] [] h 0 0
  obtain ⟨n9, v9, hch9⟩ := I_chA hI ch_13'
  refine di_aload_n rfl rfl ?_
  refine dr_virt rfl rfl rfl rfl hC.1 (f_X0_count l hl hI hb hC) (by decide) (by decide) (by decide) (Nat.le_of_ble_eq_true rfl) kNP (kIP (fun y yf ya yb => ?_))
  obtain ⟨yc, yd, ye⟩ := yf
  have ye2 := ye.symm
  subst ye2
  refine di_if_ne rfl rfl (by omega) (by omega) (fun c => ?_) (fun c => ?_)
  · refine di_aload_n rfl rfl ?_
    refine di_aload_n rfl rfl ?_
    refine dr_virt rfl rfl rfl rfl hC.1 (f_X0_count l hl hI hb hC) (by decide) (by decide) (by decide) (Nat.le_of_ble_eq_true rfl) kNP (kIP (fun y yf ya yb => ?_))
    obtain ⟨yc, yd, ye⟩ := yf
    have ye2 := ye.symm
    subst ye2
    refine di_const rfl ?_
    refine di_isub rfl ?_
    refine dr_virt rfl rfl rfl rfl hC.1 (f_X0_toAt l hl hI hb hC (a1 := s - 1) (by omega) (by omega)) (by decide) (by decide) (by decide) (Nat.le_of_ble_eq_true rfl) kNP (kIP (fun t tf ta tb => ?_))
    obtain ⟨tc, td, tk, tk2, tk3⟩ := tf
    have te := tk (by omega) (by omega)
    refine di_istore_n (ls2 := [some (.ref 8), some (.ref b), some (dI a2), some (dI t), none]) rfl rfl rfl ?_
    refine di_aload_n rfl rfl ?_
    refine dr_getf rfl t1 rfl ?_
    refine di_aload_n rfl rfl ?_
    refine di_aload_n rfl rfl ?_
    refine di_const rfl ?_
    refine dr_virt rfl rfl rfl rfl hC.1 (f_X0_fromAt l hl hI hb hC (a1 := 0) (by omega) (by omega)) (by decide) (by decide) (by decide) (Nat.le_of_ble_eq_true rfl) kNP (kIP (fun f0 ff fa fb => ?_))
    obtain ⟨fc, fd, fk, fk2, fk3⟩ := ff
    have fe := fk (by omega) (by omega)
    refine dr_iload_n rfl rfl ?_
    refine dr_virt rfl rfl rfl rfl hch9.1 (f_X1_fillLinks l hl hI (b := 13) ch_13' hb hC hr ht (a2 := f0) (by omega) (by omega) (a3 := t) (by omega) (by omega)) (by decide) (by decide) (by decide) (Nat.le_of_ble_eq_true rfl) kChN (kChI (fun h2 hI2 hK n v x hA qf xa xb => ?_))
    have t12 := (hK.2 8 (by decide) (by decide)).trans t1
    have n0 := hA.2.2.2.1
    have n8 := hA.2.2.2.2
    have q1 : x = 1 → n = a2 := fun e => by
      have k := (qf.1 e).1
      rw [te, fe] at k
      exact fw_l hr ht s8 (hw (by omega)) n0 k.1 k.2
    have q0 : x = 0 → a2 = -1 := fun e => by
      have k := qf.2 e
      rw [te, fe] at k
      exact fw_z hr ht (hw (by omega)) k
    clear qf
    refine di_istore (ls2 := [some (.ref 8), some (.ref b), some (dI a2), some (dI t), some (dI x)]) rfl rfl rfl ?_
    refine dr_iload rfl rfl ?_
    have tail : ∀ y : Int, y = a2 → dm_W (fun _ _ _ => True) (dm_P (QCh kc km h 13 (fun n v r => ∃ x : Int, x = 1 ∧ 0 ≤ x ∧ x ≤ 1 ∧ r = some (dI x))) 0 0) l 52 4 0 0 52 [some (.ref 8), some (.ref b), some (dI a2), some (dI t), some (dI x)] [dI y] h2 0 0 := by
      intro y hy
      refine dr_iload_n rfl rfl ?_
      refine di_icmp_ne rfl rfl (by omega) (by omega) (by omega) (by omega) (fun c3 => ?_) (fun c3 => ?_)
      · omega
      · refine di_const rfl ?_
        refine dr_goto rfl rfl ?_
        exact dr_iret (ty := .boolean) rfl rfl (nar_z (by omega) (by omega)) (by decide) (by decide) ⟨hI2, hK, n, v, hA, 1, rfl, by omega, by omega, rfl⟩
    refine di_if_eq rfl rfl (by omega) (by omega) (fun c2 => ?_) (fun c2 => ?_)
    · refine di_const rfl ?_
      exact tail (-1) (q0 c2).symm
    · refine di_aload_n rfl rfl ?_
      refine dr_getf rfl t12 rfl ?_
      refine dr_getf rfl hA.1 rfl ?_
      refine dr_goto rfl rfl ?_
      exact tail n (q1 (by omega))
  · refine di_const rfl ?_
    exact dr_iret (ty := .boolean) rfl rfl (nar_z (by omega) (by omega)) (by decide) (by decide) ⟨hI, ⟨rfl, fun _ _ _ => rfl⟩, n9, v9, hch9, 1, rfl, by omega, by omega, rfl⟩
/-! ===== the class's trial: passes ===== -/
theorem all_sB {s : Int} (s0 : 0 ≤ s) (s8 : s ≤ 8) : sB (pwI s - 1) (fun r => r < s) := by
  have p8 := pwI_8 s0 s8
  refine ⟨⟨by omega, by omega⟩, fun r r0 r7 => ⟨fun q => ?_, fun q => all_bt s0 s8 r0 q⟩⟩
  exact (set_lt (A := pwI s - 1) (by omega) (by omega) s0 s8).mp (by omega) r r0 r7 q
theorem hc_al {F : Int → Int} {u w v : List Value} {s n S H : Int} (hr : Rep (cv u) (cv w) s F) (ht : Srt (cv u) s) (hok : okf (cv u) s) (s8 : s ≤ 8) (hf : fcE F u v s n) (n0 : 0 ≤ n) (hS : sB S (fun r => ∃ j : Int, 0 ≤ j ∧ j < n ∧ cv v j = r)) (hH : heP H s s (cv u) S) : H = pwI s - 1 := sB_uq hH (sB_cg (all_sB hr.1.1 s8) (fun r r0 r7 => ⟨fun q => ⟨q, by
  obtain ⟨k, k1, k2, k3⟩ := ch_hl hr ht hok r0 q
  have k4 := mo_le hf.1.2 (fun j hj => k1 j (by omega)) (k1 k (by omega))
  obtain ⟨⟨p0, p1⟩, p2⟩ := hf.2 (k : Int) (by omega) (by omega)
  rw [show ((k : Int)).toNat = k by omega] at p2
  exact ⟨cv v (k : Int), p0, p1, (hS.2 _ p0 (by omega)).mpr ⟨k, by omega, by omega, rfl⟩, by rw [p2]; exact k2, by rw [p2]; exact k3⟩⟩, fun q => q.1⟩))
set_option maxHeartbeats 4000000 in
set_option maxRecDepth 100000 in
theorem f_X5_passes (l : Launch) (hl : l.stackTraces = false) {kc km : Int} {h : dm_H} (hI : Inv kc km h) {b : Nat} (hb : isBk b) {s m : Int} {u w : List Value} (hC : CA b s m u w h) {F : Int → Int} (hr : Rep (cv u) (cv w) s F) (ht : Srt (cv u) s) {d : Int} {mv he : List Value} {n : Int} {v : List Value} {m2 : Int} {rv : List Value} (hT : TrS F u s d mv he n v m2 rv h) : dm_M l 49 5 0 0 [.ref 8, .ref b] h (QCh kc km h 13 (fun n v r => ∃ x : Int, x = 1 ∧ 0 ≤ x ∧ x ≤ 1 ∧ r = some (dI x))) := by
  obtain ⟨hTA, ⟨hA1, hf⟩, -⟩ := id hT
  obtain ⟨t1, t2, t3, t4, t5⟩ := id hTA
  have n0 := hA1.2.2.2.1
  have s0 := hC.2.2.2.2.2.1
  have s8 := hC.2.2.2.2.2.2.1
  have hok := CA_okf hC
  refine dm_M_of dk_49 hl rfl (Nat.le_of_ble_eq_true rfl) ?_
  show dm_W (fun _ _ _ => True) (dm_P (QCh kc km h 13 (fun n v r => ∃ x : Int, x = 1 ∧ 0 ≤ x ∧ x ≤ 1 ∧ r = some (dI x))) 0 0) l 49 5 0 0 0 [some (.ref 8), some (.ref b), none, none, none] [] h 0 0
  refine di_aload_n rfl rfl ?_
  refine dr_virt rfl rfl rfl rfl hC.1 (f_X0_isRising l hl hI hb hC ht) (by decide) (by decide) (by decide) (Nat.le_of_ble_eq_true rfl) kNP (kIP (fun y yf ya yb => ?_))
  have yf : y = 1 := yf
  subst yf
  refine di_if_ne rfl rfl (by omega) (by omega) (fun _ => ?_) (fun c9 => absurd c9 (by decide))
  refine di_const rfl ?_
  refine di_aload_n rfl rfl ?_
  refine dr_virt rfl rfl rfl rfl hC.1 (f_X0_count l hl hI hb hC) (by decide) (by decide) (by decide) (Nat.le_of_ble_eq_true rfl) kNP (kIP (fun y yf ya yb => ?_))
  obtain ⟨yc, yd, ye⟩ := yf
  have ye2 := ye.symm
  subst ye2
  refine di_shl8 rfl (by omega) (by omega) (fun z za zb ze => ?_)
  refine di_const rfl ?_
  refine di_isub rfl ?_
  refine di_istore_n (ls2 := [some (.ref 8), some (.ref b), some (dI (z - 1)), none, none]) rfl rfl rfl ?_
  refine di_const rfl ?_
  refine di_istore_n (ls2 := [some (.ref 8), some (.ref b), some (dI (z - 1)), some (dI (-1)), none]) rfl rfl rfl ?_
  refine di_const rfl ?_
  refine di_istore (ls2 := [some (.ref 8), some (.ref b), some (dI (z - 1)), some (dI (-1)), some (dI 0)]) rfl rfl rfl ?_
  have L : ∀ (k : Nat) (few t : Int), (256 - t).toNat < k → 0 ≤ t → t ≤ z → -1 ≤ few → few ≤ 8 → (0 < s → fwP u s few t) → dm_W (fun _ _ _ => True) (dm_P (QCh kc km h 13 (fun n v r => ∃ x : Int, x = 1 ∧ 0 ≤ x ∧ x ≤ 1 ∧ r = some (dI x))) 0 0) l 49 5 0 0 23 [some (.ref 8), some (.ref b), some (dI (z - 1)), some (dI few), some (dI t)] [] h 0 0 := by
    intro k
    induction k with
    | zero => intro few t hm; exact absurd hm (Nat.not_lt_zero _)
    | succ k ih =>
      intro few t hm t0 tz f0 f8 PW
      refine dr_iload rfl rfl ?_
      refine dr_iload_n rfl rfl ?_
      refine di_icmp_gt rfl rfl (by omega) (by omega) (by omega) (by omega) (fun c => ?_) (fun c => ?_)
      · have et : t = pwI s := by omega
        subst et
        refine di_aload_n rfl rfl ?_
        refine di_aload_n rfl rfl ?_
        refine dr_getf rfl t1 rfl ?_
        refine dr_virt rfl rfl rfl rfl hA1.1 (f_X1_asSet l hl hI ch_11 hA1 (fun j j0 j1 => by have := (hf.2 j j0 j1).1; omega)) (by decide) (by decide) (by decide) (Nat.le_of_ble_eq_true rfl) kNP (kIP (fun S Sf Sa Sb => ?_))
        have Sbd := Sf.1
        refine dr_virt rfl rfl rfl rfl hC.1 (f_X0_holdingEndsOf l hl hI hb hC (a1 := S) (by omega) (by omega)) (by decide) (by decide) (by decide) (Nat.le_of_ble_eq_true rfl) kNP (kIP (fun H Hf Ha Hb => ?_))
        obtain ⟨Hc, Hd, Hk⟩ := Hf
        have eH := hc_al hr ht hok s8 hf n0 Sf Hk
        refine dr_iload_n rfl rfl ?_
        refine di_icmp_ne rfl rfl (by omega) (by omega) (by omega) (by omega) (fun c2 => ?_) (fun c2 => ?_)
        · omega
        refine di_aload_n rfl rfl ?_
        refine di_aload_n rfl rfl ?_
        refine dr_virt rfl rfl rfl rfl t1 (f_X5_areRoomsTrue l hl hI hb hC hr hT) (by decide) (by decide) (by decide) (Nat.le_of_ble_eq_true rfl) kNP (kIP (fun y yf ya yb => ?_))
        have yf : y = 1 := yf
        subst yf
        refine di_if_eq rfl rfl (by omega) (by omega) (fun c9 => absurd c9 (by decide)) (fun _ => ?_)
        refine di_aload_n rfl rfl ?_
        refine di_aload_n rfl rfl ?_
        refine dr_iload_n rfl rfl ?_
        refine dr_virt rfl rfl rfl rfl t1 (f_X5_areLinksTrue l hl hI hb hC hr ht hTA (a2 := few) f0 f8 PW) (by decide) (by decide) (by decide) (Nat.le_of_ble_eq_true rfl) kChN (kChI (Φ := fun n v x => x = 1) (fun h2 hI2 hK n3 v3 x hA3 xf xa xb => ?_))
        subst xf
        refine di_if_eq rfl rfl (by omega) (by omega) (fun c9 => absurd c9 (by decide)) (fun _ => ?_)
        refine di_const rfl ?_
        refine dr_goto rfl rfl ?_
        exact dr_iret (ty := .boolean) rfl rfl (nar_z (by omega) (by omega)) (by decide) (by decide) ⟨hI2, hK, n3, v3, hA3, 1, rfl, by omega, by omega, rfl⟩
      refine di_aload_n rfl rfl ?_
      refine di_aload_n rfl rfl ?_
      refine dr_iload rfl rfl ?_
      refine dr_iload_n rfl rfl ?_
      refine dr_virt rfl rfl rfl rfl t1 (f_X5_isSetTrue l hl hI hb hC hr ht hT (A := t) t0 (by omega) (a3 := z - 1) (by omega)) (by decide) (by decide) (by decide) (Nat.le_of_ble_eq_true rfl) kNP (kIP (fun y yf ya yb => ?_))
      have yf : y = 1 := yf
      subst yf
      refine di_if_ne rfl rfl (by omega) (by omega) (fun _ => ?_) (fun c9 => absurd c9 (by decide))
      refine di_aload_n rfl rfl ?_
      refine di_aload_n rfl rfl ?_
      refine dr_iload rfl rfl ?_
      have t255 : t ≤ 255 := by omega
      have bt := bb_8 (s := t) t0 t255
      have bn := bb_nn t 8
      refine dr_virt rfl rfl rfl rfl t1 (f_X5_doesCover l hl hI hb hC ht (a2 := t) t0 t255) (by decide) (by decide) (by decide) (Nat.le_of_ble_eq_true rfl) kNP (kIP (fun y yf ya yb => ?_))
      obtain ⟨⟨yc, yd⟩, yk⟩ := yf
      have nx : ∀ few2 : Int, -1 ≤ few2 → few2 ≤ 8 → (0 < s → fwP u s few2 (t + 1)) → dm_W (fun _ _ _ => True) (dm_P (QCh kc km h 13 (fun n v r => ∃ x : Int, x = 1 ∧ 0 ≤ x ∧ x ≤ 1 ∧ r = some (dI x))) 0 0) l 49 5 0 0 72 [some (.ref 8), some (.ref b), some (dI (z - 1)), some (dI few2), some (dI t)] [] h 0 0 := by
        intro few2 q0 q1 qw
        refine di_iinc (ls2 := [some (.ref 8), some (.ref b), some (dI (z - 1)), some (dI few2), some (dI (t + 1))]) rfl rfl rfl rfl ?_
        refine dr_goto rfl rfl ?_
        exact ih few2 (t + 1) (by omega) (by omega) (by omega) q0 q1 qw
      have tk : (few = -1 ∨ bb t 8 < few) → y = 1 → dm_W (fun _ _ _ => True) (dm_P (QCh kc km h 13 (fun n v r => ∃ x : Int, x = 1 ∧ 0 ≤ x ∧ x ≤ 1 ∧ r = some (dI x))) 0 0) l 49 5 0 0 66 [some (.ref 8), some (.ref b), some (dI (z - 1)), some (dI few), some (dI t)] [] h 0 0 := by
        intro c3 y1
        refine dr_iload rfl rfl ?_
        refine dr_stat rfl rfl rfl rfl (f_bitCount l hl (a0 := t) t0 t255) (by decide) (by decide) (by decide) (Nat.le_of_ble_eq_true rfl) kNP (kIP (fun x xf xa xb => ?_))
        have xf : x = bb t 8 := xf
        refine di_istore_n (ls2 := [some (.ref 8), some (.ref b), some (dI (z - 1)), some (dI x), some (dI t)]) rfl rfl rfl ?_
        exact nx x (by omega) (by omega) (fun q => fw_y (PW q) t0 ⟨bn, bt⟩ ((yk q).mp y1) c3 xf)
      refine di_if_eq rfl rfl (by omega) (by omega) (fun c2 => ?_) (fun c2 => ?_)
      · exact nx few f0 f8 (fun q => fw_n (PW q) (fun hc => by have := (yk q).mpr hc; omega))
      refine dr_iload_n rfl rfl ?_
      refine di_const rfl ?_
      refine di_icmp_eq rfl rfl (by omega) (by omega) (by omega) (by omega) (fun c3 => ?_) (fun c3 => ?_)
      · exact tk (Or.inl c3) (by omega)
      refine dr_iload rfl rfl ?_
      refine dr_stat rfl rfl rfl rfl (f_bitCount l hl (a0 := t) t0 t255) (by decide) (by decide) (by decide) (Nat.le_of_ble_eq_true rfl) kNP (kIP (fun x xf xa xb => ?_))
      have xf : x = bb t 8 := xf
      refine dr_iload_n rfl rfl ?_
      refine di_icmp_ge rfl rfl (by omega) (by omega) (by omega) (by omega) (fun c4 => ?_) (fun c4 => ?_)
      · exact nx few f0 f8 (fun q => fw_k (PW q) c3 (by omega))
      · exact tk (Or.inr (by omega)) (by omega)
  exact L _ (-1) 0 (Nat.lt_succ_self _) (by omega) (by omega) (by omega) (by omega) (fun _ => fw_0)
/-! ===== the class's isSound ===== -/
set_option maxHeartbeats 4000000 in
set_option maxRecDepth 100000 in
theorem f_X4_isTrueTo (l : Launch) (hl : l.stackTraces = false) {kc km : Int} {h : dm_H} (hI : Inv kc km h) {B : Int} {σ : St} (hS : CSt B σ h) (hB : B ≤ 90000) {b1 : Nat} {k1 : Int} (hb1 : isBk b1) (k10 : 0 ≤ k1) (k11 : k1 ≤ 2) (kb1 : (b1 : Int) = 17 + 3 * k1) {s m : Int} {u w : List Value} (hc : CA b1 s m u w h) (hr : Rep (cv u) (cv w) s (σ.1 k1)) (ht : Srt (cv u) s) (ma : 0 ≤ m) (mb : m ≤ B) : dm_M l 46 2 0 0 [.ref 2, .ref b1] h (QP h (RI (fun x => x = 1)) []) := by
  have s0 := hc.2.2.2.2.2.1
  have s8 := hc.2.2.2.2.2.2.1
  obtain ⟨p1, p2, p3, p4⟩ := id hS.2
  refine dm_M_of dk_46 hl rfl (Nat.le_of_ble_eq_true rfl) ?_
  show dm_W (fun _ _ _ => True) (dm_P (QP h (RI (fun x => x = 1)) []) 0 0) l 46 2 0 0 0 [some (.ref 2), some (.ref b1), none, none, none, none] [] h 0 0
  refine di_aload_n rfl rfl ?_
  refine di_aload_n rfl rfl ?_
  refine dr_virt rfl rfl rfl rfl p1 (f_X4_startIn l hl hI hS hB hb1 k10 k11 kb1 hc hr ht ma mb) (by decide) (by decide) (by decide) (Nat.le_of_ble_eq_true rfl) kNP (kIP (fun a af aa ab => ?_))
  obtain ⟨ac, ad, ak⟩ := af
  refine di_istore_n (ls2 := [some (.ref 2), some (.ref b1), some (dI a), none, none, none]) rfl rfl rfl ?_
  refine di_aload_n rfl rfl ?_
  refine di_aload_n rfl rfl ?_
  refine dr_virt rfl rfl rfl rfl p1 (f_X4_endIn l hl hI hS hB hb1 k10 k11 kb1 hc hr ht ma mb) (by decide) (by decide) (by decide) (Nat.le_of_ble_eq_true rfl) kNP (kIP (fun e ef ea eb => ?_))
  obtain ⟨ec, ed, ek⟩ := ef
  have hP := (rg_P ak ek).2.2
  refine di_istore_n (ls2 := [some (.ref 2), some (.ref b1), some (dI a), some (dI e), none, none]) rfl rfl rfl ?_
  refine di_const rfl ?_
  refine di_istore (ls2 := [some (.ref 2), some (.ref b1), some (dI a), some (dI e), some (dI 0), none]) rfl rfl rfl ?_
  have L : ∀ (k : Nat) (i : Int), (8 - i).toNat < k → 0 ≤ i → i ≤ 8 → dm_W (fun _ _ _ => True) (dm_P (QP h (RI (fun x => x = 1)) []) 0 0) l 46 2 0 0 15 [some (.ref 2), some (.ref b1), some (dI a), some (dI e), some (dI i), none] [] h 0 0 := by
    intro k
    induction k with
    | zero => intro i hm; exact absurd hm (Nat.not_lt_zero _)
    | succ k ih =>
      intro i hm i0 i8
      refine dr_iload rfl rfl ?_
      refine di_aload_n rfl rfl ?_
      refine dr_virt rfl rfl rfl rfl hc.1 (f_X0_count l hl hI hb1 hc) (by decide) (by decide) (by decide) (Nat.le_of_ble_eq_true rfl) kNP (kIP (fun y yf ya yb => ?_))
      obtain ⟨yc, yd, ye⟩ := yf
      have ye2 := ye.symm
      subst ye2
      refine di_icmp_ge rfl rfl (by omega) (by omega) (by omega) (by omega) (fun c => ?_) (fun c => ?_)
      · refine di_const rfl ?_
        exact dr_iret (ty := .boolean) rfl rfl (nar_z (by omega) (by omega)) (by decide) (by decide) ⟨rfl, 1, rfl, by omega, by omega, rfl⟩
      have hPi := hP i i0 (by omega)
      have J : ∀ t : Int, 0 ≤ t → t ≤ 1 → (t = 1 ↔ (a ≤ i ∧ i < e)) → dm_W (fun _ _ _ => True) (dm_P (QP h (RI (fun x => x = 1)) []) 0 0) l 46 2 0 0 41 [some (.ref 2), some (.ref b1), some (dI a), some (dI e), some (dI i), none] [dI t] h 0 0 := by
        intro t q0 q1 qe
        refine di_istore (ls2 := [some (.ref 2), some (.ref b1), some (dI a), some (dI e), some (dI i), some (dI t)]) rfl rfl rfl ?_
        refine dr_iload rfl rfl ?_
        refine di_aload_n rfl rfl ?_
        refine di_aload_n rfl rfl ?_
        refine dr_iload rfl rfl ?_
        refine dr_virt rfl rfl rfl rfl hc.1 (f_X0_toAt l hl hI hb1 hc (a1 := i) (by omega) (by omega)) (by decide) (by decide) (by decide) (Nat.le_of_ble_eq_true rfl) kNP (kIP (fun z zf za zb => ?_))
        obtain ⟨zc, zd, zk, zk2, zk3⟩ := zf
        have ze := zk i0 (by omega)
        refine dr_virt rfl rfl rfl rfl p1 (f_X4_isWithin l hl hI hS hB (a1 := z) (by omega) (by omega)) (by decide) (by decide) (by decide) (Nat.le_of_ble_eq_true rfl) kNP (kIP (fun x xf xa xb => ?_))
        obtain ⟨xc, xd, xk, xk2⟩ := xf
        have hx : t = x := by
          have hd : inP σ.2.1.2.1 σ.2.1.2.2 (cv u i) = true ↔ x = 1 := by
            constructor
            · intro q
              have q := of_decide_eq_true q
              rw [← ze] at q
              refine Classical.byContradiction fun hn => ?_
              have := xk2 (by omega)
              omega
            · intro q
              have := xk q
              exact inP_t (by rw [← ze]; exact this)
          have := hPi.symm.trans hd
          by_cases q : x = 1
          · rw [q]; exact qe.mpr (this.mpr q)
          · have : t ≠ 1 := fun z => q (this.mp (qe.mp z))
            omega
        refine di_icmp_eq rfl rfl (by omega) (by omega) (by omega) (by omega) (fun c2 => ?_) (fun c2 => ?_)
        · refine di_iinc (ls2 := [some (.ref 2), some (.ref b1), some (dI a), some (dI e), some (dI (i + 1)), some (dI t)]) rfl rfl rfl rfl ?_
          refine dr_goto rfl rfl ?_
          refine dm_wk (ls2 := [some (.ref 2), some (.ref b1), some (dI a), some (dI e), some (dI (i + 1)), none]) ⟨Or.inr rfl, Or.inr rfl, Or.inr rfl, Or.inr rfl, Or.inr rfl, Or.inl rfl, trivial⟩ ?_
          exact ih (i + 1) (by omega) (by omega) (by omega)
        · exact absurd hx c2
      refine dr_iload_n rfl rfl ?_
      refine dr_iload rfl rfl ?_
      refine di_icmp_gt rfl rfl (by omega) (by omega) (by omega) (by omega) (fun c2 => ?_) (fun c2 => ?_)
      · refine di_const rfl ?_
        exact J 0 (by decide) (by decide) ⟨fun q => absurd q (by decide), fun q => by omega⟩
      refine dr_iload rfl rfl ?_
      refine dr_iload_n rfl rfl ?_
      refine di_icmp_ge rfl rfl (by omega) (by omega) (by omega) (by omega) (fun c3 => ?_) (fun c3 => ?_)
      · refine di_const rfl ?_
        exact J 0 (by decide) (by decide) ⟨fun q => absurd q (by decide), fun q => by omega⟩
      · refine di_const rfl ?_
        refine dr_goto rfl rfl ?_
        exact J 1 (by decide) (by decide) ⟨fun _ => ⟨by omega, by omega⟩, fun _ => rfl⟩
  exact L _ 0 (Nat.lt_succ_self _) (by omega) (by omega)
def QS1 (kc km : Int) (h : dm_H) : dm_Rs := fun r h' => Inv kc km h' ∧ FrT h h' ∧ r = .inl (some (dI 1))
set_option maxHeartbeats 4000000 in
set_option maxRecDepth 100000 in
theorem c_X6_isSound (l : Launch) (hl : l.stackTraces = false) {kc km : Int} {h : dm_H} (hI : Inv kc km h) {B : Int} {σ : St} (hS : CSt B σ h) (hB : B ≤ 90000) : dm_M l 101 7 0 0 [.ref 0] h (QS1 kc km h) := by
  refine dm_M_of dk_101 hl rfl (Nat.le_of_ble_eq_true rfl) ?_
  show dm_W (fun _ _ _ => True) (dm_P (QS1 kc km h) 0 0) l 101 7 0 0 0 [some (.ref 0), none] [] h 0 0
  refine di_const rfl ?_
  refine di_istore_n (ls2 := [some (.ref 0), some (dI 0)]) rfl rfl rfl ?_
  have L : ∀ (k : Nat) (i : Int) (h2 : dm_H), (3 - i).toNat < k → 0 ≤ i → i ≤ 3 → Inv kc km h2 → FrT h h2 → dm_W (fun _ _ _ => True) (dm_P (QS1 kc km h) 0 0) l 101 7 0 0 2 [some (.ref 0), some (dI i)] [] h2 0 0 := by
    intro k
    induction k with
    | zero => intro i h2 hm; exact absurd hm (Nat.not_lt_zero _)
    | succ k ih =>
      intro i h2 hm i0 i3 hI2 hF2
      have hS2 := CSt_T hS hF2
      obtain ⟨r, c1, c2, hc⟩ := I_cls hI2
      obtain ⟨d8, -, -, ht8⟩ := I_tr hI2
      refine dr_iload_n rfl rfl ?_
      refine di_const rfl ?_
      refine di_icmp_ge rfl rfl (by omega) (by omega) (by omega) (by omega) (fun c => ?_) (fun c => ?_)
      · obtain ⟨p1, p2, p3, p4⟩ := id hS2.2
        refine di_aload_n rfl rfl ?_
        refine dr_getf rfl hc rfl ?_
        refine dr_getf rfl p1 rfl ?_
        refine dr_stat rfl rfl rfl rfl (s_X6_isBook l hl hI2 (a0 := σ.2.1.1) (by omega) (by omega)) (by decide) (by decide) (by decide) (Nat.le_of_ble_eq_true rfl) kNP (kIP (fun y yf ya yb => ?_))
        obtain ⟨y0, y1, y2, y3⟩ := yf
        refine di_if_eq rfl rfl (by omega) (by omega) (fun c9 => ?_) (fun c9 => ?_)
        · refine di_const rfl ?_
          refine dr_goto rfl rfl ?_
          exact dr_iret (ty := .boolean) rfl rfl (nar_z (by omega) (by omega)) (by decide) (by decide) ⟨hI2, hF2, rfl⟩
        · refine di_aload_n rfl rfl ?_
          refine dr_getf rfl hc rfl ?_
          refine di_aload_n rfl rfl ?_
          refine dr_getf rfl hc rfl ?_
          refine di_aload_n rfl rfl ?_
          refine dr_getf rfl hc rfl ?_
          refine dr_getf rfl p1 rfl ?_
          refine paaB rfl (I_bks hI2) (by omega) (by omega) (fun r9 hr9 hk9 => ?_)
          obtain ⟨s, m, u, w, hcb, hr, ht, ma, mb⟩ := CSt_bk hS2 (k := σ.2.1.1) (b := r9) (by omega) (by omega) hk9
          refine dr_virt rfl rfl rfl rfl p1 (f_X4_isTrueTo l hl hI2 hS2 hB hr9 (by omega) (by omega) hk9 hcb hr ht ma mb) (by decide) (by decide) (by decide) (Nat.le_of_ble_eq_true rfl) kNP (kIP (fun y yf ya yb => ?_))
          have yf : y = 1 := yf
          subst yf
          refine di_if_eq rfl rfl (by omega) (by omega) (fun c8 => absurd c8 (by decide)) (fun _ => ?_)
          refine di_const rfl ?_
          refine dr_goto rfl rfl ?_
          exact dr_iret (ty := .boolean) rfl rfl (nar_z (by omega) (by omega)) (by decide) (by decide) ⟨hI2, hF2, rfl⟩
      refine di_aload_n rfl rfl ?_
      refine dr_getf rfl hc rfl ?_
      refine di_aload_n rfl rfl ?_
      refine dr_getf rfl hc rfl ?_
      refine dr_iload_n rfl rfl ?_
      refine paaB rfl (I_bks hI2) (by omega) (by omega) (fun r9 hr9 hk9 => ?_)
      obtain ⟨s, m, u, w, hcb, hr, ht, ma, mb⟩ := CSt_bk hS2 (k := i) (b := r9) i0 (by omega) hk9
      refine dr_virt rfl rfl rfl rfl ht8 (f_X5_measure l hl hI2 hr9 hcb hr ht) (by decide) (by decide) (by decide) (Nat.le_of_ble_eq_true rfl) kQTmN (kQTm (fun h3 hI3 hF3 d mv he n v m2 rv hT => ?_))
      have hF4 := FrT_tr hF2 hF3
      have hc3 := CA_T hF3 hr9 hcb
      obtain ⟨r', c1', c2', hcc⟩ := I_cls hI3
      refine di_aload_n rfl rfl ?_
      refine dr_getf rfl hcc rfl ?_
      refine di_aload_n rfl rfl ?_
      refine dr_getf rfl hcc rfl ?_
      refine dr_iload_n rfl rfl ?_
      refine paaB rfl (I_bks hI3) (by omega) (by omega) (fun r8 hr8 hk8 => ?_)
      have er : r8 = r9 := by omega
      subst er
      refine dr_virt rfl rfl rfl rfl hT.1.1 (f_X5_passes l hl hI3 hr8 hc3 hr ht hT) (by decide) (by decide) (by decide) (Nat.le_of_ble_eq_true rfl) kChN (kChI (Φ := fun n v x => x = 1) (fun h5 hI5 hK n3 v3 x hA3 xf xa xb => ?_))
      subst xf
      refine di_if_ne rfl rfl (by omega) (by omega) (fun _ => ?_) (fun c8 => absurd c8 (by decide))
      refine di_iinc (ls2 := [some (.ref 0), some (dI (i + 1))]) rfl rfl rfl rfl ?_
      refine dr_goto rfl rfl ?_
      exact ih (i + 1) h5 (by omega) (by omega) (by omega) hI5 (FrT_tr hF4 (FrT_K hK (by decide) (by decide)))
  exact L _ 0 h (Nat.lt_succ_self _) (by omega) (by omega) hI FrT_rf
/-! ===== the model's isSound: helpers ===== -/
def amO (f : Int → Int) (A a : Int) : Prop := ∀ r k : Int, 0 ≤ k → k < r → r < a → hbt A r → hbt A k → mt f k r
def amN (f : Int → Int) (A a b : Int) : Prop := ∀ k : Int, 0 ≤ k → k < b → hbt A a → hbt A k → mt f k a
section AM
variable {f : Int → Int} {A a b n o q h : Int}
theorem amO_0 : amO f A 0 := fun r k h0 h1 h2 => by omega
theorem amN_0 : amN f A a 0 := fun k h0 h1 => by omega
theorem amN_s (h : amN f A a b) (q : hbt A a → hbt A b → mt f b a) : amN f A a (b + 1) := fun k k0 k1 h1 h2 => by
  by_cases e : k = b
  · rw [e] at h2 ⊢; exact q h1 h2
  · exact h k k0 (by omega) h1 h2
theorem amO_s (h : amO f A a) (q : amN f A a b) (e : a ≤ b) : amO f A (a + 1) := fun r k k0 k1 r1 h1 h2 => by
  by_cases c : r = a
  · rw [c] at h1 k1 ⊢; exact q k k0 (by omega) h1 h2
  · exact h r k k0 k1 (by omega) h1 h2
theorem am_e (hok : okf f n) (h : amO f A a) (e : n ≤ a) : ∀ r k : Int, 0 ≤ r → r < n → 0 ≤ k → k < n → hbt A r → hbt A k → mt f k r := fun r k r0 r1 k0 k1 hr hk => by
  rcases Int.lt_trichotomy r k with c | c | c
  · exact mt_sy (h k r r0 c (by omega) hk hr)
  · rw [c]; exact ⟨hok k k0 k1, hok k k0 k1⟩
  · exact h r k k0 c (by omega) hr hk
/-- held places, one after the other -/
def alI (f : Int → Int) (n A h q i : Int) : Prop := (h = 1 ∧ ∃ k : Int, (0 ≤ k ∧ k < n) ∧ hbt A k ∧ f k % 100 ≤ q ∧ q ≤ f k / 100) ∨ (h = 0 ∧ ∀ k : Int, 0 ≤ k → k < i → ¬ (hbt A k ∧ f k % 100 ≤ q ∧ q ≤ f k / 100))
theorem alI_0 : alI f n A 0 q 0 := Or.inr ⟨rfl, fun k h0 h1 => by omega⟩
theorem alI_n {i : Int} (h9 : alI f n A h q i) (z : ¬ (hbt A i ∧ f i % 100 ≤ q ∧ q ≤ f i / 100)) : alI f n A h q (i + 1) := h9.imp id (fun ⟨a, b⟩ => ⟨a, fun k k0 k1 => by
  by_cases e : k = i
  · rw [e]; exact z
  · exact b k k0 (by omega)⟩)
theorem alI_y {i h2 : Int} (e : h2 = 1) (i0 : 0 ≤ i) (i1 : i < n) (z : hbt A i ∧ f i % 100 ≤ q ∧ q ≤ f i / 100) : alI f n A h2 q (i + 1) := Or.inl ⟨e, i, ⟨i0, i1⟩, z⟩
def alO (f : Int → Int) (n A a q : Int) : Prop := ∀ p : Int, a ≤ p → p < q → ∃ k : Int, (0 ≤ k ∧ k < n) ∧ hbt A k ∧ f k % 100 ≤ p ∧ p ≤ f k / 100
theorem alO_0 : alO f n A a a := fun p h0 h1 => by omega
theorem alO_s {i : Int} (h9 : alO f n A a q) (z : alI f n A h q i) (e : h ≠ 0) : alO f n A a (q + 1) := fun p p0 p1 => by
  by_cases c : p = q
  · rw [c]
    rcases z with z | z
    · exact z.2
    · exact absurd z.1 e
  · exact h9 p p0 (by omega)
theorem al_y (h9 : alO f n A a q) (e : b < q) : cov f n A a b := fun p p0 p1 => h9 p p0 (by omega)
theorem al_n {i : Int} (z : alI f n A h q i) (e : h = 0) (hi : n ≤ i) (q0 : a ≤ q) (q1 : q ≤ b) : ¬ cov f n A a b := fun hc => by
  rcases z with z | z
  · omega
  · obtain ⟨k, ⟨k0, k1⟩, hk⟩ := hc q q0 q1
    exact z.2 k k0 (by omega) hk
end AM
theorem okV_f {v : List Value} {n : Nat} (h : okV v n) : okf (cv v) n := fun j j0 j1 => (h j j0 j1).2
set_option maxHeartbeats 4000000 in
set_option maxRecDepth 100000 in
/-- EarlyendsModel.areAllMeeting -/
theorem s_X8_areAllMeeting_f (l : Launch) (hl : l.stackTraces = false) {kc km : Int} {h : dm_H} (hI : Inv kc km h) {b0 n0 : Nat} {v0 : List Value} (hv0 : h[b0]? = some (20, v0)) (hz0 : arr n0 okR v0) (hn0 : n0 ≤ 8) {a1 : Int} (h1a : 0 ≤ a1) (h1b : a1 ≤ 255) (hv : okV v0 n0) : dm_M l 216 2 0 0 [.ref b0, dI (a1)] h (QP h (RI (fun x => 0 ≤ x ∧ x ≤ 1 ∧ (x = 1 → ∀ r k : Int, 0 ≤ r → r < n0 → 0 ≤ k → k < n0 → hbt a1 r → hbt a1 k → mt (cv v0) k r))) []) := by
  refine dm_M_of dk_216 hl rfl (Nat.le_of_ble_eq_true rfl) ?_
  show dm_W (fun _ _ _ => True) (dm_P (QP h (RI (fun x => 0 ≤ x ∧ x ≤ 1 ∧ (x = 1 → ∀ r k : Int, 0 ≤ r → r < n0 → 0 ≤ k → k < n0 → hbt a1 r → hbt a1 k → mt (cv v0) k r))) []) 0 0) l 216 2 0 0 0 [some (.ref b0), some (dI (a1)), none, none] [] h 0 0
  have lt0 := App_lt hv0
  refine di_const rfl ?_
  refine di_istore_n (ls2 := [some (.ref b0), some (dI (a1)), some (dI (0)), none]) rfl rfl rfl ?_
  have L2 : ∀ (n : Nat) (i1 : Int), (8 - i1).toNat < n → 0 ≤ i1 → i1 ≤ 8 → amO (cv v0) a1 i1 → dm_W (fun _ _ _ => True) (dm_P (QP h (RI (fun x => 0 ≤ x ∧ x ≤ 1 ∧ (x = 1 → ∀ r k : Int, 0 ≤ r → r < n0 → 0 ≤ k → k < n0 → hbt a1 r → hbt a1 k → mt (cv v0) k r))) []) 0 0) l 216 2 0 0 2 [some (.ref b0), some (dI (a1)), some (dI (i1)), none] [] h 0 0 := by
    intro n
    induction n with
    | zero => intro i1 hm; exact absurd hm (Nat.not_lt_zero _)
    | succ n ih =>
      intro i1 hm5 hb3 hb4 PO
      have ihL2 := ih
      clear ih
      refine dr_iload_n rfl rfl ?_
      refine di_aload_n rfl rfl ?_
      refine di_alen (n := n0) rfl hv0 (Or.inl rfl) hz0.1 ?_
      refine di_icmp_ge rfl rfl (by omega) (by omega) (by omega) (by omega) (fun c6 => ?_) (fun c6 => ?_)
      · skip
        refine di_const rfl ?_
        exact dr_iret (ty := .boolean) rfl rfl (nar_z (by omega) (by omega)) (by decide) (by decide) ⟨rfl, 1, ⟨by omega, by omega, fun _ => am_e (okV_f hv) PO (by omega)⟩, by omega, by omega, rfl⟩
      · skip
        refine di_const rfl ?_
        refine di_istore_n (ls2 := [some (.ref b0), some (dI (a1)), some (dI (i1)), some (dI (0))]) rfl rfl rfl ?_
        have L8 : ∀ (n : Nat) (i7 : Int), (8 - i7).toNat < n → 0 ≤ i7 → i7 ≤ 8 → amN (cv v0) a1 i1 i7 → dm_W (fun _ _ _ => True) (dm_P (QP h (RI (fun x => 0 ≤ x ∧ x ≤ 1 ∧ (x = 1 → ∀ r k : Int, 0 ≤ r → r < n0 → 0 ≤ k → k < n0 → hbt a1 r → hbt a1 k → mt (cv v0) k r))) []) 0 0) l 216 2 0 0 10 [some (.ref b0), some (dI (a1)), some (dI (i1)), some (dI (i7))] [] h 0 0 := by
          intro n
          induction n with
          | zero => intro i7 hm; exact absurd hm (Nat.not_lt_zero _)
          | succ n ih =>
            intro i7 hm11 hb9 hb10 PN
            have ihL8 := ih
            clear ih
            refine dr_iload_n rfl rfl ?_
            refine dr_iload_n rfl rfl ?_
            refine di_icmp_ge rfl rfl (by omega) (by omega) (by omega) (by omega) (fun c12 => ?_) (fun c12 => ?_)
            · skip
              refine di_iinc (ls2 := [some (.ref b0), some (dI (a1)), some (dI ((i1 + 1))), some (dI (i7))]) rfl rfl rfl rfl ?_
              refine dr_goto rfl rfl ?_
              refine dm_wk (ls2 := [some (.ref b0), some (dI (a1)), some (dI ((i1 + 1))), none]) ⟨Or.inr rfl, Or.inr rfl, Or.inr rfl, Or.inl rfl, trivial⟩ ?_
              exact ihL2 ((i1 + 1)) (by omega) (by omega) (by omega)  (amO_s PO PN (by omega))
            · skip
              refine dr_iload_n rfl rfl ?_
              refine dr_iload_n rfl rfl ?_
              refine dr_stat rfl rfl rfl rfl (s_X8_isOf_s l hl hI (a0 := a1) (by omega) (by omega) (a1 := i1) (by omega) (by omega)) (by decide) (by decide) (by decide) (Nat.le_of_ble_eq_true rfl) kNP (kIP (fun y13 y13f y13a y13b => ?_))
              have y13g : 0 ≤ y13 ∧ y13 ≤ 1 ∧ bb (a1) ((i1) + 1) = bb (a1) (i1) + y13 := y13f
              have y13h := isof_h (S := a1) (r := i1) (by omega) y13g.2.2
              refine di_if_eq rfl rfl (by omega) (by omega) (fun c14 => ?_) (fun c14 => ?_)
              · skip
                refine di_iinc (ls2 := [some (.ref b0), some (dI (a1)), some (dI (i1)), some (dI ((i7 + 1)))]) rfl rfl rfl rfl ?_
                refine dr_goto rfl rfl ?_
                exact ihL8 ((i7 + 1)) (by omega) (by omega) (by omega)  (amN_s PN (fun h1 _ => absurd h1 (y13h.2 (by omega))))
              · skip
                refine dr_iload_n rfl rfl ?_
                refine dr_iload_n rfl rfl ?_
                refine dr_stat rfl rfl rfl rfl (s_X8_isOf_s l hl hI (a0 := a1) (by omega) (by omega) (a1 := i7) (by omega) (by omega)) (by decide) (by decide) (by decide) (Nat.le_of_ble_eq_true rfl) kNP (kIP (fun y15 y15f y15a y15b => ?_))
                have y15g : 0 ≤ y15 ∧ y15 ≤ 1 ∧ bb (a1) ((i7) + 1) = bb (a1) (i7) + y15 := y15f
                have y15h := isof_h (S := a1) (r := i7) (by omega) y15g.2.2
                refine di_if_eq rfl rfl (by omega) (by omega) (fun c16 => ?_) (fun c16 => ?_)
                · skip
                  refine di_iinc (ls2 := [some (.ref b0), some (dI (a1)), some (dI (i1)), some (dI ((i7 + 1)))]) rfl rfl rfl rfl ?_
                  refine dr_goto rfl rfl ?_
                  exact ihL8 ((i7 + 1)) (by omega) (by omega) (by omega)  (amN_s PN (fun _ h2 => absurd h2 (y15h.2 (by omega))))
                · skip
                  refine di_aload_n rfl rfl ?_
                  refine dr_iload_n rfl rfl ?_
                  refine di_iald rfl hv0 hz0 (by omega) (by omega) (fun x17 x17f x17a x17b x17v => ?_)
                  have x17g : -1 ≤ x17 ∧ x17 ≤ 9999 := x17f
                  have x17w : cv v0 (i1) = x17 := cv_eq x17v x17a x17b
                  have x17o := hv (i1) (by omega) (by omega)
                  rw [x17w] at x17o
                  refine di_aload_n rfl rfl ?_
                  refine dr_iload_n rfl rfl ?_
                  refine di_iald rfl hv0 hz0 (by omega) (by omega) (fun x18 x18f x18a x18b x18v => ?_)
                  have x18g : -1 ≤ x18 ∧ x18 ≤ 9999 := x18f
                  have x18w : cv v0 (i7) = x18 := cv_eq x18v x18a x18b
                  have x18o := hv (i7) (by omega) (by omega)
                  rw [x18w] at x18o
                  refine dr_stat rfl rfl rfl rfl (s_X8_areMeeting_d l hl hI (a0 := x17) (by omega) (by omega) (a1 := x18) (by omega) (by omega) (by omega) (by omega)) (by decide) (by decide) (by decide) (Nat.le_of_ble_eq_true rfl) kNP (kIP (fun y19 y19f y19a y19b => ?_))
                  have y19g : 0 ≤ y19 ∧ y19 ≤ 1 ∧ (y19 = 1 → (x17) % 100 ≤ (x18) / 100 ∧ (x18) % 100 ≤ (x17) / 100) ∧ (y19 = 0 → (x18) / 100 < (x17) % 100 ∨ (x17) / 100 < (x18) % 100) := y19f
                  refine di_if_ne rfl rfl (by omega) (by omega) (fun c20 => ?_) (fun c20 => ?_)
                  · skip
                    refine di_iinc (ls2 := [some (.ref b0), some (dI (a1)), some (dI (i1)), some (dI ((i7 + 1)))]) rfl rfl rfl rfl ?_
                    refine dr_goto rfl rfl ?_
                    exact ihL8 ((i7 + 1)) (by omega) (by omega) (by omega)  (amN_s PN (fun _ _ => (show cv v0 i7 % 100 ≤ cv v0 i1 / 100 ∧ cv v0 i1 % 100 ≤ cv v0 i7 / 100 by omega)))
                  · skip
                    refine di_const rfl ?_
                    exact dr_iret (ty := .boolean) rfl rfl (nar_z (by omega) (by omega)) (by decide) (by decide) ⟨rfl, 0, ⟨by omega, by omega, fun e => absurd e (by decide)⟩, by omega, by omega, rfl⟩
        exact L8 _ (0) (Nat.lt_succ_self _) (by omega) (by omega)  amN_0
  exact L2 _ (0) (Nat.lt_succ_self _) (by omega) (by omega)  amO_0
set_option maxHeartbeats 4000000 in
set_option maxRecDepth 100000 in
/-- EarlyendsModel.isAllHeld -/
theorem s_X8_isAllHeld_f (l : Launch) (hl : l.stackTraces = false) {kc km : Int} {h : dm_H} (hI : Inv kc km h) {b0 n0 : Nat} {v0 : List Value} (hv0 : h[b0]? = some (20, v0)) (hz0 : arr n0 okR v0) (hn0 : n0 ≤ 8) {a1 : Int} (h1a : 0 ≤ a1) (h1b : a1 ≤ 255) {a2 : Int} (h2a : -1 ≤ a2) (h2b : a2 ≤ 99) {a3 : Int} (h3a : -1 ≤ a3) (h3b : a3 ≤ 99) (hv : okV v0 n0) : dm_M l 217 1 0 0 [.ref b0, dI (a1), dI (a2), dI (a3)] h (QP h (RI (fun x => 0 ≤ x ∧ x ≤ 1 ∧ (x = 1 → cov (cv v0) n0 a1 a2 a3) ∧ (x = 0 → ¬ cov (cv v0) n0 a1 a2 a3))) []) := by
  refine dm_M_of dk_217 hl rfl (Nat.le_of_ble_eq_true rfl) ?_
  show dm_W (fun _ _ _ => True) (dm_P (QP h (RI (fun x => 0 ≤ x ∧ x ≤ 1 ∧ (x = 1 → cov (cv v0) n0 a1 a2 a3) ∧ (x = 0 → ¬ cov (cv v0) n0 a1 a2 a3))) []) 0 0) l 217 1 0 0 0 [some (.ref b0), some (dI (a1)), some (dI (a2)), some (dI (a3)), none, none, none] [] h 0 0
  have lt0 := App_lt hv0
  refine dr_iload_n rfl rfl ?_
  refine di_istore (ls2 := [some (.ref b0), some (dI (a1)), some (dI (a2)), some (dI (a3)), some (dI (a2)), none, none]) rfl rfl rfl ?_
  have L2 : ∀ (n : Nat) (i1 : Int), (100 - i1).toNat < n → -1 ≤ i1 → i1 ≤ 100 → a2 ≤ i1 → alO (cv v0) n0 a1 a2 i1 → dm_W (fun _ _ _ => True) (dm_P (QP h (RI (fun x => 0 ≤ x ∧ x ≤ 1 ∧ (x = 1 → cov (cv v0) n0 a1 a2 a3) ∧ (x = 0 → ¬ cov (cv v0) n0 a1 a2 a3))) []) 0 0) l 217 1 0 0 3 [some (.ref b0), some (dI (a1)), some (dI (a2)), some (dI (a3)), some (dI (i1)), none, none] [] h 0 0 := by
    intro n
    induction n with
    | zero => intro i1 hm; exact absurd hm (Nat.not_lt_zero _)
    | succ n ih =>
      intro i1 hm6 hb3 hb4 hx5 PO
      have ihL2 := ih
      clear ih
      refine dr_iload rfl rfl ?_
      refine dr_iload_n rfl rfl ?_
      refine di_icmp_gt rfl rfl (by omega) (by omega) (by omega) (by omega) (fun c7 => ?_) (fun c7 => ?_)
      · skip
        refine di_const rfl ?_
        exact dr_iret (ty := .boolean) rfl rfl (nar_z (by omega) (by omega)) (by decide) (by decide) ⟨rfl, 1, ⟨by omega, by omega, fun _ => al_y PO (by omega), fun e => absurd e (by decide)⟩, by omega, by omega, rfl⟩
      · skip
        refine di_const rfl ?_
        refine di_istore (ls2 := [some (.ref b0), some (dI (a1)), some (dI (a2)), some (dI (a3)), some (dI (i1)), some (dI (0)), none]) rfl rfl rfl ?_
        refine di_const rfl ?_
        refine di_istore (ls2 := [some (.ref b0), some (dI (a1)), some (dI (a2)), some (dI (a3)), some (dI (i1)), some (dI (0)), some (dI (0))]) rfl rfl rfl ?_
        have L10 : ∀ (n : Nat) (i8 : Int) (i9 : Int), (8 - i9).toNat < n → 0 ≤ i8 → i8 ≤ 1 → 0 ≤ i9 → i9 ≤ 8 → alI (cv v0) n0 a1 i8 i1 i9 → dm_W (fun _ _ _ => True) (dm_P (QP h (RI (fun x => 0 ≤ x ∧ x ≤ 1 ∧ (x = 1 → cov (cv v0) n0 a1 a2 a3) ∧ (x = 0 → ¬ cov (cv v0) n0 a1 a2 a3))) []) 0 0) l 217 1 0 0 15 [some (.ref b0), some (dI (a1)), some (dI (a2)), some (dI (a3)), some (dI (i1)), some (dI (i8)), some (dI (i9))] [] h 0 0 := by
          intro n
          induction n with
          | zero => intro i8 i9 hm; exact absurd hm (Nat.not_lt_zero _)
          | succ n ih =>
            intro i8 i9 hm15 hb11 hb12 hb13 hb14 PI
            have ihL10 := ih
            clear ih
            refine dr_iload rfl rfl ?_
            refine di_aload_n rfl rfl ?_
            refine di_alen (n := n0) rfl hv0 (Or.inl rfl) hz0.1 ?_
            refine di_icmp_ge rfl rfl (by omega) (by omega) (by omega) (by omega) (fun c16 => ?_) (fun c16 => ?_)
            · skip
              refine dr_iload rfl rfl ?_
              refine di_if_ne rfl rfl (by omega) (by omega) (fun c17 => ?_) (fun c17 => ?_)
              · skip
                refine di_iinc (ls2 := [some (.ref b0), some (dI (a1)), some (dI (a2)), some (dI (a3)), some (dI ((i1 + 1))), some (dI (i8)), some (dI (i9))]) rfl rfl rfl rfl ?_
                refine dr_goto rfl rfl ?_
                refine dm_wk (ls2 := [some (.ref b0), some (dI (a1)), some (dI (a2)), some (dI (a3)), some (dI ((i1 + 1))), none, none]) ⟨Or.inr rfl, Or.inr rfl, Or.inr rfl, Or.inr rfl, Or.inr rfl, Or.inl rfl, Or.inl rfl, trivial⟩ ?_
                exact ihL2 ((i1 + 1)) (by omega) (by omega) (by omega) (by omega)  (alO_s PO PI (by omega))
              · skip
                refine di_const rfl ?_
                exact dr_iret (ty := .boolean) rfl rfl (nar_z (by omega) (by omega)) (by decide) (by decide) ⟨rfl, 0, ⟨by omega, by omega, fun e => absurd e (by decide), fun _ => al_n PI (by omega) (by omega) (by omega) (by omega)⟩, by omega, by omega, rfl⟩
            · skip
              refine dr_iload_n rfl rfl ?_
              refine dr_iload rfl rfl ?_
              refine dr_stat rfl rfl rfl rfl (s_X8_isOf_s l hl hI (a0 := a1) (by omega) (by omega) (a1 := i9) (by omega) (by omega)) (by decide) (by decide) (by decide) (Nat.le_of_ble_eq_true rfl) kNP (kIP (fun y18 y18f y18a y18b => ?_))
              have y18g : 0 ≤ y18 ∧ y18 ≤ 1 ∧ bb (a1) ((i9) + 1) = bb (a1) (i9) + y18 := y18f
              have y18h := isof_h (S := a1) (r := i9) (by omega) y18g.2.2
              refine di_if_eq rfl rfl (by omega) (by omega) (fun c19 => ?_) (fun c19 => ?_)
              · skip
                refine di_iinc (ls2 := [some (.ref b0), some (dI (a1)), some (dI (a2)), some (dI (a3)), some (dI (i1)), some (dI (i8)), some (dI ((i9 + 1)))]) rfl rfl rfl rfl ?_
                refine dr_goto rfl rfl ?_
                exact ihL10 (i8) ((i9 + 1)) (by omega) (by omega) (by omega) (by omega) (by omega)  (alI_n PI (fun (q9 : hbt a1 i9 ∧ cv v0 i9 % 100 ≤ i1 ∧ i1 ≤ cv v0 i9 / 100) => absurd q9.1 (y18h.2 (by omega))))
              · skip
                refine di_aload_n rfl rfl ?_
                refine dr_iload rfl rfl ?_
                refine di_iald rfl hv0 hz0 (by omega) (by omega) (fun x20 x20f x20a x20b x20v => ?_)
                have x20g : -1 ≤ x20 ∧ x20 ≤ 9999 := x20f
                have x20w : cv v0 (i9) = x20 := cv_eq x20v x20a x20b
                have x20o := hv (i9) (by omega) (by omega)
                rw [x20w] at x20o
                refine dr_iload rfl rfl ?_
                refine dr_stat rfl rfl rfl rfl (s_X8_isHolding_d l hl hI (a0 := x20) (by omega) (by omega) (a1 := i1) (by omega) (by omega)) (by decide) (by decide) (by decide) (Nat.le_of_ble_eq_true rfl) kNP (kIP (fun y21 y21f y21a y21b => ?_))
                have y21g : 0 ≤ y21 ∧ y21 ≤ 1 ∧ (y21 = 1 → (x20) % 100 ≤ (i1) ∧ (i1) ≤ (x20) / 100) ∧ (y21 = 0 → (i1) < (x20) % 100 ∨ (x20) / 100 < (i1)) := y21f
                refine di_if_eq rfl rfl (by omega) (by omega) (fun c22 => ?_) (fun c22 => ?_)
                · skip
                  refine di_iinc (ls2 := [some (.ref b0), some (dI (a1)), some (dI (a2)), some (dI (a3)), some (dI (i1)), some (dI (i8)), some (dI ((i9 + 1)))]) rfl rfl rfl rfl ?_
                  refine dr_goto rfl rfl ?_
                  exact ihL10 (i8) ((i9 + 1)) (by omega) (by omega) (by omega) (by omega) (by omega)  (alI_n PI (fun (q9 : hbt a1 i9 ∧ cv v0 i9 % 100 ≤ i1 ∧ i1 ≤ cv v0 i9 / 100) => by have q8 := q9.2; clear q9; omega))
                · skip
                  refine di_const rfl ?_
                  refine di_istore (ls2 := [some (.ref b0), some (dI (a1)), some (dI (a2)), some (dI (a3)), some (dI (i1)), some (dI (1)), some (dI (i9))]) rfl rfl rfl ?_
                  refine di_iinc (ls2 := [some (.ref b0), some (dI (a1)), some (dI (a2)), some (dI (a3)), some (dI (i1)), some (dI (1)), some (dI ((i9 + 1)))]) rfl rfl rfl rfl ?_
                  refine dr_goto rfl rfl ?_
                  exact ihL10 (1) ((i9 + 1)) (by omega) (by omega) (by omega) (by omega) (by omega)  (alI_y rfl (by omega) (by omega) ⟨y18h.1 (by omega), by omega, by omega⟩)
        exact L10 _ (0) (0) (Nat.lt_succ_self _) (by omega) (by omega) (by omega) (by omega)  alI_0
  exact L2 _ (a2) (Nat.lt_succ_self _) (by omega) (by omega) (by omega)  alO_0
/-! ===== the model's isSetSound ===== -/
section MG
variable {F f g : Int → Int} {s A n d p : Int}
theorem ap_leG (hr : Rep f g s F) (ht : Srt f s) (hok : okf f s) (hS : ∀ r : Int, 0 ≤ r → r ≤ 7 → hbt A r → r < s) (hn : chn F n.toNat = -1) (n0 : 0 ≤ n) (ha : apt f s A) : bb A 8 ≤ n := by
  by_cases hz : bb A 8 = 0
  · omega
  · have b0 := bb_nn A 8
    obtain ⟨k, k0, k1, k2, k3⟩ := bb_pv (A := A) 8 (by show 0 < bb A 8; omega)
    have k3 : bb A k + 1 = bb A 8 := k3
    obtain ⟨h1, h2, -⟩ := ch_ea hr ht hok ha 8 k k0 k1 (hS k k0 (by omega) k2) k2
    have := mo_le hn h1 h2
    have := bb_nn A k
    omega
theorem me_leG (hr : Rep f g s F) (hok : okf f s) (s8 : s ≤ 8) (hS : hsP A s (hbt A)) (hp : isDp F p) (hd : d = cnt f (hoP p) s.toNat) (hm : ∀ r k : Int, 0 ≤ r → r < s → 0 ≤ k → k < s → hbt A r → hbt A k → mt f k r) : bb A 8 ≤ d := by
  have d0 := (cnt_b f (hoP p) s.toNat).1
  rcases he_lly hr.1.1 s8 hok hS hm with e | ⟨q, ⟨j, j0, j1, ej⟩, h⟩
  · omega
  · have h9 := Rep_at hr j0 j1
    rcases hp with ⟨-, hz⟩ | ⟨-, -, hx, -⟩
    · exact absurd (hz _) (Rep_yes hr j0 j1 rfl).2.1
    · have := hx q (by omega) (by omega)
      rw [dp_e hr, dp_e hr] at this
      omega
theorem un_0 {v : List Value} {N : Nat} (h : unC (cv v) N A = 0) : ∀ r : Int, 0 ≤ r → r < N → heQ (cv v) N A r := fun r r0 r1 => by
  have := cnt_z N h r r0 r1
  exact Classical.byContradiction fun hn => by
    have k : nhP (cv v) N A r = true := @decide_eq_true _ (Classical.propDecidable _) hn
    rw [k] at this; cases this
end MG
set_option maxHeartbeats 4000000 in
set_option maxRecDepth 100000 in
theorem s_X8_isSetSound_f (l : Launch) (hl : l.stackTraces = false) {kc km : Int} {h : dm_H} (hI : Inv kc km h) {b0 n0 : Nat} {v0 : List Value} (hv0 : h[b0]? = some (20, v0)) (hz0 : arr n0 okR v0) (hn0 : n0 ≤ 8) {A : Int} (A0 : 0 ≤ A) (A1 : A < pwI (n0 : Int)) {b2 n2 : Nat} {v2 : List Value} (hv2 : h[b2]? = some (20, v2)) (hz2 : arr n2 okR v2) (hn2 : n2 ≤ 100) {a3 : Int} (h3a : 0 ≤ a3) (h3b : a3 ≤ 8)
    {F f g : Int → Int} {p : Int} (hr : Rep f g (n0 : Int) F) (ht : Srt f (n0 : Int)) (hok : okf f (n0 : Int)) (hv : ∀ j : Int, 0 ≤ j → j < n0 → cv v0 j = f j) (hm : moP F n2) (hc : chn F n2 = -1) (hp2 : ∀ j : Int, 0 ≤ j → j < n2 → cv v2 j = chn F j.toNat) (hp : isDp F p) (hd : a3 = cnt f (hoP p) n0) : dm_M l 218 3 0 0 [.ref b0, dI A, .ref b2, dI a3] h (QP h (RI (fun x => x = 1)) []) := by
  have p8 := pwI_8 (r := (n0 : Int)) (by omega) (by omega)
  have A2 : A ≤ 255 := by omega
  have hS := (set_lt A0 A2 (n := (n0 : Int)) (by omega) (by omega)).mp A1
  have hS2 := set_hs A0 A2 (n := (n0 : Int)) (by omega) (by omega) A1
  have hO : okV v0 n0 := fun j j0 j1 => by
    rw [hv j j0 j1]
    exact ⟨(Rep_at hr j0 j1).1.1, hok j j0 j1⟩
  refine dm_M_of dk_218 hl rfl (Nat.le_of_ble_eq_true rfl) ?_
  show dm_W (fun _ _ _ => True) (dm_P (QP h (RI (fun x => x = 1)) []) 0 0) l 218 3 0 0 0 [some (.ref b0), some (dI A), some (.ref b2), some (dI a3), none, none, none] [] h 0 0
  refine dr_iload_n rfl rfl ?_
  refine dr_stat rfl rfl rfl rfl (s_X8_sizeOf_s l hl hI (a0 := A) A0 A2) (by decide) (by decide) (by decide) (Nat.le_of_ble_eq_true rfl) kNP (kIP (fun y yf ya yb => ?_))
  obtain ⟨yc, yd, yk⟩ := yf
  refine di_istore (ls2 := [some (.ref b0), some (dI A), some (.ref b2), some (dI a3), some (dI y), none, none]) rfl rfl rfl ?_
  refine di_aload_n rfl rfl ?_
  refine dr_iload_n rfl rfl ?_
  refine dr_stat rfl rfl rfl rfl (s_X8_isApart_f l hl hI (b0 := b0) (n0 := n0) (v0 := v0) hv0 hz0 hn0 (a1 := A) A0 A2 (hv := hO)) (by decide) (by decide) (by decide) (Nat.le_of_ble_eq_true rfl) kNP (kIP (fun t tf ta tb => ?_))
  obtain ⟨tc, td, tk, tk2⟩ := tf
  have J73 : ∀ (o5 o6 : Option Value), dm_W (fun _ _ _ => True) (dm_P (QP h (RI (fun x => x = 1)) []) 0 0) l 218 3 0 0 73 [some (.ref b0), some (dI A), some (.ref b2), some (dI a3), some (dI y), none, none] [] h 0 0 := by
    intro o5 o6
    have J88 : dm_W (fun _ _ _ => True) (dm_P (QP h (RI (fun x => x = 1)) []) 0 0) l 218 3 0 0 88 [some (.ref b0), some (dI A), some (.ref b2), some (dI a3), some (dI y), none, none] [] h 0 0 := by
      refine dr_iload rfl rfl ?_
      refine dr_iload_n rfl rfl ?_
      refine di_icmp_le rfl rfl (by omega) (by omega) (by omega) (by omega) (fun c => ?_) (fun c => ?_)
      · refine di_const rfl ?_
        refine dr_goto rfl rfl ?_
        exact dr_iret (ty := .boolean) rfl rfl (nar_z (by omega) (by omega)) (by decide) (by decide) ⟨rfl, 1, rfl, by omega, by omega, rfl⟩
      refine di_aload_n rfl rfl ?_
      refine dr_iload_n rfl rfl ?_
      refine dr_stat rfl rfl rfl rfl (s_X8_areAllMeeting_f l hl hI (b0 := b0) (n0 := n0) (v0 := v0) hv0 hz0 hn0 (a1 := A) A0 A2 (hv := hO)) (by decide) (by decide) (by decide) (Nat.le_of_ble_eq_true rfl) kNP (kIP (fun z zf za zb => ?_))
      obtain ⟨zc, zd, zk⟩ := zf
      have hz : z = 1 → False := fun e => by
        have := me_leG hr hok (by omega) hS2 hp hd (fun r k r0 r1 k0 k1 hR hK => by
          have := zk e r k r0 r1 k0 k1 hR hK
          unfold mt at *
          rw [hv k k0 k1, hv r r0 r1] at this
          exact this)
        omega
      clear zk
      refine di_if_ne rfl rfl (by omega) (by omega) (fun c2 => ?_) (fun c2 => ?_)
      · exact (hz (by omega)).elim
      · refine di_const rfl ?_
        refine dr_goto rfl rfl ?_
        exact dr_iret (ty := .boolean) rfl rfl (nar_z (by omega) (by omega)) (by decide) (by decide) ⟨rfl, 1, rfl, by omega, by omega, rfl⟩
    refine dr_iload rfl rfl ?_
    refine di_aload_n rfl rfl ?_
    refine di_alen (n := n2) rfl hv2 (Or.inl rfl) hz2.1 ?_
    refine di_icmp_ge rfl rfl (by omega) (by omega) (by omega) (by omega) (fun c => ?_) (fun c => ?_)
    · exact J88
    refine di_aload_n rfl rfl ?_
    refine dr_iload_n rfl rfl ?_
    refine dr_stat rfl rfl rfl rfl (s_X8_unheldIn_f l hl hI (b0 := b0) (n0 := n0) (v0 := v0) hv0 hz0 hn0 (a1 := A) A0 A2 (hv := hO)) (by decide) (by decide) (by decide) (Nat.le_of_ble_eq_true rfl) kNP (kIP (fun z zf za zb => ?_))
    obtain ⟨zc, zd, zk⟩ := zf
    have hz : z ≤ 0 → False := fun e => by
      have h0 := un_0 (v := v0) (N := n0) (A := A) (by rw [← zk]; omega)
      have := he_m hr ht (by omega) (A := A) (fun r r0 r1 => by
        obtain ⟨k, k0, k1, k2, k3⟩ := h0 r r0 r1
        rw [hv k k0 k1, hv r r0 r1] at k3
        exact ⟨k, k0, k1, k2, k3⟩) (m := (n2 : Int)) (by omega) (by rw [show (n2 : Int).toNat = n2 by omega]; exact hm)
      omega
    clear zk
    refine di_if_le rfl rfl (by omega) (by omega) (fun c2 => ?_) (fun c2 => ?_)
    · exact (hz c2).elim
    · exact J88
  refine di_if_eq rfl rfl (by omega) (by omega) (fun c => ?_) (fun c => ?_)
  · exact J73 none none
  have hapt : apt f n0 A := apt_cg hv (tk (by omega))
  have hle := ap_leG hr ht hok hS (n := (n2 : Int)) (by rw [show (n2 : Int).toNat = n2 by omega]; exact hc) (by omega) hapt
  clear tk tk2
  refine dr_iload rfl rfl ?_
  refine di_aload_n rfl rfl ?_
  refine di_alen (n := n2) rfl hv2 (Or.inl rfl) hz2.1 ?_
  refine di_icmp_le rfl rfl (by omega) (by omega) (by omega) (by omega) (fun _ => ?_) (fun c2 => absurd c2 (by omega))
  refine di_const rfl ?_
  refine di_istore (ls2 := [some (.ref b0), some (dI A), some (.ref b2), some (dI a3), some (dI y), some (dI 0), none]) rfl rfl rfl ?_
  refine di_const rfl ?_
  refine di_istore (ls2 := [some (.ref b0), some (dI A), some (.ref b2), some (dI a3), some (dI y), some (dI 0), some (dI 0)]) rfl rfl rfl ?_
  have L : ∀ (k : Nat) (nt i : Int), (8 - i).toNat < k → 0 ≤ i → i ≤ 8 → nt = bb A i → 0 ≤ nt → nt ≤ 8 → dm_W (fun _ _ _ => True) (dm_P (QP h (RI (fun x => x = 1)) []) 0 0) l 218 3 0 0 29 [some (.ref b0), some (dI A), some (.ref b2), some (dI a3), some (dI y), some (dI nt), some (dI i)] [] h 0 0 := by
    intro k
    induction k with
    | zero => intro nt i hm; exact absurd hm (Nat.not_lt_zero _)
    | succ k ih =>
      intro nt i hm9 i0 i8 hnt nt0 nt8
      refine dr_iload rfl rfl ?_
      refine di_aload_n rfl rfl ?_
      refine di_alen (n := n0) rfl hv0 (Or.inl rfl) hz0.1 ?_
      refine di_icmp_ge rfl rfl (by omega) (by omega) (by omega) (by omega) (fun c2 => ?_) (fun c2 => ?_)
      · refine dm_wk (ls2 := [some (.ref b0), some (dI A), some (.ref b2), some (dI a3), some (dI y), none, none]) ⟨Or.inr rfl, Or.inr rfl, Or.inr rfl, Or.inr rfl, Or.inr rfl, Or.inl rfl, Or.inl rfl, trivial⟩ ?_
        exact J73 none none
      refine dr_iload_n rfl rfl ?_
      refine dr_iload rfl rfl ?_
      refine dr_stat rfl rfl rfl rfl (s_X8_isOf_s l hl hI (a0 := A) A0 A2 (a1 := i) (by omega) (by omega)) (by decide) (by decide) (by decide) (Nat.le_of_ble_eq_true rfl) kNP (kIP (fun z zf za zb => ?_))
      obtain ⟨zc, zd, ze⟩ := zf
      have zh := isof_h (S := A) (r := i) i0 ze
      refine di_if_eq rfl rfl (by omega) (by omega) (fun c3 => ?_) (fun c3 => ?_)
      · have e9 := bb_n9 i0 (zh.2 c3)
        refine di_iinc (ls2 := [some (.ref b0), some (dI A), some (.ref b2), some (dI a3), some (dI y), some (dI nt), some (dI (i + 1))]) rfl rfl rfl rfl ?_
        refine dr_goto rfl rfl ?_
        exact ih nt (i + 1) (by omega) (by omega) (by omega) (by omega) nt0 nt8
      have hin := zh.1 (by omega)
      clear zh
      have e9 := bb_y9 i0 hin
      have bm := bb_ml (A := A) (i := i + 1) (j := 8) (by omega) (by omega)
      obtain ⟨h1, h2, h3⟩ := ch_ea hr ht hok hapt (i.toNat + 1) i i0 (by omega) (by omega) hin
      have h4 := mo_le hc h1 h2
      have pe := hp2 nt nt0 (by omega)
      rw [hnt] at pe
      refine di_aload_n rfl rfl ?_
      refine dr_iload rfl rfl ?_
      refine di_iald rfl hv0 hz0 (by omega) (by omega) (fun x xf xa xb xv => ?_)
      have xw : cv v0 i = x := cv_eq xv xa xb
      have xo := hO i i0 (by omega)
      have xe := hv i i0 (by omega)
      have xg : -1 ≤ x ∧ x ≤ 9999 := xf
      refine di_bipush rfl (by decide) ?_
      refine dR_div rfl (by omega) (by omega) (fun q qa qb qe => ?_)
      have qe := qe (by omega)
      refine di_aload_n rfl rfl ?_
      refine dr_iload rfl rfl ?_
      refine di_iinc (ls2 := [some (.ref b0), some (dI A), some (.ref b2), some (dI a3), some (dI y), some (dI (nt + 1)), some (dI i)]) rfl rfl rfl rfl ?_
      refine di_iald rfl hv2 hz2 (by omega) (by omega) (fun x2 x2f x2a x2b x2v => ?_)
      have x2w : cv v2 nt = x2 := cv_eq x2v x2a x2b
      rw [hnt] at x2w
      have x2g : -1 ≤ x2 ∧ x2 ≤ 9999 := x2f
      refine di_bipush rfl (by decide) ?_
      refine dR_div rfl (by omega) (by omega) (fun q2 q2a q2b q2e => ?_)
      have q2e := q2e (by omega)
      have hge : q2 ≤ q := by
        rw [q2e, qe, ← x2w, pe, ← xw, xe]; exact h3
      refine di_icmp_ge rfl rfl (by omega) (by omega) (by omega) (by omega) (fun _ => ?_) (fun c4 => absurd c4 (by omega))
      refine di_iinc (ls2 := [some (.ref b0), some (dI A), some (.ref b2), some (dI a3), some (dI y), some (dI (nt + 1)), some (dI (i + 1))]) rfl rfl rfl rfl ?_
      refine dr_goto rfl rfl ?_
      exact ih (nt + 1) (i + 1) (by omega) (by omega) (by omega) (by omega) (by omega) (by omega)
  exact L _ 0 0 (Nat.lt_succ_self _) (by omega) (by omega) rfl (by omega) (by omega)
/-! ===== the model's isBookSound: over a row ===== -/
theorem cov_cg {f f2 : Int → Int} {s A a b : Int} (h : ∀ j : Int, 0 ≤ j → j < s → f j = f2 j) (hc : cov f s A a b) : cov f2 s A a b := fun q q0 q1 => by
  obtain ⟨k, ⟨k0, k1⟩, hk, h1⟩ := hc q q0 q1
  rw [h k k0 k1] at h1
  exact ⟨k, ⟨k0, k1⟩, hk, h1⟩
section ML
variable {F f g : Int → Int} {v : List Value} {s few n t : Int}
theorem fw_lG (hr : Rep f g s F) (ht : Srt f s) (s8 : s ≤ 8) (hv : ∀ j : Int, 0 ≤ j → j < s → cv v j = f j) (h : fwP v s few (pwI s)) (hx : lkX F (cv v 0 % 100) (cv v (s - 1) / 100) n) : n = few := by
  have s0 := hr.1.1
  have p8 := pwI_8 s0 s8
  rcases hx with ⟨n0, hl, hb⟩ | ⟨n1, hf⟩
  · obtain ⟨A, hA, hc, hle⟩ := lk_cv hr ht s8 n0 hl hb
    have hlt : A < pwI s := (set_lt hA.1.1 hA.1.2 s0 s8).mpr (fun r r0 r7 hb => ((hA.2 r r0 r7).mp hb).1)
    have hc := cov_cg (fun j j0 j1 => (hv j j0 j1).symm) hc
    rcases h with ⟨h0, h1⟩ | ⟨h0, ⟨S, S0, S1, S2, S3⟩, h2⟩
    · exact absurd hc (h1 A hA.1.1 hlt)
    · have e1 := h2 A hA.1.1 hlt hc
      have e2 := cv_m hr ht s8 (cov_cg hv S2) n0 hl
      omega
  · rcases h with ⟨h0, -⟩ | ⟨-, ⟨S, S0, S1, S2, S3⟩, -⟩
    · omega
    · exact absurd (cov_cg hv S2) (cv_no hr ht hf)
theorem rm_eqG {F f g rv : Int → Int} {s m2 d p : Int} (hr : Rep f g s F) (hok : okf f s) (hR : RM f s rv) (hm : mxR rv s m2) (hp : isDp F p) (hd : d = cnt f (hoP p) s.toNat) : m2 = d := by
  have m0 : 0 ≤ m2 := by
    rcases hm.2 with e | ⟨r, -, p0, p1⟩ <;> omega
  have h1 := rm_ge (p := p) hr.1.1 hR hm m0
  rcases rm_le hr.1.1 hok hR hm with e | ⟨j, ⟨j0, j1⟩, h2⟩
  · have := (cnt_b f (hoP p) s.toNat).1
    omega
  · have h9 := Rep_at hr j0 j1
    rcases hp with ⟨-, hz⟩ | ⟨-, -, hx, -⟩
    · exact absurd (hz _) (Rep_yes hr j0 j1 rfl).2.1
    · have := hx (f j % 100) (by omega) (by omega)
      rw [dp_e hr, dp_e hr] at this
      omega
/-- the chosen set holds all: nothing is unheld -/
theorem un_z {v : List Value} {N : Nat} {A : Int} (h : ∀ r : Int, 0 ≤ r → r < N → heQ (cv v) N A r) : unC (cv v) N A = 0 := cnt_no N (fun r r0 r1 => @decide_eq_false _ (Classical.propDecidable _) (fun hn => hn (h r r0 r1)))
/-- the chosen ranks, one after the other -/
def pkP (F : Int → Int) (S n : Int) : Prop := sB S (fun r => ∃ j : Int, (0 ≤ j ∧ j < n) ∧ nF F (ltP (chn F j.toNat)) = r)
theorem pk_0 : pkP F 0 0 := sB_cg sB_0 (fun r _ _ => ⟨fun q => q.elim, fun ⟨j, hj, _⟩ => by omega⟩)
end ML
/-! ===== the model's isPartSound ===== -/
def psI (f : Int → Int) (lo hi m la i : Int) : Prop := cnP m f (inP lo hi) i ∧ ((m = 0 ∧ la = -1) ∨ (0 < m ∧ ∃ k : Int, (0 ≤ k ∧ k < i) ∧ f k = la ∧ inP lo hi la = true ∧ ∀ j : Int, k < j → j < i → inP lo hi (f j) = false))
section PS
variable {f g F : Int → Int} {s lo hi m la i x : Int}
theorem ps_0 : psI f lo hi 0 (-1) 0 := ⟨cn_0, Or.inl ⟨rfl, rfl⟩⟩
theorem ps_n (h : psI f lo hi m la i) (i0 : 0 ≤ i) (e : f i = x) (p : inP lo hi x = false) : psI f lo hi m la (i + 1) := ⟨cn_n h.1 i0 e p, h.2.imp id (fun ⟨a, k, hk, b, c, d⟩ => ⟨a, k, ⟨hk.1, by omega⟩, b, c, fun j j0 j1 => by
  by_cases q : j = i
  · rw [q, e]; exact p
  · exact d j j0 (by omega)⟩)⟩
theorem ps_y (h : psI f lo hi m la i) (m0 : 0 ≤ m) (i0 : 0 ≤ i) (e : f i = x) (p : inP lo hi x = true) : psI f lo hi (m + 1) x (i + 1) := ⟨cn_y h.1 i0 e p, Or.inr ⟨by omega, i, ⟨i0, by omega⟩, e, p, fun j j0 j1 => by omega⟩⟩
theorem ps_f (hr : Rep f g s F) (ht : Srt f s) (h : psI f lo hi 0 la i) (i0 : 0 ≤ i) (i1 : i < s) (p : inP lo hi (f i) = true) : lst F (inP lo hi) = f i := by
  have hz := cnt_z i.toNat h.1.symm
  refine lst_eq ⟨(Rep_yes hr i0 i1 rfl).2.1, p, fun c hc hpc => ?_⟩
  obtain ⟨j, j0, j1, rfl⟩ := Rep_ex hr hc
  by_cases q : j < i
  · have := hz j j0 (by omega)
    rw [hpc] at this; cases this
  · by_cases q2 : j = i
    · rw [q2]; exact Int.le_refl _
    · have := ht i j i0 (by omega) j1; omega
theorem ps_e (hr : Rep f g s F) (ht : Srt f s) (h : psI f lo hi m la i) (e : i = s) : nF F (inP lo hi) = m ∧ grt F (inP lo hi) = la := by
  subst e
  have h1 := cn_e h.1 hr rfl
  refine ⟨h1.symm, ?_⟩
  rcases h.2 with ⟨e1, e2⟩ | ⟨-, k, ⟨k0, k1⟩, e, p, d⟩
  · rw [e2]
    exact grt_no (nF_z hr (by rw [← h1, e1]))
  · refine grt_eq ⟨by rw [← e]; exact (Rep_yes hr k0 k1 rfl).2.1, p, fun c hc hpc => ?_⟩
    obtain ⟨j, j0, j1, rfl⟩ := Rep_ex hr hc
    by_cases q : k < j
    · have := d j q j1
      rw [hpc] at this; cases this
    · by_cases q2 : j = k
      · rw [q2, e]; exact Int.le_refl _
      · have := ht j k j0 (by omega) k1; omega
end PS
set_option maxHeartbeats 4000000 in
set_option maxRecDepth 100000 in
theorem n_X8_isPartSound (l : Launch) (hl : l.stackTraces = false) {kc km : Int} {h : dm_H} (hI : Inv kc km h) {th : Int} {σ : St} (hM : MSt km th σ h) (hT : sSt σ) : dm_M l 220 3 1 16 [.ref 26] h (QA h (RI2 (fun x => x = 1))) := by
  obtain ⟨⟨ni, c26, ni0, ni1⟩, ⟨⟨R1, R2⟩, ⟨R3, R4⟩, ⟨R5, R6⟩, -⟩, -⟩ := id hM
  refine dm_M_of dk_220 hl rfl (Nat.le_of_ble_eq_true rfl) ?_
  show dm_W (fun _ _ _ => True) (dm_P (QA h (RI2 (fun x => x = 1))) 1 16) l 220 3 1 16 0 [some (.ref 26), none, none, none, none] [] h 0 0
  refine di_aload_n rfl rfl ?_
  refine dr_getf rfl c26 rfl ?_
  refine di_const rfl ?_
  refine di_icmp_ne rfl rfl (by omega) (by omega) (by omega) (by omega) (fun c => ?_) (fun c => ?_)
  · have p0 : 0 ≤ σ.2.1.1 := by omega
    obtain ⟨r, q, u, w, us, er, eq, hu, hw, au, aw, h35, as, hr, s0, s8⟩ := MSt_bk hM (k := σ.2.1.1) p0 R2
    obtain ⟨f0, g0, q0, r0, t0⟩ := hT σ.2.1.1 p0 R2
    have es : q0 = cv us σ.2.1.1 := Rep_sz r0 hr
    refine di_aload_n rfl rfl ?_
    refine di_aload_n rfl rfl ?_
    refine dr_getf rfl c26 rfl ?_
    refine dr_virt rfl rfl rfl rfl c26 (n_X8_row l hl hI hM (a1 := σ.2.1.1) (by omega) (by omega) er eq hu hw au aw h35 as hr s0 s8 hT) (by decide) (by decide) (by decide) (Nat.le_of_ble_eq_true rfl) kAN (kRW (fun h1 hA1 b n v hp hb hc ha => ?_))
    have hp : rwQ (σ.1 σ.2.1.1) n v := hp
    have n8 := hp.1.2
    have en : (n : Int) = q0 := hp.1.1.trans (zF_eq r0)
    have hI1 := App_Inv hA1 hI
    have hM1 := MSt_Ap hM hI hA1
    have d26 := App_at hA1 c26
    have hv : ∀ j : Int, 0 ≤ j → j < n → cv v j = f0 j := fun j j0 j1 => by rw [hp.2.2 j j0 j1, cR_eq r0 t0 j0 (by omega)]
    refine di_astore_n (ls2 := [some (.ref 26), some (.ref b), none, none, none]) rfl rfl rfl ?_
    refine di_const rfl ?_
    refine di_istore_n (ls2 := [some (.ref 26), some (.ref b), some (dI 0), none, none]) rfl rfl rfl ?_
    refine di_const rfl ?_
    refine di_istore_n (ls2 := [some (.ref 26), some (.ref b), some (dI 0), some (dI (-1)), none]) rfl rfl rfl ?_
    refine di_const rfl ?_
    refine di_istore (ls2 := [some (.ref 26), some (.ref b), some (dI 0), some (dI (-1)), some (dI 0)]) rfl rfl rfl ?_
    have L : ∀ (k : Nat) (m la i : Int), (8 - i).toNat < k → 0 ≤ i → i ≤ n → 0 ≤ m → m ≤ i → -1 ≤ la → la ≤ 9999 → psI f0 σ.2.1.2.1 σ.2.1.2.2 m la i → dm_W (fun _ _ _ => True) (dm_P (QA h (RI2 (fun x => x = 1))) 1 16) l 220 3 1 16 26 [some (.ref 26), some (.ref b), some (dI m), some (dI la), some (dI i)] [] h1 1 16 := by
      intro k
      induction k with
      | zero => intro m la i hm; exact absurd hm (Nat.not_lt_zero _)
      | succ k ih =>
        intro m la i hm i0 i1 m0 m1 la0 la1 PI
        refine dr_iload rfl rfl ?_
        refine di_aload_n rfl rfl ?_
        refine di_alen (n := n) rfl hc (Or.inl rfl) ha.1 ?_
        refine di_icmp_ge rfl rfl (by omega) (by omega) (by omega) (by omega) (fun c2 => ?_) (fun c2 => ?_)
        · obtain ⟨e1, e2⟩ := ps_e r0 t0 PI (by omega)
          refine di_aload_n rfl rfl ?_
          refine dr_virt rfl rfl rfl rfl d26 (n_X8_partSize l hl hI1 hM1 p0) (by decide) (by decide) (by decide) (Nat.le_of_ble_eq_true rfl) kNP (kIP (fun y yf ya yb => ?_))
          obtain ⟨yc, yd, yk⟩ := yf
          have yk : y = m := yk.trans e1
          refine dr_iload_n rfl rfl ?_
          refine di_icmp_ne rfl rfl (by omega) (by omega) (by omega) (by omega) (fun c3 => absurd yk c3) (fun _ => ?_)
          refine di_aload_n rfl rfl ?_
          refine di_const rfl ?_
          refine dr_virt rfl rfl rfl rfl d26 (n_X8_partEnd l hl hI1 hM1 (a1 := 1) (by omega) (by omega) p0) (by decide) (by decide) (by decide) (Nat.le_of_ble_eq_true rfl) kNP (kIP (fun z zf za zb => ?_))
          obtain ⟨zc, zd, -, zk, -⟩ := zf
          have zk : z = la := (zk rfl).trans e2
          refine dr_iload_n rfl rfl ?_
          refine di_icmp_ne rfl rfl (by omega) (by omega) (by omega) (by omega) (fun c3 => absurd zk c3) (fun _ => ?_)
          refine di_const rfl ?_
          refine dr_goto rfl rfl ?_
          exact dr_iret (ty := .boolean) rfl rfl (nar_z (by omega) (by omega)) (by decide) (by decide) ⟨hA1, 1, rfl, by omega, by omega, rfl⟩
        have fv := hv i i0 (by omega)
        have h9 := Rep_at r0 (j := i) i0 (by omega)
        refine di_aload_n rfl rfl ?_
        refine di_aload_n rfl rfl ?_
        refine dr_iload rfl rfl ?_
        refine di_iald rfl hc ha (by omega) (by omega) (fun x xf xa xb xv => ?_)
        have xw : cv v i = x := cv_eq xv xa xb
        have xe : f0 i = x := by rw [← xw, fv]
        refine dr_virt rfl rfl rfl rfl d26 (n_X8_isInPart l hl hI1 hM1 (a1 := x) (by omega) (by omega)) (by decide) (by decide) (by decide) (Nat.le_of_ble_eq_true rfl) kNP (kIP (fun y yf ya yb => ?_))
        obtain ⟨yc, yd, yk, yk2⟩ := yf
        refine di_if_ne rfl rfl (by omega) (by omega) (fun c3 => ?_) (fun c3 => ?_)
        · have hin := inP_t (yk (by omega))
          clear yk yk2
          have go : dm_W (fun _ _ _ => True) (dm_P (QA h (RI2 (fun x => x = 1))) 1 16) l 220 3 1 16 65 [some (.ref 26), some (.ref b), some (dI m), some (dI la), some (dI i)] [] h1 1 16 := by
            refine di_iinc (ls2 := [some (.ref 26), some (.ref b), some (dI (m + 1)), some (dI la), some (dI i)]) rfl rfl rfl rfl ?_
            refine di_aload_n rfl rfl ?_
            refine dr_iload rfl rfl ?_
            refine di_iald rfl hc ha (by omega) (by omega) (fun x2 x2f x2a x2b x2v => ?_)
            have x2w : cv v i = x2 := cv_eq x2v x2a x2b
            refine di_istore_n (ls2 := [some (.ref 26), some (.ref b), some (dI (m + 1)), some (dI x2), some (dI i)]) rfl rfl rfl ?_
            refine di_iinc (ls2 := [some (.ref 26), some (.ref b), some (dI (m + 1)), some (dI x2), some (dI (i + 1))]) rfl rfl rfl rfl ?_
            refine dr_goto rfl rfl ?_
            have e9 : x2 = x := by rw [← x2w, xw]
            subst e9
            exact ih (m + 1) x2 (i + 1) (by omega) (by omega) (by omega) (by omega) (by omega) (by omega) (by omega) (ps_y PI m0 i0 xe hin)
          refine dr_iload_n rfl rfl ?_
          refine di_if_ne rfl rfl (by omega) (by omega) (fun c4 => ?_) (fun c4 => ?_)
          · exact go
          have em : m = 0 := by omega
          have hlst := ps_f r0 t0 (by rw [← em]; exact PI) i0 (by omega) (by rw [xe]; exact hin)
          refine di_aload_n rfl rfl ?_
          refine di_const rfl ?_
          refine dr_virt rfl rfl rfl rfl d26 (n_X8_partEnd l hl hI1 hM1 (a1 := 0) (by omega) (by omega) p0) (by decide) (by decide) (by decide) (Nat.le_of_ble_eq_true rfl) kNP (kIP (fun z zf za zb => ?_))
          obtain ⟨zc, zd, -, -, zk⟩ := zf
          have zk : z = f0 i := (zk (by decide)).trans hlst
          refine di_aload_n rfl rfl ?_
          refine dr_iload rfl rfl ?_
          refine di_iald rfl hc ha (by omega) (by omega) (fun x2 x2f x2a x2b x2v => ?_)
          have x2w : cv v i = x2 := cv_eq x2v x2a x2b
          refine di_icmp_eq rfl rfl (by omega) (by omega) (by omega) (by omega) (fun _ => ?_) (fun c5 => absurd (show z = x2 by rw [zk, xe, ← x2w, xw]) c5)
          exact go
        · have hin := inP_f (c := x) (lo := σ.2.1.2.1) (hi := σ.2.1.2.2) (by have := yk2 c3; omega)
          refine dr_goto rfl rfl ?_
          refine di_iinc (ls2 := [some (.ref 26), some (.ref b), some (dI m), some (dI la), some (dI (i + 1))]) rfl rfl rfl rfl ?_
          refine dr_goto rfl rfl ?_
          exact ih m la (i + 1) (by omega) (by omega) (by omega) m0 (by omega) la0 la1 (ps_n PI i0 xe hin)
    exact L _ 0 (-1) 0 (Nat.lt_succ_self _) (by omega) (by omega) (by omega) (by omega) (by omega) (by omega) ps_0
  · refine di_const rfl ?_
    exact dr_iret (ty := .boolean) rfl rfl (nar_z (by omega) (by omega)) (by decide) (by decide) ⟨App_rf, 1, rfl, by omega, by omega, rfl⟩
