/-! ===== the class's trial: measure ===== -/
theorem QP_mo {h : dm_H} {F G : Int → Prop} (hFG : ∀ x, F x → G x) : ∀ r h', QP h (RI F) [] r h' → QP h (RI G) [] r h' := by
  rintro r h' ⟨e, q⟩
  refine ⟨e, ?_⟩
  rcases r with v | x
  · obtain ⟨x, a, b, c, d⟩ := q
    exact ⟨x, hFG x a, b, c, d⟩
  · exact q
def meQ (u : List Value) (s j x : Int) : Prop := j < s → hsP x s (fun r => cv u r % 100 ≤ cv u j / 100 ∧ cv u j % 100 ≤ cv u r / 100)
def hoQ (u : List Value) (s j x : Int) : Prop := j < s → hsP x s (fun r => cv u r % 100 ≤ cv u j / 100 ∧ cv u j / 100 ≤ cv u r / 100)
theorem f_X0_meetT (l : Launch) (hl : l.stackTraces = false) {kc km : Int} {h : dm_H} (hI : Inv kc km h) {b : Nat} (hb : isBk b) {s m : Int} {u w : List Value} (hC : CA b s m u w h) {a1 : Int} (h1a : 0 ≤ a1) (h1b : a1 ≤ 7) : dm_M l 23 2 0 0 [.ref b, dI a1] h (QP h (RI (fun x => meQ u s a1 x)) []) := by
  by_cases q : a1 < s
  · exact dm_M_imp (f_X0_meeting l hl hI hb hC (a1 := a1) (by omega) (by omega) h1a q) (QP_mo (fun x hx _ => hx.2.2))
  · exact dm_M_imp (s_X0_meeting l hl hI (b0 := b) hb (a1 := a1) (by omega) (by omega)) (QP_mo (fun x _ z => absurd z q))
def FrT (h h1 : dm_H) : Prop := h1.length = h.length ∧ ∀ j : Nat, j < 8 ∨ 16 < j → h1[j]? = h[j]?
theorem FrT_rf {h : dm_H} : FrT h h := ⟨rfl, fun _ _ => rfl⟩
theorem FrT_tr {h h1 h2 : dm_H} (a : FrT h h1) (c : FrT h1 h2) : FrT h h2 := ⟨c.1.trans a.1, fun j x => (c.2 j x).trans (a.2 j x)⟩
theorem FrT_I {i : Nat} {h h1 : dm_H} (a : FrI i h h1) (h8 : 8 ≤ i) (h16 : i ≤ 16) : FrT h h1 := ⟨a.1, fun j x => a.2 j (by omega)⟩
theorem FrT_K {b : Nat} {h h1 : dm_H} (a : FrK b h h1) (h8 : 8 ≤ b) (h16 : b ≤ 15) : FrT h h1 := ⟨a.1, fun j x => a.2 j (by omega) (by omega)⟩
theorem CA_T {b : Nat} {s m : Int} {u w : List Value} {h h' : dm_H} (f : FrT h h') (hb : isBk b) (hc : CA b s m u w h) : CA b s m u w h' := by
  have h2 := bk_17 hb
  unfold CA at *
  rw [f.2 b (by omega), f.2 (b + 1) (by omega), f.2 (b + 2) (by omega)]
  exact hc
theorem CSt_T {B : Int} {σ : St} {h h' : dm_H} (hS : CSt B σ h) (f : FrT h h') : CSt B σ h' := CSt_same hS (fun j j0 j1 j2 => f.2 j (by omega))
def TrA (d : Int) (mv he : List Value) (h : dm_H) : Prop := h[8]? = some (7, [.ref 9, .ref 10, .ref 11, .ref 13, .ref 15, dI d]) ∧ h[9]? = some (20, mv) ∧ h[10]? = some (20, he) ∧ arr 8 anyI mv ∧ arr 8 anyI he
/-- all that measure leaves -/
def TrS (F : Int → Int) (u : List Value) (s : Int) (d : Int) (mv he : List Value) (n : Int) (v : List Value) (m2 : Int) (rv : List Value) (h : dm_H) : Prop := TrA d mv he h ∧ (ChA 11 n v h ∧ fcE F u v s n) ∧ (HsA 15 s m2 rv h ∧ RM (cv u) s (cv rv) ∧ mxR (cv rv) s m2) ∧ (∀ j : Int, 0 ≤ j → j < 8 → meQ u s j (cv mv j)) ∧ (∀ j : Int, 0 ≤ j → j < 8 → hoQ u s j (cv he j)) ∧ ∃ p : Int, isDp F p ∧ d = cnt (cv u) (hoP p) s.toNat
def QTm (kc km : Int) (h : dm_H) (F : Int → Int) (u : List Value) (s : Int) : dm_Rs := fun r h' => Inv kc km h' ∧ FrT h h' ∧ (∃ (d : Int) (mv he : List Value) (n : Int) (v : List Value) (m2 : Int) (rv : List Value), TrS F u s d mv he n v m2 rv h') ∧ r = .inl none
section KTM
variable {E : dm_Ex} {P : dm_Po} {l : Launch} {z dd MC MS pc ce sl : Nat} {ls : List (Option Value)} {st : List Value} {h : dm_H} {kc km s : Int} {F : Int → Int} {u : List Value}
theorem kQTm (kk : ∀ (h1 : dm_H), Inv kc km h1 → FrT h h1 → ∀ (d : Int) (mv he : List Value) (n : Int) (v : List Value) (m2 : Int) (rv : List Value), TrS F u s d mv he n v m2 rv h1 → dm_W E P l z dd MC MS pc ls st h1 ce sl) : ∀ (v : Option Value) (h1 : dm_H), QTm kc km h F u s (.inl v) h1 → dm_W E P l z dd MC MS pc ls (v.toList ++ st) h1 ce sl := by
  rintro v h1 ⟨a, c, ⟨d, mv, he, n, w, m2, rv, q⟩, e⟩
  cases e
  exact kk h1 a c d mv he n w m2 rv q
theorem kQTmN : ∀ (Y : String) (h1 : dm_H), QTm kc km h F u s (.inr Y) h1 → dm_T9 E P l z dd MC MS Y pc ls h1 ce sl := fun _ _ q => by cases q.2.2.2
end KTM
theorem ta_9 : isTa 9 := Or.inl rfl
theorem ta_10 : isTa 10 := Or.inr rfl
theorem ch_11 : isCh 11 := Or.inr (Or.inl rfl)
theorem ch_13' : isCh 13 := Or.inr (Or.inr rfl)
theorem hs_15' : isHs 15 := Or.inr rfl
set_option maxHeartbeats 4000000 in
set_option maxRecDepth 100000 in
theorem f_X5_measure (l : Launch) (hl : l.stackTraces = false) {kc km : Int} {h : dm_H} (hI : Inv kc km h) {b : Nat} (hb : isBk b) {s m : Int} {u w : List Value} (hC : CA b s m u w h) {F : Int → Int} (hr : Rep (cv u) (cv w) s F) (ht : Srt (cv u) s) : dm_M l 48 6 0 0 [.ref 8, .ref b] h (QTm kc km h F u s) := by
  obtain ⟨d0, -, -, t8⟩ := I_tr hI
  obtain ⟨mv0, hm0, am0⟩ := I_tra hI ta_9
  obtain ⟨he0, hh0, ah0⟩ := I_tra hI ta_10
  have s0 := hC.2.2.2.2.2.1
  have s8 := hC.2.2.2.2.2.2.1
  refine dm_M_of dk_48 hl rfl (Nat.le_of_ble_eq_true rfl) ?_
  show dm_W (fun _ _ _ => True) (dm_P (QTm kc km h F u s) 0 0) l 48 6 0 0 0 [some (.ref 8), some (.ref b), none] [] h 0 0
  refine di_const rfl ?_
  refine di_istore_n (ls2 := [some (.ref 8), some (.ref b), some (dI 0)]) rfl rfl rfl ?_
  have L : ∀ (k : Nat) (i : Int) (mv he : List Value) (h2 : dm_H), (8 - i).toNat < k → 0 ≤ i → i ≤ 8 → Inv kc km h2 → FrT h h2 → TrA d0 mv he h2 → (∀ j : Int, 0 ≤ j → j < i → meQ u s j (cv mv j)) → (∀ j : Int, 0 ≤ j → j < i → hoQ u s j (cv he j)) → dm_W (fun _ _ _ => True) (dm_P (QTm kc km h F u s) 0 0) l 48 6 0 0 2 [some (.ref 8), some (.ref b), some (dI i)] [] h2 0 0 := by
    intro k
    induction k with
    | zero => intro i mv he h2 hm; exact absurd hm (Nat.not_lt_zero _)
    | succ k ih =>
      intro i mv he h2 hm i0 i1 hI2 hF2 hT2 PM PH
      obtain ⟨t1, t2, t3, t4, t5⟩ := id hT2
      have hC2 := CA_T hF2 hb hC
      refine dr_iload_n rfl rfl ?_
      refine di_bipush rfl (by decide) ?_
      refine di_icmp_ge rfl rfl (by omega) (by omega) (by omega) (by omega) (fun c => ?_) (fun c => ?_)
      · refine di_aload_n rfl rfl ?_
        refine di_aload_n rfl rfl ?_
        refine di_aload_n rfl rfl ?_
        refine dr_virt rfl rfl rfl rfl hC2.1 (f_X0_deepPlace l hl hI2 hb hC2 hr) (by decide) (by decide) (by decide) (Nat.le_of_ble_eq_true rfl) kNP (kIP (fun p pf pa pb => ?_))
        obtain ⟨pc, pd, pk⟩ := pf
        refine dr_virt rfl rfl rfl rfl hC2.1 (f_X0_depthAt l hl hI2 hb hC2 (a1 := p) (by omega) (by omega)) (by decide) (by decide) (by decide) (Nat.le_of_ble_eq_true rfl) kNP (kIP (fun d df da db => ?_))
        obtain ⟨dc, ddd, dk⟩ := df
        refine pfX rfl t1 (Nat.le_of_ble_eq_true rfl) rfl hI2 (by decide) (T37_tr (by omega)) (fun h3 hI3 hk3 hc3 => ?_)
        have hF3 := FrT_tr hF2 (FrT_I hk3 (by decide) (by decide))
        have hC3 := CA_T hF3 hb hC
        refine di_aload_n rfl rfl ?_
        refine dr_getf rfl hc3 rfl ?_
        refine di_aload_n rfl rfl ?_
        obtain ⟨n9, v9, hch9⟩ := I_chA hI3 ch_11
        refine dr_virt rfl rfl rfl rfl hch9.1 (f_X1_fillChosen l hl hI3 (b := 11) ch_11 hb hC3 hr ht) (by decide) (by decide) (by decide) (Nat.le_of_ble_eq_true rfl) kChN (kChV (fun h4 hI4 hK4 n v hA4 qf => ?_))
        have hF4 := FrT_tr hF3 (FrT_K hK4 (by decide) (by decide))
        have hC4 := CA_T hF4 hb hC
        have t14 := (hK4.2 8 (by decide) (by decide)).trans hc3
        refine di_aload_n rfl rfl ?_
        refine dr_getf rfl t14 rfl ?_
        refine di_aload_n rfl rfl ?_
        obtain ⟨s9, n9, w9, hhs9⟩ := I_hsA hI4 hs_15'
        refine dr_virt rfl rfl rfl rfl hhs9.1 (f_X3_fill l hl hI4 (b := 15) hs_15' hb hC4) (by decide) (by decide) (by decide) (Nat.le_of_ble_eq_true rfl) kHsN (kHsV (fun h5 hI5 hK5 s5 m5 v5 hH5 q5 => ?_))
        obtain ⟨e5, r5, x5, -⟩ := q5
        subst e5
        have hF5 := FrT_tr hF4 (FrT_K hK5 (by decide) (by decide))
        have k9 : ∀ j : Nat, j = 8 ∨ j = 9 ∨ j = 10 ∨ j = 11 ∨ j = 12 → h5[j]? = h4[j]? := fun j hj => hK5.2 j (by omega) (by omega)
        have k8 : ∀ j : Nat, j = 9 ∨ j = 10 → h5[j]? = h2[j]? := fun j hj => (k9 j (by omega)).trans ((hK4.2 j (by omega) (by omega)).trans (hk3.2 j (by omega)))
        exact dr_vret rfl rfl (by decide) (by decide) ⟨hI5, hF5, ⟨d, mv, he, n, v, m5, v5, ⟨(k9 8 (by omega)).trans t14, (k8 9 (by omega)).trans t2, (k8 10 (by omega)).trans t3, t4, t5⟩, ⟨⟨(k9 11 (by omega)).trans hA4.1, (k9 12 (by omega)).trans hA4.2.1, hA4.2.2⟩, qf⟩, ⟨hH5, r5, x5⟩, fun j j0 j1 => PM j j0 (by omega), fun j j0 j1 => PH j j0 (by omega), p, pk, dk⟩, rfl⟩
      refine di_aload_n rfl rfl ?_
      refine dr_getf rfl t1 rfl ?_
      refine dr_iload_n rfl rfl ?_
      refine di_aload_n rfl rfl ?_
      refine dr_iload_n rfl rfl ?_
      refine dr_virt rfl rfl rfl rfl hC2.1 (f_X0_meetT l hl hI2 hb hC2 (a1 := i) (by omega) (by omega)) (by decide) (by decide) (by decide) (Nat.le_of_ble_eq_true rfl) kNP (kIP (fun y yf ya yb => ?_))
      refine paX rfl t2 t4 (by omega) (by omega) trivial (by omega) (by omega) hI2 (lt_ta ta_9) (fun us9 hu9 => T37_tra ta_9 hu9) (fun h3 mv3 hI3 hk3 hu3 ha3 hs3 => ?_)
      have hF3 := FrT_tr hF2 (FrT_I hk3 (by decide) (by decide))
      have hC3 := CA_T hF3 hb hC
      have t13 := (hk3.2 8 (by decide)).trans t1
      have t33 := (hk3.2 10 (by decide)).trans t3
      refine di_aload_n rfl rfl ?_
      refine dr_getf rfl t13 rfl ?_
      refine dr_iload_n rfl rfl ?_
      refine di_aload_n rfl rfl ?_
      refine di_aload_n rfl rfl ?_
      refine dr_iload_n rfl rfl ?_
      refine dr_virt rfl rfl rfl rfl hC3.1 (f_X0_toAt l hl hI3 hb hC3 (a1 := i) (by omega) (by omega)) (by decide) (by decide) (by decide) (Nat.le_of_ble_eq_true rfl) kNP (kIP (fun t tf ta tb => ?_))
      obtain ⟨tc, td, tk, tk2, tk3⟩ := tf
      refine dr_virt rfl rfl rfl rfl hC3.1 (f_X0_holding l hl hI3 hb hC3 (a1 := t) (by omega) (by omega)) (by decide) (by decide) (by decide) (Nat.le_of_ble_eq_true rfl) kNP (kIP (fun z zf za zb => ?_))
      obtain ⟨zc, zd, zk⟩ := zf
      refine paX rfl t33 t5 (by omega) (by omega) trivial (by omega) (by omega) hI3 (lt_ta ta_10) (fun us9 hu9 => T37_tra ta_10 hu9) (fun h4 he4 hI4 hk4 hu4 ha4 hs4 => ?_)
      refine di_iinc (ls2 := [some (.ref 8), some (.ref b), some (dI (i + 1))]) rfl rfl rfl rfl ?_
      refine dr_goto rfl rfl ?_
      exact ih (i + 1) mv3 he4 h4 (by omega) (by omega) (by omega) hI4 (FrT_tr hF3 (FrT_I hk4 (by decide) (by decide))) ⟨(hk4.2 8 (by decide)).trans t13, (hk4.2 9 (by decide)).trans hu3, hu4, ha3, ha4⟩ (fun j j0 j1 => by
        by_cases e : j = i
        · rw [e, stt_at hs3 i0]; exact yf
        · rw [stt_ne hs3 j0 e]; exact PM j j0 (by omega)) (fun j j0 j1 => by
        by_cases e : j = i
        · rw [e, stt_at hs4 i0]
          intro q
          rw [← tk i0 q]; exact zk
        · rw [stt_ne hs4 j0 e]; exact PH j j0 (by omega))
  exact L _ 0 mv0 he0 h (Nat.lt_succ_self _) (by omega) (by omega) hI FrT_rf ⟨t8, hm0, hh0, am0, ah0⟩ (fun j j0 j1 => by omega) (fun j j0 j1 => by omega)
set_option maxRecDepth 100000 in
theorem f_X1_asSet (l : Launch) (hl : l.stackTraces = false) {kc km : Int} {h : dm_H} (hI : Inv kc km h) {b : Nat} (hb : isCh b) {n : Int} {v : List Value} (hA : ChA b n v h) (h7 : ∀ j : Int, 0 ≤ j → j < n → 0 ≤ cv v j ∧ cv v j ≤ 7) : dm_M l 33 0 0 0 [.ref b] h (QP h (RI (fun x => sB x (fun r => ∃ j : Int, 0 ≤ j ∧ j < n ∧ cv v j = r))) []) := by
  obtain ⟨c1, c2, c3, n0, n8⟩ := id hA
  refine dm_M_of dk_33 hl rfl (Nat.le_of_ble_eq_true rfl) ?_
  show dm_W (fun _ _ _ => True) (dm_P (QP h (RI (fun x => sB x (fun r => ∃ j : Int, 0 ≤ j ∧ j < n ∧ cv v j = r))) []) 0 0) l 33 0 0 0 0 [some (.ref b), none, none] [] h 0 0
  refine di_const rfl ?_
  refine di_istore_n (ls2 := [some (.ref b), some (dI 0), none]) rfl rfl rfl ?_
  refine di_const rfl ?_
  refine di_istore_n (ls2 := [some (.ref b), some (dI 0), some (dI 0)]) rfl rfl rfl ?_
  have L : ∀ (k : Nat) (S i : Int), (8 - i).toNat < k → 0 ≤ i → i ≤ n → sB S (fun r => ∃ j : Int, 0 ≤ j ∧ j < i ∧ cv v j = r) → dm_W (fun _ _ _ => True) (dm_P (QP h (RI (fun x => sB x (fun r => ∃ j : Int, 0 ≤ j ∧ j < n ∧ cv v j = r))) []) 0 0) l 33 0 0 0 4 [some (.ref b), some (dI S), some (dI i)] [] h 0 0 := by
    intro k
    induction k with
    | zero => intro S i hm; exact absurd hm (Nat.not_lt_zero _)
    | succ k ih =>
      intro S i hm i0 i1 PS
      have Sb := PS.1
      refine dr_iload_n rfl rfl ?_
      refine di_aload_n rfl rfl ?_
      refine dr_getf rfl c1 rfl ?_
      refine di_icmp_ge rfl rfl (by omega) (by omega) (by omega) (by omega) (fun c => ?_) (fun c => ?_)
      · refine dr_iload_n rfl rfl ?_
        have e : i = n := by omega
        subst e
        exact dr_iret (ty := .int) rfl rfl rfl (by decide) (by decide) ⟨rfl, S, PS, by omega, by omega, rfl⟩
      refine dr_iload_n rfl rfl ?_
      refine di_const rfl ?_
      refine di_aload_n rfl rfl ?_
      refine dr_getf rfl c1 rfl ?_
      refine dr_iload_n rfl rfl ?_
      refine di_iald rfl c2 c3 (by omega) (by omega) (fun x xf xa xb xv => ?_)
      have xw : cv v i = x := cv_eq xv xa xb
      have x7 := h7 i i0 (by omega)
      rw [xw] at x7
      refine di_shl7 rfl (by omega) (by omega) (fun w9 w9a w9b w9e => ?_)
      refine di_or rfl (by omega) (by omega) (by omega) (by omega) (fun x9 x9a x9b x9e => ?_)
      refine di_istore_n (ls2 := [some (.ref b), some (dI x9), some (dI i)]) rfl rfl rfl ?_
      refine di_iinc (ls2 := [some (.ref b), some (dI x9), some (dI (i + 1))]) rfl rfl rfl rfl ?_
      refine dr_goto rfl rfl ?_
      refine ih x9 (i + 1) (by omega) (by omega) (by omega) ?_
      subst w9e; subst x9e
      refine sB_cg (sB_or PS (sB_pw x7.1 x7.2)) (fun r _ _ => ⟨fun q => ?_, fun ⟨j, j0, j1, e⟩ => ?_⟩)
      · rcases q with ⟨j, j0, j1, e⟩ | e
        · exact ⟨j, j0, by omega, e⟩
        · exact ⟨i, i0, by omega, by rw [xw, e]⟩
      · by_cases c9 : j = i
        · exact Or.inr (by rw [← e, c9, xw])
        · exact Or.inl ⟨j, j0, by omega, e⟩
  exact L _ 0 0 (Nat.lt_succ_self _) (by omega) (by omega) (sB_cg sB_0 (fun r _ _ => ⟨fun q => q.elim, fun ⟨j, j0, j1, _⟩ => by omega⟩))
