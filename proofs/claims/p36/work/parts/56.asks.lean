/-! ===== the chain of chosen spans ===== -/
def frP (t : Int) : Int → Bool := fun c => decide (t < c % 100)
theorem frP_t {t c : Int} (h : t < c % 100) : frP t c = true := decide_eq_true h
theorem frP_f {t c : Int} (h : c % 100 ≤ t) : frP t c = false := decide_eq_false (by omega)
noncomputable def chn (F : Int → Int) : Nat → Int
  | 0 => lst F (frP (-1))
  | n + 1 => if chn F n = -1 then -1 else lst F (frP (chn F n / 100))
noncomputable def eN (F : Int → Int) : Nat → Int
  | 0 => -1
  | n + 1 => chn F n / 100
def moP (F : Int → Int) (n : Nat) : Prop := ∀ j : Nat, j < n → chn F j ≠ -1
theorem chn_e {F : Int → Int} : ∀ n : Nat, moP F n → chn F n = lst F (frP (eN F n))
  | 0, _ => rfl
  | n + 1, h => if_neg (h n (Nat.lt_succ_self n))
theorem chn_d {F : Int → Int} {n : Nat} (h : chn F n = -1) : ∀ k : Nat, chn F (n + k) = -1
  | 0 => h
  | k + 1 => by
    show (if chn F (n + k) = -1 then -1 else lst F (frP (chn F (n + k) / 100))) = -1
    rw [if_pos (chn_d h k)]
noncomputable def anMost (F : Int → Int) : Int := Classical.epsilon (fun x : Int => 0 ≤ x ∧ moP F x.toNat ∧ chn F x.toNat = -1)
theorem most_e {F : Int → Int} {x : Int} (h0 : 0 ≤ x) (h1 : moP F x.toNat) (h2 : chn F x.toNat = -1) : anMost F = x := by
  obtain ⟨a, b, c⟩ := Classical.epsilon_spec (p := fun x : Int => 0 ≤ x ∧ moP F x.toNat ∧ chn F x.toNat = -1) ⟨x, h0, h1, h2⟩
  have k : ∀ y : Int, 0 ≤ y → moP F y.toNat → chn F y.toNat = -1 → y = x := fun y a b c => by
    rcases Int.lt_trichotomy y x with q | q | q
    · exact absurd c (h1 _ (by omega))
    · exact q
    · exact absurd h2 (b _ (by omega))
  exact k _ a b c
noncomputable def anChosen (F : Int → Int) (k : Int) : Int := chn F k.toNat
noncomputable def spMost (σ : St) (b : Int) : Int × Int × St := if b < 0 ∨ 2 < b then (1, 0, σ) else (0, anMost (σ.1 b), σ)
noncomputable def spChosen (σ : St) (b k : Int) : Int × Int × St := if b < 0 ∨ 2 < b then (1, 0, σ) else if k < 0 then (2, 0, σ) else (0, anChosen (σ.1 b) k, σ)
/-! the class's chain -/
def ChA (b : Nat) (n : Int) (v : List Value) (h : dm_H) : Prop := h[b]? = some (3, [.ref (b + 1), dI n]) ∧ h[b + 1]? = some (20, v) ∧ arr 8 anyI v ∧ 0 ≤ n ∧ n ≤ 8
def FrK (b : Nat) (h h1 : dm_H) : Prop := h1.length = h.length ∧ ∀ j : Nat, j ≠ b → j ≠ b + 1 → h1[j]? = h[j]?
theorem FrK_tr {b : Nat} {h h1 h2 : dm_H} (a : FrK b h h1) (c : FrK b h1 h2) : FrK b h h2 := ⟨c.1.trans a.1, fun j x y => (c.2 j x y).trans (a.2 j x y)⟩
theorem FrK_of {b i : Nat} {h h1 : dm_H} (a : FrI i h h1) (hi : i = b ∨ i = b + 1) : FrK b h h1 := ⟨a.1, fun j x y => a.2 j (by omega)⟩
theorem I_chA {kc km : Int} {h : dm_H} (hI : Inv kc km h) {b : Nat} (hb : isCh b) : ∃ (n : Int) (v : List Value), ChA b n v h := by
  obtain ⟨n, n0, n1, hc⟩ := I_ch hI hb
  obtain ⟨v, hv, ha⟩ := I_cha hI hb
  exact ⟨n, v, hc, hv, ha, n0, n1⟩
theorem ch_13 {b : Nat} (hb : isCh b) : 4 ≤ b ∧ b ≤ 13 := by rcases hb with rfl | rfl | rfl <;> decide
theorem bk_17 {b : Nat} (hb : isBk b) : 17 ≤ b := by rcases hb with rfl | rfl | rfl <;> decide
theorem CA_K {a b : Nat} {s m : Int} {u w : List Value} {h h' : dm_H} (f : FrK a h h') (ha : isCh a) (hb : isBk b) (hc : CA b s m u w h) : CA b s m u w h' := by
  have h1 := ch_13 ha
  have h2 := bk_17 hb
  unfold CA at *
  rw [f.2 b (by omega) (by omega), f.2 (b + 1) (by omega) (by omega), f.2 (b + 2) (by omega) (by omega)]
  exact hc
theorem FrC_K {a : Nat} {h h' : dm_H} (f : FrK a h h') (ha : isCh a) : FrC h h' := ⟨f.1, fun j x => by have := ch_13 ha; exact f.2 j (by omega) (by omega)⟩
theorem CSt_K {a : Nat} {B : Int} {σ : St} {h h' : dm_H} (hS : CSt B σ h) (f : FrK a h h') (ha : isCh a) : CSt B σ h' := CSt_same hS (fun j j0 j1 j2 => by have := ch_13 ha; exact f.2 j (by omega) (by omega))
def QCh (kc km : Int) (h : dm_H) (b : Nat) (Φ : Int → List Value → Option Value → Prop) : dm_Rs := fun r h' => Inv kc km h' ∧ FrK b h h' ∧ match r with
  | .inl v => ∃ (n : Int) (w : List Value), ChA b n w h' ∧ Φ n w v
  | .inr _ => False
section KCH
variable {E : dm_Ex} {P : dm_Po} {l : Launch} {z d MC MS pc ce sl : Nat} {ls : List (Option Value)} {st : List Value} {h : dm_H} {kc km : Int} {b : Nat}
theorem kChN {Φ : Int → List Value → Option Value → Prop} : ∀ (Y : String) (h1 : dm_H), QCh kc km h b Φ (.inr Y) h1 → dm_T9 E P l z d MC MS Y pc ls h1 ce sl := fun _ _ q => q.2.2.elim
theorem kChV {Φ : Int → List Value → Prop} (kk : ∀ (h1 : dm_H), Inv kc km h1 → FrK b h h1 → ∀ (n : Int) (w : List Value), ChA b n w h1 → Φ n w → dm_W E P l z d MC MS pc ls st h1 ce sl) : ∀ (v : Option Value) (h1 : dm_H), QCh kc km h b (fun n w v => Φ n w ∧ v = none) (.inl v) h1 → dm_W E P l z d MC MS pc ls (v.toList ++ st) h1 ce sl := by
  rintro v h1 ⟨a, c, n, w, q1, q2, rfl⟩
  exact kk h1 a c n w q1 q2
theorem kChI {Φ : Int → List Value → Int → Prop} (kk : ∀ (h1 : dm_H), Inv kc km h1 → FrK b h h1 → ∀ (n : Int) (w : List Value) (x : Int), ChA b n w h1 → Φ n w x → 0 ≤ x → x ≤ 1 → dm_W E P l z d MC MS pc ls (dI x :: st) h1 ce sl) : ∀ (v : Option Value) (h1 : dm_H), QCh kc km h b (fun n w v => ∃ x : Int, Φ n w x ∧ 0 ≤ x ∧ x ≤ 1 ∧ v = some (dI x)) (.inl v) h1 → dm_W E P l z d MC MS pc ls (v.toList ++ st) h1 ce sl := by
  rintro v h1 ⟨a, c, n, w, q1, x, q2, b0, b1, rfl⟩
  exact kk h1 a c n w x q1 q2 b0 b1
end KCH
set_option maxRecDepth 100000 in
theorem f_X1_append (l : Launch) (hl : l.stackTraces = false) {kc km : Int} {h : dm_H} (hI : Inv kc km h) {b : Nat} (hb : isCh b) {n : Int} {v : List Value} (hc : ChA b n v h) (hn : n ≤ 7) {a1 : Int} (h1a : -1 ≤ a1) (h1b : a1 ≤ 8) : dm_M l 30 0 0 0 [.ref b, dI a1] h (QCh kc km h b (fun n2 v2 r => (n2 = n + 1 ∧ stt v v2 n a1) ∧ r = none)) := by
  obtain ⟨c1, c2, c3, c4, c5⟩ := hc
  refine dm_M_of dk_30 hl rfl (Nat.le_of_ble_eq_true rfl) ?_
  show dm_W (fun _ _ _ => True) (dm_P (QCh kc km h b (fun n2 v2 r => (n2 = n + 1 ∧ stt v v2 n a1) ∧ r = none)) 0 0) l 30 0 0 0 0 [some (.ref b), some (dI a1)] [] h 0 0
  refine di_aload_n rfl rfl ?_
  refine dr_getf rfl c1 rfl ?_
  refine di_bipush rfl (by decide) ?_
  refine di_icmp_ge rfl rfl (by omega) (by omega) (by omega) (by omega) (fun c => ?_) (fun c => ?_)
  · exact absurd c (by omega)
  · refine di_aload_n rfl rfl ?_
    refine dr_getf rfl c1 rfl ?_
    refine di_aload_n rfl rfl ?_
    refine dr_getf rfl c1 rfl ?_
    refine dr_iload_n rfl rfl ?_
    refine paX rfl c2 c3 (by omega) (by omega) trivial (by omega) (by omega) hI (lt_ch1 hb) (fun us9 hu9 => T37_cha hb hu9) (fun h1 us hI1 hk1 hu1 ha1 hs1 => ?_)
    have d1 := (hk1.2 b (by omega)).trans c1
    refine di_aload_n rfl rfl ?_
    refine dr_dup rfl rfl ?_
    refine dr_getf rfl d1 rfl ?_
    refine di_const rfl ?_
    refine di_iadd rfl ?_
    refine pfX rfl d1 (Nat.le_of_ble_eq_true rfl) rfl hI1 (lt_ch hb) (T37_ch hb (by omega)) (fun h2 hI2 hk2 hc2 => ?_)
    exact dr_vret rfl rfl (by decide) (by decide) ⟨hI2, FrK_tr (FrK_of hk1 (Or.inr rfl)) (FrK_of hk2 (Or.inl rfl)), n + 1, us, ⟨hc2, (hk2.2 (b + 1) (by omega)).trans hu1, ha1, by omega, by omega⟩, ⟨rfl, hs1⟩, rfl⟩
set_option maxRecDepth 100000 in
theorem f_X1_rankAt (l : Launch) (hl : l.stackTraces = false) {kc km : Int} {h : dm_H} (hI : Inv kc km h) {b : Nat} (hb : isCh b) {n : Int} {v : List Value} (hc : ChA b n v h) {a1 : Int} (h1a : -2147483648 ≤ a1) (h1b : a1 ≤ 2147483647) : dm_M l 29 0 0 0 [.ref b, dI a1] h (QP h (RI (fun x => (0 ≤ a1 → a1 < n → x = cv v a1) ∧ (a1 < 0 ∨ n ≤ a1 → x = -1))) []) := by
  obtain ⟨c1, c2, c3, c4, c5⟩ := hc
  refine dm_M_of dk_29 hl rfl (Nat.le_of_ble_eq_true rfl) ?_
  show dm_W (fun _ _ _ => True) (dm_P (QP h (RI (fun x => (0 ≤ a1 → a1 < n → x = cv v a1) ∧ (a1 < 0 ∨ n ≤ a1 → x = -1))) []) 0 0) l 29 0 0 0 0 [some (.ref b), some (dI a1)] [] h 0 0
  refine dr_iload_n rfl rfl ?_
  refine di_if_lt rfl rfl (by omega) (by omega) (fun c => ?_) (fun c => ?_)
  · refine di_const rfl ?_
    exact dr_iret (ty := .int) rfl rfl rfl (by decide) (by decide) ⟨rfl, -1, ⟨by omega, fun _ => rfl⟩, by omega, by omega, rfl⟩
  refine dr_iload_n rfl rfl ?_
  refine di_aload_n rfl rfl ?_
  refine dr_getf rfl c1 rfl ?_
  refine di_icmp_ge rfl rfl (by omega) (by omega) (by omega) (by omega) (fun c => ?_) (fun c => ?_)
  · refine di_const rfl ?_
    exact dr_iret (ty := .int) rfl rfl rfl (by decide) (by decide) ⟨rfl, -1, ⟨by omega, fun _ => rfl⟩, by omega, by omega, rfl⟩
  refine di_aload_n rfl rfl ?_
  refine dr_getf rfl c1 rfl ?_
  refine dr_iload_n rfl rfl ?_
  refine di_iald rfl c2 c3 (by omega) (by omega) (fun x xf xa xb xv => ?_)
  have xw : cv v a1 = x := cv_eq xv xa xb
  refine dr_goto rfl rfl ?_
  exact dr_iret (ty := .int) rfl rfl rfl (by decide) (by decide) ⟨rfl, x, ⟨fun _ _ => xw.symm, by omega⟩, by omega, by omega, rfl⟩
/-- the chain so far: n of them, found among the ranks below r; e is the to of the last -/
def fcP (F : Int → Int) (u v : List Value) (s n e r : Int) : Prop := moP F n.toNat ∧ e = eN F n.toNat ∧ (∀ j : Int, 0 ≤ j → j < r → cv u j % 100 ≤ e) ∧ ∀ j : Int, 0 ≤ j → j < n → (0 ≤ cv v j ∧ cv v j < s) ∧ cv u (cv v j) = chn F j.toNat
section FCP
variable {F : Int → Int} {u w v v2 : List Value} {s n e r x e2 : Int}
theorem fc_0 : fcP F u v s 0 (-1) 0 := ⟨fun j h => absurd h (Nat.not_lt_zero _), rfl, fun j h0 h1 => by omega, fun j h0 h1 => by omega⟩
theorem fc_n (h : fcP F u v s n e r) (hx : cv u r % 100 ≤ e) : fcP F u v s n e (r + 1) := ⟨h.1, h.2.1, fun j j0 j1 => by
  by_cases q : j = r
  · rw [q]; exact hx
  · exact h.2.2.1 j j0 (by omega), h.2.2.2⟩
theorem fc_l (hr : Rep (cv u) (cv w) s F) (ht : Srt (cv u) s) (h : fcP F u v s n e r) (r0 : 0 ≤ r) (r1 : r < s) (hx : e < cv u r % 100) : chn F n.toNat = cv u r := by
  rw [chn_e _ h.1, ← h.2.1]
  refine lst_eq ⟨(Rep_yes hr r0 r1 rfl).2.1, frP_t hx, fun c hc hp => ?_⟩
  obtain ⟨j, j0, j1, rfl⟩ := Rep_ex hr hc
  have hp := of_decide_eq_true hp
  by_cases q : j < r
  · have := h.2.2.1 j j0 q; omega
  · by_cases q2 : j = r
    · rw [q2]; exact Int.le_refl _
    · have := ht r j r0 (by omega) j1; omega
theorem fc_y (hr : Rep (cv u) (cv w) s F) (ht : Srt (cv u) s) (h : fcP F u v s n e r) (n0 : 0 ≤ n) (r0 : 0 ≤ r) (r1 : r < s) (hx : e < cv u r % 100) (hok : cv u r % 100 ≤ cv u r / 100) (hs : stt v v2 n r) (he : e2 = cv u r / 100) : fcP F u v2 s (n + 1) e2 (r + 1) := by
  have hl := fc_l hr ht h r0 r1 hx
  have h0 := Rep_at hr r0 r1
  refine ⟨fun j hj => ?_, ?_, fun j j0 j1 => ?_, fun j j0 j1 => ?_⟩
  · by_cases q : j < n.toNat
    · exact h.1 j q
    · rw [show j = n.toNat by omega, hl]; omega
  · rw [show (n + 1).toNat = n.toNat + 1 by omega]
    show e2 = chn F n.toNat / 100
    rw [hl, he]
  · by_cases q : j = r
    · rw [q, he]; exact hok
    · have := h.2.2.1 j j0 (by omega)
      omega
  · by_cases q : j = n
    · rw [q, stt_at hs n0]; exact ⟨⟨r0, r1⟩, hl.symm⟩
    · rw [stt_ne hs j0 q]; exact h.2.2.2 j j0 (by omega)
theorem fc_e (h : fcP F u v s n e r) (hr : Rep (cv u) (cv w) s F) (e9 : r = s) : chn F n.toNat = -1 := by
  rw [chn_e _ h.1, ← h.2.1]
  exact lst_no (fun c hc => by
    obtain ⟨j, j0, j1, rfl⟩ := Rep_ex hr hc
    exact frP_f (h.2.2.1 j j0 (by omega)))
/-- the chain whole -/
def fcE (F : Int → Int) (u v : List Value) (s n : Int) : Prop := (moP F n.toNat ∧ chn F n.toNat = -1) ∧ ∀ j : Int, 0 ≤ j → j < n → (0 ≤ cv v j ∧ cv v j < s) ∧ cv u (cv v j) = chn F j.toNat
theorem fc_x (h : fcP F u v s n e r) (hr : Rep (cv u) (cv w) s F) (e9 : r = s) : fcE F u v s n := ⟨⟨h.1, fc_e h hr e9⟩, h.2.2.2⟩
theorem fc_k {a y x : Int} (h : fcE F u v s n) (n0 : 0 ≤ n) (a0 : 0 ≤ a) (y1 : 0 ≤ a → a < n → y = cv v a) (y2 : a < 0 ∨ n ≤ a → y = -1) (x1 : 0 ≤ y → y < s → x = cv u y) (x2 : y < 0 → x = -1) : anChosen F a = x := by
  show chn F a.toNat = x
  by_cases q : a < n
  · obtain ⟨⟨p0, p1⟩, p2⟩ := h.2 a a0 q
    have e := y1 a0 q
    rw [← p2, x1 (by omega) (by omega), e]
  · have e := y2 (Or.inr (by omega))
    rw [x2 (by omega)]
    have := chn_d h.1.2 (a - n).toNat
    rw [show n.toNat + (a - n).toNat = a.toNat by omega] at this
    exact this
end FCP
set_option maxHeartbeats 4000000 in
set_option maxRecDepth 100000 in
theorem f_X1_fillChosen (l : Launch) (hl : l.stackTraces = false) {kc km : Int} {h : dm_H} (hI : Inv kc km h) {b : Nat} (hb : isCh b) {b1 : Nat} (hb1 : isBk b1) {s m : Int} {u w : List Value} (hC : CA b1 s m u w h) {F : Int → Int} (hr : Rep (cv u) (cv w) s F) (ht : Srt (cv u) s) : dm_M l 31 1 0 0 [.ref b, .ref b1] h (QCh kc km h b (fun n v r => fcE F u v s n ∧ r = none)) := by
  refine dm_M_of dk_31 hl rfl (Nat.le_of_ble_eq_true rfl) ?_
  show dm_W (fun _ _ _ => True) (dm_P (QCh kc km h b (fun n v r => fcE F u v s n ∧ r = none)) 0 0) l 31 1 0 0 0 [some (.ref b), some (.ref b1), none, none] [] h 0 0
  obtain ⟨n0, v0, c1, c2, c3, -, -⟩ := I_chA hI hb
  have s0 := hC.2.2.2.2.2.1
  have s8 := hC.2.2.2.2.2.2.1
  refine di_aload_n rfl rfl ?_
  refine di_const rfl ?_
  refine pfX rfl c1 (Nat.le_of_ble_eq_true rfl) rfl hI (lt_ch hb) (T37_ch hb (by omega)) (fun h1 hI1 hk1 hc1 => ?_)
  have hA1 : ChA b 0 v0 h1 := ⟨hc1, (hk1.2 (b + 1) (by omega)).trans c2, c3, by omega, by omega⟩
  have hK1 : FrK b h h1 := FrK_of hk1 (Or.inl rfl)
  refine di_const rfl ?_
  refine di_istore_n (ls2 := [some (.ref b), some (.ref b1), some (dI (-1)), none]) rfl rfl rfl ?_
  refine di_const rfl ?_
  refine di_istore_n (ls2 := [some (.ref b), some (.ref b1), some (dI (-1)), some (dI 0)]) rfl rfl rfl ?_
  have L : ∀ (k : Nat) (e r n : Int) (v : List Value) (h2 : dm_H), (8 - r).toNat < k → -1 ≤ e → e ≤ 99 → 0 ≤ r → r ≤ s → 0 ≤ n → n ≤ r → Inv kc km h2 → FrK b h h2 → ChA b n v h2 → fcP F u v s n e r → dm_W (fun _ _ _ => True) (dm_P (QCh kc km h b (fun n v r => fcE F u v s n ∧ r = none)) 0 0) l 31 1 0 0 9 [some (.ref b), some (.ref b1), some (dI e), some (dI r)] [] h2 0 0 := by
    intro k
    induction k with
    | zero => intro e r n v h2 hm; exact absurd hm (Nat.not_lt_zero _)
    | succ k ih =>
      intro e r n v h2 hm e0 e1 r0 r1 nn0 nn1 hI2 hK2 hA2 PF
      have hC2 := CA_K hK2 hb hb1 hC
      refine dr_iload_n rfl rfl ?_
      refine di_aload_n rfl rfl ?_
      refine dr_virt rfl rfl rfl rfl hC2.1 (f_X0_count l hl hI2 hb1 hC2) (by decide) (by decide) (by decide) (Nat.le_of_ble_eq_true rfl) kNP (kIP (fun y yf ya yb => ?_))
      obtain ⟨yc, yd, ye⟩ := yf
      subst ye
      refine di_icmp_ge rfl rfl (by omega) (by omega) (by omega) (by omega) (fun c => ?_) (fun c => ?_)
      · exact dr_vret rfl rfl (by decide) (by decide) ⟨hI2, hK2, n, v, hA2, fc_x PF hr (by omega), rfl⟩
      refine di_aload_n rfl rfl ?_
      refine dr_iload_n rfl rfl ?_
      refine dr_virt rfl rfl rfl rfl hC2.1 (f_X0_fromAt l hl hI2 hb1 hC2 (a1 := r) (by omega) (by omega)) (by decide) (by decide) (by decide) (Nat.le_of_ble_eq_true rfl) kNP (kIP (fun x xf xa xb => ?_))
      obtain ⟨xc, xd, xk, xk2, xk3⟩ := xf
      have xe := xk r0 (by omega)
      have hok := (CA_arr hC).1 r r0 (by omega)
      have h9 := Rep_at hr r0 (by omega)
      refine dr_iload_n rfl rfl ?_
      refine di_icmp_le rfl rfl (by omega) (by omega) (by omega) (by omega) (fun c2 => ?_) (fun c2 => ?_)
      · refine di_iinc (ls2 := [some (.ref b), some (.ref b1), some (dI e), some (dI (r + 1))]) rfl rfl rfl rfl ?_
        refine dr_goto rfl rfl ?_
        exact ih e (r + 1) n v h2 (by omega) e0 e1 (by omega) (by omega) nn0 (by omega) hI2 hK2 hA2 (fc_n PF (by omega))
      refine di_aload_n rfl rfl ?_
      refine dr_iload_n rfl rfl ?_
      refine dr_virt rfl rfl rfl rfl hA2.1 (f_X1_append l hl hI2 hb hA2 (by omega) (a1 := r) (by omega) (by omega)) (by decide) (by decide) (by decide) (Nat.le_of_ble_eq_true rfl) kChN (kChV (fun h3 hI3 hK3 n3 v3 hA3 q3 => ?_))
      obtain ⟨en3, hs3⟩ := q3
      subst en3
      have hK4 := FrK_tr hK2 hK3
      have hC3 := CA_K hK4 hb hb1 hC
      refine di_aload_n rfl rfl ?_
      refine dr_iload_n rfl rfl ?_
      refine dr_virt rfl rfl rfl rfl hC3.1 (f_X0_toAt l hl hI3 hb1 hC3 (a1 := r) (by omega) (by omega)) (by decide) (by decide) (by decide) (Nat.le_of_ble_eq_true rfl) kNP (kIP (fun t tf ta tb => ?_))
      obtain ⟨tc, td, tk, tk2, tk3⟩ := tf
      have te := tk r0 (by omega)
      refine di_istore_n (ls2 := [some (.ref b), some (.ref b1), some (dI t), some (dI r)]) rfl rfl rfl ?_
      refine di_iinc (ls2 := [some (.ref b), some (.ref b1), some (dI t), some (dI (r + 1))]) rfl rfl rfl rfl ?_
      refine dr_goto rfl rfl ?_
      exact ih t (r + 1) (n + 1) v3 h3 (by omega) (by omega) (by omega) (by omega) (by omega) (by omega) (by omega) hI3 hK4 hA3 (fc_y hr ht PF nn0 r0 (by omega) (by omega) hok hs3 te)
  exact L _ (-1) 0 0 v0 h1 (Nat.lt_succ_self _) (by omega) (by omega) (by omega) (by omega) (by omega) (by omega) hI1 hK1 hA1 fc_0
set_option maxRecDepth 100000 in
theorem f_X6_needNotBelowZero (l : Launch) (hl : l.stackTraces = false) {kc km : Int} {h : dm_H} (hI : Inv kc km h) {a0 : Int} (h0a : -2147483648 ≤ a0) (h0b : a0 ≤ 2147483647) : dm_M l 121 1 1 6 [dI a0] h (QPX h (fun v => v = none ∧ (0 ≤ a0 ∧ a0 ≤ 2147483647)) XA (a0 < 0 ∨ 2147483647 < a0)) := by
  refine dm_M_of dk_121 hl rfl (Nat.le_of_ble_eq_true rfl) ?_
  show dm_W (fun _ _ _ => True) (dm_P (QPX h (fun v => v = none ∧ (0 ≤ a0 ∧ a0 ≤ 2147483647)) XA (a0 < 0 ∨ 2147483647 < a0)) 1 6) l 121 1 1 6 0 [some (dI a0)] [] h 0 0
  refine dr_iload_n rfl rfl ?_
  refine di_if_ge rfl rfl (by omega) (by omega) (fun c1 => ?_) (fun c1 => ?_)
  · exact dr_vret rfl rfl (by decide) (by decide) ⟨rfl, rfl, by omega, by omega⟩
  · exact dr_throw rfl (by decide) rfl (by decide) (by decide) (by decide) (Nat.le_of_ble_eq_true rfl) ⟨rfl, rfl, by omega⟩
theorem ch_4 : isCh 4 := Or.inl rfl
set_option maxHeartbeats 4000000 in
set_option maxRecDepth 100000 in
/-- Earlyends.most -/
theorem c_X6_most (l : Launch) (hl : l.stackTraces = false) {kc km : Int} {h : dm_H} (hI : Inv kc km h) {B : Int} {σ : St} (hS : CSt B σ h) (hB : B ≤ 80000) {a1 : Int} (h1a : -2147483648 ≤ a1) (h1b : a1 ≤ 2147483647) : dm_M l 89 6 8 48 [.ref 0, dI (a1)] h (QX kc km h B XB XB (spMost σ a1)) := by
  refine dm_M_of dk_89 hl rfl (Nat.le_of_ble_eq_true rfl) ?_
  show dm_W (fun _ _ _ => True) (dm_P (QX kc km h B XB XB (spMost σ a1)) 8 48) l 89 6 8 48 0 [some (.ref 0), some (dI (a1))] [] h 0 0
  refine di_aload_n rfl rfl ?_
  obtain ⟨r1, c2, c3, hc4⟩ := I_cls hI
  refine dr_getf rfl hc4 rfl ?_
  refine di_aload_n rfl rfl ?_
  refine dr_iload_n rfl rfl ?_
  refine dr_virt rfl rfl rfl rfl hc4 (f_X6_bookAt l hl hI (a1 := a1) (by omega) (by omega)) (by decide) (by decide) (by decide) (Nat.le_of_ble_eq_true rfl) (fun Y h9 q9 => by obtain ⟨rfl, rfl, hC⟩ := q9; exact dr_out rfl (by decide) (by decide) (QX_1 (a := 0) hI FrC_rf hS (by omega) (by unfold spMost; (repeat' split) <;> first | rfl | (exfalso; omega) | (apply Prod.ext <;> first | rfl | (dsimp only; omega) | (apply Prod.ext <;> first | rfl | (dsimp only; omega)))))) (kPXR (fun r5 ⟨q6, q7, q8, q10⟩ => ?_))
  obtain ⟨s11, m12, u13, w14, hc15, hr16, ht17, ma18, mb19⟩ := CSt_bk hS (k := a1) q8 q10 q7
  have sq20 : 0 ≤ s11 ∧ s11 ≤ 8 := ⟨hc15.2.2.2.2.2.1, hc15.2.2.2.2.2.2.1⟩
  have hz21 : zF (σ.1 a1) = s11 := zF_eq hr16
  obtain ⟨n22, v23, hch24⟩ := I_chA hI (b := 4) ch_4
  refine dr_virt rfl rfl rfl rfl hch24.1 (f_X1_fillChosen l hl hI (b := 4) ch_4 q6 hc15 hr16 ht17 ) (by decide) (by decide) (by decide) (Nat.le_of_ble_eq_true rfl) kChN (kChV (fun h25 hI26 hK27 n28 v29 hA30 qf31 => ?_))
  have hF32 := FrC_tr FrC_rf (FrC_K hK27 ch_4)
  have hS33 := CSt_K hS hK27 ch_4
  have hc34 := CA_K hK27 ch_4 q6 hc15
  have n28a := hA30.2.2.2.1
  have n28b := hA30.2.2.2.2
  refine di_aload_n rfl rfl ?_
  obtain ⟨r36, c37, c38, hc39⟩ := I_cls hI26
  refine dr_getf rfl hc39 rfl ?_
  refine dr_getf rfl hA30.1 rfl ?_
  have e9 : anMost (σ.1 a1) = n28 := most_e n28a qf31.1.1 qf31.1.2
  exact dr_iret (ty := .int) rfl rfl rfl (by decide) (by decide) (QX_ok hI26 hF32 hS33 (by omega) (by unfold spMost; (try rw [e9]); (repeat' split) <;> first | rfl | (exfalso; omega) | (apply Prod.ext <;> first | rfl | (dsimp only; omega) | (apply Prod.ext <;> first | rfl | (dsimp only; omega)))))
set_option maxHeartbeats 4000000 in
set_option maxRecDepth 100000 in
/-- Earlyends.chosen -/
theorem c_X6_chosen (l : Launch) (hl : l.stackTraces = false) {kc km : Int} {h : dm_H} (hI : Inv kc km h) {B : Int} {σ : St} (hS : CSt B σ h) (hB : B ≤ 80000) {a1 : Int} (h1a : -2147483648 ≤ a1) (h1b : a1 ≤ 2147483647) {a2 : Int} (h2a : -2147483648 ≤ a2) (h2b : a2 ≤ 2147483647) : dm_M l 90 6 8 48 [.ref 0, dI (a1), dI (a2)] h (QX kc km h B XB XA (spChosen σ a1 a2)) := by
  refine dm_M_of dk_90 hl rfl (Nat.le_of_ble_eq_true rfl) ?_
  show dm_W (fun _ _ _ => True) (dm_P (QX kc km h B XB XA (spChosen σ a1 a2)) 8 48) l 90 6 8 48 0 [some (.ref 0), some (dI (a1)), some (dI (a2)), none] [] h 0 0
  refine di_aload_n rfl rfl ?_
  refine dr_iload_n rfl rfl ?_
  obtain ⟨r1, c2, c3, hc4⟩ := I_cls hI
  refine dr_virt rfl rfl rfl rfl hc4 (f_X6_bookAt l hl hI (a1 := a1) (by omega) (by omega)) (by decide) (by decide) (by decide) (Nat.le_of_ble_eq_true rfl) (fun Y h9 q9 => by obtain ⟨rfl, rfl, hC⟩ := q9; exact dr_out rfl (by decide) (by decide) (QX_1 (a := 0) hI FrC_rf hS (by omega) (by unfold spChosen; (repeat' split) <;> first | rfl | (exfalso; omega) | (apply Prod.ext <;> first | rfl | (dsimp only; omega) | (apply Prod.ext <;> first | rfl | (dsimp only; omega)))))) (kPXR (fun r5 ⟨q6, q7, q8, q10⟩ => ?_))
  refine di_astore_n (ls2 := [some (.ref 0), some (dI (a1)), some (dI (a2)), some (.ref r5)]) rfl rfl rfl ?_
  refine dr_iload_n rfl rfl ?_
  refine dr_stat rfl rfl rfl rfl (f_X6_needNotBelowZero l hl hI (a0 := a2) (by omega) (by omega)) (by decide) (by decide) (by decide) (Nat.le_of_ble_eq_true rfl) (fun Y h9 q9 => by obtain ⟨rfl, rfl, hC⟩ := q9; exact dr_out rfl (by decide) (by decide) (QX_2 (a := 0) hI FrC_rf hS (by omega) (by unfold spChosen; (repeat' split) <;> first | rfl | (exfalso; omega) | (apply Prod.ext <;> first | rfl | (dsimp only; omega) | (apply Prod.ext <;> first | rfl | (dsimp only; omega)))))) (kPXV (fun q11 => ?_))
  refine di_aload_n rfl rfl ?_
  refine dr_getf rfl hc4 rfl ?_
  refine di_aload_n rfl rfl ?_
  obtain ⟨s12, m13, u14, w15, hc16, hr17, ht18, ma19, mb20⟩ := CSt_bk hS (k := a1) q8 q10 q7
  have sq21 : 0 ≤ s12 ∧ s12 ≤ 8 := ⟨hc16.2.2.2.2.2.1, hc16.2.2.2.2.2.2.1⟩
  have hz22 : zF (σ.1 a1) = s12 := zF_eq hr17
  obtain ⟨n23, v24, hch25⟩ := I_chA hI (b := 4) ch_4
  refine dr_virt rfl rfl rfl rfl hch25.1 (f_X1_fillChosen l hl hI (b := 4) ch_4 q6 hc16 hr17 ht18 ) (by decide) (by decide) (by decide) (Nat.le_of_ble_eq_true rfl) kChN (kChV (fun h26 hI27 hK28 n29 v30 hA31 qf32 => ?_))
  have hF33 := FrC_tr FrC_rf (FrC_K hK28 ch_4)
  have hS34 := CSt_K hS hK28 ch_4
  have hc35 := CA_K hK28 ch_4 q6 hc16
  have n29a := hA31.2.2.2.1
  have n29b := hA31.2.2.2.2
  refine di_aload_n rfl rfl ?_
  refine di_aload_n rfl rfl ?_
  obtain ⟨r37, c38, c39, hc40⟩ := I_cls hI27
  refine dr_getf rfl hc40 rfl ?_
  refine dr_iload_n rfl rfl ?_
  refine dr_virt rfl rfl rfl rfl hA31.1 (f_X1_rankAt l hl hI27 ch_4 hA31 (a1 := a2) (by omega) (by omega)) (by decide) (by decide) (by decide) (Nat.le_of_ble_eq_true rfl) kNP (kIP (fun y41 y41f y41a y41b => ?_))
  obtain ⟨y41r, y41s⟩ := y41f
  refine dr_virt rfl rfl rfl rfl hc35.1 (f_X0_codeAt l hl hI27 q6 hc35 (a1 := y41) (by omega) (by omega)) (by decide) (by decide) (by decide) (Nat.le_of_ble_eq_true rfl) kNP (kIP (fun y42 y42f y42a y42b => ?_))
  obtain ⟨y42c, y42d, y42k, y42k2, y42k3⟩ := y42f
  have e9 : anChosen (σ.1 a1) a2 = y42 := fc_k qf32 n29a (by omega) y41r y41s y42k y42k2
  clear qf32
  exact dr_iret (ty := .int) rfl rfl rfl (by decide) (by decide) (QX_ok hI27 hF33 hS34 (by omega) (by unfold spChosen; (try rw [e9]); (repeat' split) <;> first | rfl | (exfalso; omega) | (apply Prod.ext <;> first | rfl | (dsimp only; omega) | (apply Prod.ext <;> first | rfl | (dsimp only; omega)))))
/-! ===== links ===== -/
def hoP (p : Int) : Int → Bool := fun c => decide (c % 100 ≤ p ∧ p ≤ c / 100)
theorem hoP_t {p c : Int} (h : c % 100 ≤ p ∧ p ≤ c / 100) : hoP p c = true := decide_eq_true h
theorem hoP_f {p c : Int} (h : ¬ (c % 100 ≤ p ∧ p ≤ c / 100)) : hoP p c = false := decide_eq_false h
noncomputable def gh (F : Int → Int) (p : Int) : Int := grt F (hoP p)
noncomputable def pl (F : Int → Int) (a : Int) : Nat → Int
  | 0 => a
  | n + 1 => gh F (pl F a n) / 100 + 1
def lkOK (F : Int → Int) (a b : Int) (n : Nat) : Prop := ∀ j : Nat, j < n → pl F a j ≤ b ∧ gh F (pl F a j) ≠ -1
def fnE (F : Int → Int) (a b : Int) : Prop := ∃ n : Nat, lkOK F a b n ∧ pl F a n ≤ b ∧ gh F (pl F a n) = -1
def lkX (F : Int → Int) (a b x : Int) : Prop := (0 ≤ x ∧ lkOK F a b x.toNat ∧ b < pl F a x.toNat) ∨ (x = -1 ∧ fnE F a b)
section LK
variable {F f g : Int → Int} {u w v v2 : List Value} {a b s n p x y i j p2 : Int}
theorem lk_m (h : 0 ≤ x) (h1 : lkOK F a b x.toNat) (h2 : b < pl F a x.toNat) : ¬ fnE F a b := fun ⟨n, k1, k2, k3⟩ => by
  rcases Nat.lt_trichotomy n x.toNat with q | q | q
  · exact (h1 n q).2 k3
  · rw [q] at k2; omega
  · have := (k1 _ q).1; omega
theorem lk_uq (h : lkX F a b x) (k : lkX F a b y) : x = y := by
  rcases h with ⟨h0, h1, h2⟩ | ⟨h0, h1⟩
  · rcases k with ⟨k0, k1, k2⟩ | ⟨k0, k1⟩
    · rcases Int.lt_trichotomy x y with q | q | q
      · have := (k1 x.toNat (by omega)).1; omega
      · exact q
      · have := (h1 y.toNat (by omega)).1; omega
    · exact absurd k1 (lk_m h0 h1 h2)
  · rcases k with ⟨k0, k1, k2⟩ | ⟨k0, k1⟩
    · exact absurd h1 (lk_m k0 k1 k2)
    · omega
noncomputable def anLinks (F : Int → Int) (a b : Int) : Int := Classical.epsilon (fun x : Int => lkX F a b x)
theorem links_e (h : lkX F a b x) : anLinks F a b = x := lk_uq (Classical.epsilon_spec (p := fun x : Int => lkX F a b x) ⟨x, h⟩) h
noncomputable def anLink (F : Int → Int) (a b k : Int) : Int := if anLinks F a b ≤ k then -1 else gh F (pl F a k.toNat)
/-- the greatest rank that holds a place -/
def lhI (s : Int) (u : List Value) (p i : Int) : Prop := ∀ j : Int, i < j → j < s → ¬ (cv u j % 100 ≤ p ∧ p ≤ cv u j / 100)
theorem lh_0 (e : i = s - 1) : lhI s u p i := fun j j0 j1 => by omega
theorem lh_s (h : lhI s u p i) (hn : ¬ (cv u i % 100 ≤ p ∧ p ≤ cv u i / 100)) (e : x = i - 1) : lhI s u p x := fun j j0 j1 => by
  by_cases q : j = i
  · rw [q]; exact hn
  · exact h j (by omega) j1
def lhP (s : Int) (u : List Value) (p x : Int) : Prop := (x = -1 ∧ ∀ j : Int, 0 ≤ j → j < s → ¬ (cv u j % 100 ≤ p ∧ p ≤ cv u j / 100)) ∨ (0 ≤ x ∧ x < s ∧ (cv u x % 100 ≤ p ∧ p ≤ cv u x / 100) ∧ ∀ j : Int, x < j → j < s → ¬ (cv u j % 100 ≤ p ∧ p ≤ cv u j / 100))
theorem lh_no (h : lhP s u p x) (hr : Rep (cv u) (cv w) s F) (e : x = -1) : gh F p = -1 := by
  rcases h with ⟨-, h⟩ | ⟨h, -⟩
  · exact grt_no (fun c hc => by
      obtain ⟨j, j0, j1, rfl⟩ := Rep_ex hr hc
      exact hoP_f (h j j0 j1))
  · omega
theorem lh_y (h : lhP s u p x) (hr : Rep (cv u) (cv w) s F) (ht : Srt (cv u) s) (e : x ≠ -1) : (0 ≤ x ∧ x < s) ∧ gh F p = cv u x ∧ cv u x % 100 ≤ p ∧ p ≤ cv u x / 100 := by
  rcases h with ⟨h, -⟩ | ⟨h0, h1, h2, h3⟩
  · exact absurd h e
  · refine ⟨⟨h0, h1⟩, grt_eq ⟨(Rep_yes hr h0 h1 rfl).2.1, hoP_t h2, fun c hc hp => ?_⟩, h2⟩
    obtain ⟨j, j0, j1, rfl⟩ := Rep_ex hr hc
    by_cases q : x < j
    · exact absurd (of_decide_eq_true hp) (h3 j q j1)
    · by_cases q2 : j = x
      · rw [q2]; exact Int.le_refl _
      · have := ht j x j0 (by omega) h1; omega
def flP (F : Int → Int) (u v : List Value) (s a b n p : Int) : Prop := lkOK F a b n.toNat ∧ p = pl F a n.toNat ∧ (n = 0 ∨ ∃ r : Int, n - 1 ≤ r ∧ r < s ∧ p = cv u r / 100 + 1) ∧ ∀ j : Int, 0 ≤ j → j < n → (0 ≤ cv v j ∧ cv v j < s) ∧ cv u (cv v j) = gh F (pl F a j.toNat)
theorem fl_0 : flP F u v s a b 0 a := ⟨fun j h => absurd h (Nat.not_lt_zero _), rfl, Or.inl rfl, fun j h0 h1 => by omega⟩
theorem fl_y (ht : Srt (cv u) s) (h : flP F u v s a b n p) (n0 : 0 ≤ n) (hb : p ≤ b) (hx : (0 ≤ x ∧ x < s) ∧ gh F p = cv u x ∧ cv u x % 100 ≤ p ∧ p ≤ cv u x / 100) (hne : cv u x ≠ -1) (hs : stt v v2 n x) (he : p2 = cv u x / 100 + 1) : flP F u v2 s a b (n + 1) p2 := by
  obtain ⟨⟨x0, x1⟩, hg, hh⟩ := hx
  refine ⟨fun j hj => ?_, ?_, Or.inr ⟨x, ?_, x1, he⟩, fun j j0 j1 => ?_⟩
  · by_cases q : j < n.toNat
    · exact h.1 j q
    · rw [show j = n.toNat by omega, ← h.2.1, hg]; exact ⟨hb, hne⟩
  · rw [show (n + 1).toNat = n.toNat + 1 by omega]
    show p2 = gh F (pl F a n.toNat) / 100 + 1
    rw [← h.2.1, hg, he]
  · rcases h.2.2.1 with e | ⟨r, r0, r1, e⟩
    · omega
    · by_cases q : x ≤ r
      · have : cv u x ≤ cv u r := by
          by_cases q2 : x = r
          · rw [q2]; exact Int.le_refl _
          · have := ht x r x0 (by omega) r1; omega
        omega
      · omega
  · by_cases q : j = n
    · rw [q, stt_at hs n0, ← h.2.1, hg]; exact ⟨⟨x0, x1⟩, rfl⟩
    · rw [stt_ne hs j0 q]; exact h.2.2.2 j j0 (by omega)
theorem fl_8 (hr : Rep (cv u) (cv w) s F) (ht : Srt (cv u) s) (h : flP F u v s a b n p) (hs : s ≤ 8) (hn : 8 ≤ n) : gh F p = -1 := grt_no (fun c hc => by
  obtain ⟨j, j0, j1, rfl⟩ := Rep_ex hr hc
  rcases h.2.2.1 with e | ⟨r, r0, r1, e⟩
  · omega
  · refine hoP_f (fun q => ?_)
    have : cv u j ≤ cv u r := by
      by_cases q2 : j = r
      · rw [q2]; exact Int.le_refl _
      · have := ht j r j0 (by omega) r1; omega
    omega)
def fyE (F : Int → Int) (u v : List Value) (s a b n : Int) : Prop := (lkOK F a b n.toNat ∧ b < pl F a n.toNat) ∧ ∀ j : Int, 0 ≤ j → j < n → (0 ≤ cv v j ∧ cv v j < s) ∧ cv u (cv v j) = gh F (pl F a j.toNat)
theorem fl_t (h : flP F u v s a b n p) (hb : b < p) : fyE F u v s a b n := ⟨⟨h.1, by rw [← h.2.1]; exact hb⟩, h.2.2.2⟩
theorem fl_f (h : flP F u v s a b n p) (hb : p ≤ b) (hg : gh F p = -1) : fnE F a b := ⟨n.toNat, h.1, by rw [← h.2.1]; exact hb, by rw [← h.2.1]; exact hg⟩
theorem fl_k {k : Int} (h : fyE F u v s a b n) (n0 : 0 ≤ n) (k0 : 0 ≤ k) (y1 : 0 ≤ k → k < n → y = cv v k) (y2 : k < 0 ∨ n ≤ k → y = -1) (x1 : 0 ≤ y → y < s → x = cv u y) (x2 : y < 0 → x = -1) : anLink F a b k = x := by
  have e := links_e (Or.inl ⟨n0, h.1⟩)
  unfold anLink
  rw [e]
  by_cases q : k < n
  · obtain ⟨⟨p0, p1⟩, p2⟩ := h.2 k k0 q
    have e := y1 k0 q
    rw [if_neg (by omega), ← p2, x1 (by omega) (by omega), e]
  · rw [if_pos (by omega)]
    have e := y2 (Or.inr (by omega))
    rw [x2 (by omega)]
theorem fl_z {k : Int} (h : fnE F a b) (k0 : 0 ≤ k) : anLink F a b k = -1 := by
  unfold anLink
  rw [links_e (Or.inr ⟨rfl, h⟩), if_pos (by omega)]
end LK
noncomputable def spLinks (σ : St) (b a e : Int) : Int × Int × St := if b < 0 ∨ 2 < b then (1, 0, σ) else if a < 0 ∨ e < a ∨ 99 < e then (2, 0, σ) else (0, anLinks (σ.1 b) a e, σ)
noncomputable def spLink (σ : St) (b a e k : Int) : Int × Int × St := if b < 0 ∨ 2 < b then (1, 0, σ) else if (a < 0 ∨ e < a ∨ 99 < e) ∨ k < 0 then (2, 0, σ) else (0, anLink (σ.1 b) a e k, σ)

set_option maxHeartbeats 4000000 in
set_option maxRecDepth 100000 in
/-- Earlyends$Book.lastHolder -/
theorem f_X0_lastHolder (l : Launch) (hl : l.stackTraces = false) {kc km : Int} {h : dm_H} (hI : Inv kc km h) {b0 : Nat} (hb0 : isBk b0) {s0 m0 : Int} {u0 w0 : List Value} (hC0 : CA b0 s0 m0 u0 w0 h) {a1 : Int} (h1a : -2147483648 ≤ a1) (h1b : a1 ≤ 2147483647) : dm_M l 27 2 0 0 [.ref b0, dI (a1)] h (QP h (RI (fun x => -1 ≤ x ∧ x ≤ 7 ∧ lhP s0 u0 a1 x)) []) := by
  obtain ⟨hq0, hu0, hw0, hau0, haw0, hs0a, hs0b, hm0a, hm0b⟩ := id hC0
  refine dm_M_of dk_27 hl rfl (Nat.le_of_ble_eq_true rfl) ?_
  show dm_W (fun _ _ _ => True) (dm_P (QP h (RI (fun x => -1 ≤ x ∧ x ≤ 7 ∧ lhP s0 u0 a1 x)) []) 0 0) l 27 2 0 0 0 [some (.ref b0), some (dI (a1)), none] [] h 0 0
  refine di_aload_n rfl rfl ?_
  refine dr_getf rfl hq0 rfl ?_
  refine di_const rfl ?_
  refine di_isub rfl ?_
  refine di_istore_n (ls2 := [some (.ref b0), some (dI (a1)), some (dI ((s0 - 1)))]) rfl rfl rfl ?_
  have L2 : ∀ (n : Nat) (i1 : Int), (i1 + 1).toNat < n → -1 ≤ i1 → i1 ≤ 7 → i1 ≤ s0 - 1 → lhI s0 u0 a1 i1 → dm_W (fun _ _ _ => True) (dm_P (QP h (RI (fun x => -1 ≤ x ∧ x ≤ 7 ∧ lhP s0 u0 a1 x)) []) 0 0) l 27 2 0 0 7 [some (.ref b0), some (dI (a1)), some (dI (i1))] [] h 0 0 := by
    intro n
    induction n with
    | zero => intro i1 hm; exact absurd hm (Nat.not_lt_zero _)
    | succ n ih =>
      intro i1 hm6 hb3 hb4 hx5 PL
      have ihL2 := ih
      clear ih
      refine dr_iload_n rfl rfl ?_
      refine di_if_lt rfl rfl (by omega) (by omega) (fun c7 => ?_) (fun c7 => ?_)
      · skip
        refine di_const rfl ?_
        exact dr_iret (ty := .int) rfl rfl rfl (by decide) (by decide) ⟨rfl, (-1), ⟨by omega, by omega, Or.inl ⟨rfl, fun j9 h1 h2 => PL j9 (by omega) h2⟩⟩, by omega, by omega, rfl⟩
      · skip
        refine di_aload_n rfl rfl ?_
        refine dr_iload_n rfl rfl ?_
        refine dr_iload_n rfl rfl ?_
        refine dr_virt rfl rfl rfl rfl hq0 (f_X0_doesHold l hl hI (b0 := b0) hb0 (s0 := s0) (m0 := m0) (u0 := u0) (w0 := w0) ⟨hq0, hu0, hw0, hau0, haw0, by omega, by omega, by omega, by omega⟩ (a1 := i1) (by omega) (by omega) (a2 := a1) (by omega) (by omega) (by omega) (by omega)) (by decide) (by decide) (by decide) (Nat.le_of_ble_eq_true rfl) kNP (kIP (fun y8 y8f y8a y8b => ?_))
        have y8g : 0 ≤ y8 ∧ y8 ≤ 1 ∧ (y8 = 1 → cv u0 (i1) % 100 ≤ (a1) ∧ (a1) ≤ cv u0 (i1) / 100) ∧ (y8 = 0 → (a1) < cv u0 (i1) % 100 ∨ cv u0 (i1) / 100 < (a1)) := y8f
        clear y8f
        refine di_if_eq rfl rfl (by omega) (by omega) (fun c10 => ?_) (fun c10 => ?_)
        · skip
          refine di_iinc (ls2 := [some (.ref b0), some (dI (a1)), some (dI ((i1 + (-1))))]) rfl rfl rfl rfl ?_
          refine dr_goto rfl rfl ?_
          exact ihL2 ((i1 + (-1))) (by omega) (by omega) (by omega) (by omega)  (lh_s PL (by omega) (show (i1 + (-1)) = i1 - 1 by omega))
        · skip
          refine dr_iload_n rfl rfl ?_
          exact dr_iret (ty := .int) rfl rfl rfl (by decide) (by decide) ⟨rfl, i1, ⟨by omega, by omega, Or.inr ⟨by omega, by omega, by omega, PL⟩⟩, by omega, by omega, rfl⟩
  exact L2 _ ((s0 - 1)) (Nat.lt_succ_self _) (by omega) (by omega) (by omega)  (lh_0 (by omega))
set_option maxHeartbeats 4000000 in
set_option maxRecDepth 100000 in
theorem f_X1_fillLinks (l : Launch) (hl : l.stackTraces = false) {kc km : Int} {h : dm_H} (hI : Inv kc km h) {b : Nat} (hb : isCh b) {b1 : Nat} (hb1 : isBk b1) {s m : Int} {u w : List Value} (hC : CA b1 s m u w h) {F : Int → Int} (hr : Rep (cv u) (cv w) s F) (ht : Srt (cv u) s) {a2 : Int} (h2a : -1 ≤ a2) (h2b : a2 ≤ 99) {a3 : Int} (h3a : -1 ≤ a3) (h3b : a3 ≤ 99) : dm_M l 32 3 0 0 [.ref b, .ref b1, dI a2, dI a3] h (QCh kc km h b (fun n v r => ∃ x : Int, ((x = 1 → fyE F u v s a2 a3 n) ∧ (x = 0 → fnE F a2 a3)) ∧ 0 ≤ x ∧ x ≤ 1 ∧ r = some (dI x))) := by
  refine dm_M_of dk_32 hl rfl (Nat.le_of_ble_eq_true rfl) ?_
  show dm_W (fun _ _ _ => True) (dm_P (QCh kc km h b (fun n v r => ∃ x : Int, ((x = 1 → fyE F u v s a2 a3 n) ∧ (x = 0 → fnE F a2 a3)) ∧ 0 ≤ x ∧ x ≤ 1 ∧ r = some (dI x))) 0 0) l 32 3 0 0 0 [some (.ref b), some (.ref b1), some (dI a2), some (dI a3), none, none, none] [] h 0 0
  obtain ⟨n0, v0, c1, c2, c3, -, -⟩ := I_chA hI hb
  have s0 := hC.2.2.2.2.2.1
  have s8 := hC.2.2.2.2.2.2.1
  refine di_aload_n rfl rfl ?_
  refine di_const rfl ?_
  refine pfX rfl c1 (Nat.le_of_ble_eq_true rfl) rfl hI (lt_ch hb) (T37_ch hb (by omega)) (fun h1 hI1 hk1 hc1 => ?_)
  have hA1 : ChA b 0 v0 h1 := ⟨hc1, (hk1.2 (b + 1) (by omega)).trans c2, c3, by omega, by omega⟩
  have hK1 : FrK b h h1 := FrK_of hk1 (Or.inl rfl)
  refine dr_iload_n rfl rfl ?_
  refine di_istore (ls2 := [some (.ref b), some (.ref b1), some (dI a2), some (dI a3), some (dI a2), none, none]) rfl rfl rfl ?_
  refine di_const rfl ?_
  refine di_istore (ls2 := [some (.ref b), some (.ref b1), some (dI a2), some (dI a3), some (dI a2), some (dI 0), none]) rfl rfl rfl ?_
  have L : ∀ (k : Nat) (p n : Int) (v : List Value) (h2 : dm_H), (8 - n).toNat < k → -1 ≤ p → p ≤ 100 → 0 ≤ n → n ≤ 8 → Inv kc km h2 → FrK b h h2 → ChA b n v h2 → flP F u v s a2 a3 n p → dm_W (fun _ _ _ => True) (dm_P (QCh kc km h b (fun n v r => ∃ x : Int, ((x = 1 → fyE F u v s a2 a3 n) ∧ (x = 0 → fnE F a2 a3)) ∧ 0 ≤ x ∧ x ≤ 1 ∧ r = some (dI x))) 0 0) l 32 3 0 0 11 [some (.ref b), some (.ref b1), some (dI a2), some (dI a3), some (dI p), some (dI n), none] [] h2 0 0 := by
    intro k
    induction k with
    | zero => intro p n v h2 hm; exact absurd hm (Nat.not_lt_zero _)
    | succ k ih =>
      intro p n v h2 hm p0 p1 nn0 nn1 hI2 hK2 hA2 PF
      have hC2 := CA_K hK2 hb hb1 hC
      have tail : (p ≤ a3 → gh F p = -1) → dm_W (fun _ _ _ => True) (dm_P (QCh kc km h b (fun n v r => ∃ x : Int, ((x = 1 → fyE F u v s a2 a3 n) ∧ (x = 0 → fnE F a2 a3)) ∧ 0 ≤ x ∧ x ≤ 1 ∧ r = some (dI x))) 0 0) l 32 3 0 0 62 [some (.ref b), some (.ref b1), some (dI a2), some (dI a3), some (dI p), some (dI n), none] [] h2 0 0 := by
        intro hg
        refine dr_iload rfl rfl ?_
        refine dr_iload_n rfl rfl ?_
        refine di_icmp_le rfl rfl (by omega) (by omega) (by omega) (by omega) (fun c => ?_) (fun c => ?_)
        · refine di_const rfl ?_
          exact dr_iret (ty := .boolean) rfl rfl (nar_z (by omega) (by omega)) (by decide) (by decide) ⟨hI2, hK2, n, v, hA2, 0, ⟨fun e => absurd e (by decide), fun _ => fl_f PF c (hg c)⟩, by omega, by omega, rfl⟩
        · refine di_const rfl ?_
          refine dr_goto rfl rfl ?_
          exact dr_iret (ty := .boolean) rfl rfl (nar_z (by omega) (by omega)) (by decide) (by decide) ⟨hI2, hK2, n, v, hA2, 1, ⟨fun _ => fl_t PF (by omega), fun e => absurd e (by decide)⟩, by omega, by omega, rfl⟩
      refine dr_iload rfl rfl ?_
      refine di_bipush rfl (by decide) ?_
      refine di_icmp_ge rfl rfl (by omega) (by omega) (by omega) (by omega) (fun c => ?_) (fun c => ?_)
      · exact tail (fun _ => fl_8 hr ht PF s8 c)
      refine dr_iload rfl rfl ?_
      refine dr_iload_n rfl rfl ?_
      refine di_icmp_gt rfl rfl (by omega) (by omega) (by omega) (by omega) (fun c2 => ?_) (fun c2 => ?_)
      · exact tail (fun q => absurd q (by omega))
      refine di_aload_n rfl rfl ?_
      refine dr_iload rfl rfl ?_
      refine dr_virt rfl rfl rfl rfl hC2.1 (f_X0_lastHolder l hl hI2 hb1 hC2 (a1 := p) (by omega) (by omega)) (by decide) (by decide) (by decide) (Nat.le_of_ble_eq_true rfl) kNP (kIP (fun x xf xa xb => ?_))
      obtain ⟨xc, xd, xk⟩ := xf
      refine di_istore (ls2 := [some (.ref b), some (.ref b1), some (dI a2), some (dI a3), some (dI p), some (dI n), some (dI x)]) rfl rfl rfl ?_
      refine dr_iload rfl rfl ?_
      refine di_const rfl ?_
      refine di_icmp_ne rfl rfl (by omega) (by omega) (by omega) (by omega) (fun c3 => ?_) (fun c3 => ?_)
      · have hx := lh_y xk hr ht c3
        have h9 := Rep_at hr hx.1.1 hx.1.2
        refine di_aload_n rfl rfl ?_
        refine dr_iload rfl rfl ?_
        refine dr_virt rfl rfl rfl rfl hA2.1 (f_X1_append l hl hI2 hb hA2 (by omega) (a1 := x) (by omega) (by omega)) (by decide) (by decide) (by decide) (Nat.le_of_ble_eq_true rfl) kChN (kChV (fun h3 hI3 hK3 n3 v3 hA3 q3 => ?_))
        obtain ⟨en3, hs3⟩ := q3
        subst en3
        have hK4 := FrK_tr hK2 hK3
        have hC3 := CA_K hK4 hb hb1 hC
        refine di_aload_n rfl rfl ?_
        refine dr_iload rfl rfl ?_
        refine dr_virt rfl rfl rfl rfl hC3.1 (f_X0_toAt l hl hI3 hb1 hC3 (a1 := x) (by omega) (by omega)) (by decide) (by decide) (by decide) (Nat.le_of_ble_eq_true rfl) kNP (kIP (fun t tf ta tb => ?_))
        obtain ⟨tc, td, tk, tk2, tk3⟩ := tf
        have te := tk hx.1.1 hx.1.2
        refine di_const rfl ?_
        refine di_iadd rfl ?_
        refine di_istore (ls2 := [some (.ref b), some (.ref b1), some (dI a2), some (dI a3), some (dI (t + 1)), some (dI n), some (dI x)]) rfl rfl rfl ?_
        refine di_iinc (ls2 := [some (.ref b), some (.ref b1), some (dI a2), some (dI a3), some (dI (t + 1)), some (dI (n + 1)), some (dI x)]) rfl rfl rfl rfl ?_
        refine dr_goto rfl rfl ?_
        refine dm_wk (ls2 := [some (.ref b), some (.ref b1), some (dI a2), some (dI a3), some (dI (t + 1)), some (dI (n + 1)), none]) ⟨Or.inr rfl, Or.inr rfl, Or.inr rfl, Or.inr rfl, Or.inr rfl, Or.inr rfl, Or.inl rfl, trivial⟩ ?_
        exact ih (t + 1) (n + 1) v3 h3 (by omega) (by omega) (by omega) (by omega) (by omega) hI3 hK4 hA3 (fl_y ht PF nn0 (by omega) hx (by omega) hs3 (by rw [te]))
      · refine di_const rfl ?_
        exact dr_iret (ty := .boolean) rfl rfl (nar_z (by omega) (by omega)) (by decide) (by decide) ⟨hI2, hK2, n, v, hA2, 0, ⟨fun e => absurd e (by decide), fun _ => fl_f PF (by omega) (lh_no xk hr (by omega))⟩, by omega, by omega, rfl⟩
  exact L _ a2 0 v0 h1 (Nat.lt_succ_self _) (by omega) (by omega) (by omega) (by omega) hI1 hK1 hA1 fl_0
set_option maxHeartbeats 4000000 in
set_option maxRecDepth 100000 in
/-- Earlyends.links -/
theorem c_X6_links (l : Launch) (hl : l.stackTraces = false) {kc km : Int} {h : dm_H} (hI : Inv kc km h) {B : Int} {σ : St} (hS : CSt B σ h) (hB : B ≤ 80000) {a1 : Int} (h1a : -2147483648 ≤ a1) (h1b : a1 ≤ 2147483647) {a2 : Int} (h2a : -2147483648 ≤ a2) (h2b : a2 ≤ 2147483647) {a3 : Int} (h3a : -2147483648 ≤ a3) (h3b : a3 ≤ 2147483647) : dm_M l 97 6 8 48 [.ref 0, dI (a1), dI (a2), dI (a3)] h (QX kc km h B XB XA (spLinks σ a1 a2 a3)) := by
  refine dm_M_of dk_97 hl rfl (Nat.le_of_ble_eq_true rfl) ?_
  show dm_W (fun _ _ _ => True) (dm_P (QX kc km h B XB XA (spLinks σ a1 a2 a3)) 8 48) l 97 6 8 48 0 [some (.ref 0), some (dI (a1)), some (dI (a2)), some (dI (a3)), none] [] h 0 0
  refine di_aload_n rfl rfl ?_
  refine dr_iload_n rfl rfl ?_
  obtain ⟨r1, c2, c3, hc4⟩ := I_cls hI
  refine dr_virt rfl rfl rfl rfl hc4 (f_X6_bookAt l hl hI (a1 := a1) (by omega) (by omega)) (by decide) (by decide) (by decide) (Nat.le_of_ble_eq_true rfl) (fun Y h9 q9 => by obtain ⟨rfl, rfl, hC⟩ := q9; exact dr_out rfl (by decide) (by decide) (QX_1 (a := 0) hI FrC_rf hS (by omega) (by unfold spLinks; (repeat' split) <;> first | rfl | (exfalso; omega) | (apply Prod.ext <;> first | rfl | (dsimp only; omega) | (apply Prod.ext <;> first | rfl | (dsimp only; omega)))))) (kPXR (fun r5 ⟨q6, q7, q8, q10⟩ => ?_))
  refine di_astore (ls2 := [some (.ref 0), some (dI (a1)), some (dI (a2)), some (dI (a3)), some (.ref r5)]) rfl rfl rfl ?_
  refine dr_iload_n rfl rfl ?_
  refine dr_iload_n rfl rfl ?_
  refine dr_stat rfl rfl rfl rfl (f_X6_needStretch l hl hI (a0 := a2) (by omega) (by omega) (a1 := a3) (by omega) (by omega)) (by decide) (by decide) (by decide) (Nat.le_of_ble_eq_true rfl) (fun Y h9 q9 => by obtain ⟨rfl, rfl, hC⟩ := q9; exact dr_out rfl (by decide) (by decide) (QX_2 (a := 0) hI FrC_rf hS (by omega) (by unfold spLinks; (repeat' split) <;> first | rfl | (exfalso; omega) | (apply Prod.ext <;> first | rfl | (dsimp only; omega) | (apply Prod.ext <;> first | rfl | (dsimp only; omega)))))) (kPXV (fun q11 => ?_))
  refine di_aload_n rfl rfl ?_
  refine dr_getf rfl hc4 rfl ?_
  refine di_aload rfl rfl ?_
  refine dr_iload_n rfl rfl ?_
  refine dr_iload_n rfl rfl ?_
  obtain ⟨s12, m13, u14, w15, hc16, hr17, ht18, ma19, mb20⟩ := CSt_bk hS (k := a1) q8 q10 q7
  have sq21 : 0 ≤ s12 ∧ s12 ≤ 8 := ⟨hc16.2.2.2.2.2.1, hc16.2.2.2.2.2.2.1⟩
  have hz22 : zF (σ.1 a1) = s12 := zF_eq hr17
  obtain ⟨n23, v24, hch25⟩ := I_chA hI (b := 4) ch_4
  refine dr_virt rfl rfl rfl rfl hch25.1 (f_X1_fillLinks l hl hI (b := 4) ch_4 q6 hc16 hr17 ht18 (a2 := a2) (by omega) (by omega) (a3 := a3) (by omega) (by omega)) (by decide) (by decide) (by decide) (Nat.le_of_ble_eq_true rfl) kChN (kChI (fun h26 hI27 hK28 n29 v30 y36 hA31 qf32 y36a y36b => ?_))
  have hF33 := FrC_tr FrC_rf (FrC_K hK28 ch_4)
  have hS34 := CSt_K hS hK28 ch_4
  have hc35 := CA_K hK28 ch_4 q6 hc16
  have n29a := hA31.2.2.2.1
  have n29b := hA31.2.2.2.2
  refine di_if_eq rfl rfl (by omega) (by omega) (fun c37 => ?_) (fun c37 => ?_)
  · skip
    refine di_const rfl ?_
    have e9 : anLinks (σ.1 a1) a2 a3 = -1 := links_e (Or.inr ⟨rfl, qf32.2 (by omega)⟩)
    clear qf32
    exact dr_iret (ty := .int) rfl rfl rfl (by decide) (by decide) (QX_ok hI27 hF33 hS34 (by omega) (by unfold spLinks; (try rw [e9]); (repeat' split) <;> first | rfl | (exfalso; omega) | (apply Prod.ext <;> first | rfl | (dsimp only; omega) | (apply Prod.ext <;> first | rfl | (dsimp only; omega)))))
  · skip
    refine di_aload_n rfl rfl ?_
    obtain ⟨r38, c39, c40, hc41⟩ := I_cls hI27
    refine dr_getf rfl hc41 rfl ?_
    refine dr_getf rfl hA31.1 rfl ?_
    refine dr_goto rfl rfl ?_
    have e9 : anLinks (σ.1 a1) a2 a3 = n29 := links_e (Or.inl ⟨n29a, (qf32.1 (by omega)).1⟩)
    clear qf32
    exact dr_iret (ty := .int) rfl rfl rfl (by decide) (by decide) (QX_ok hI27 hF33 hS34 (by omega) (by unfold spLinks; (try rw [e9]); (repeat' split) <;> first | rfl | (exfalso; omega) | (apply Prod.ext <;> first | rfl | (dsimp only; omega) | (apply Prod.ext <;> first | rfl | (dsimp only; omega)))))
set_option maxHeartbeats 4000000 in
set_option maxRecDepth 100000 in
/-- Earlyends.link -/
theorem c_X6_link (l : Launch) (hl : l.stackTraces = false) {kc km : Int} {h : dm_H} (hI : Inv kc km h) {B : Int} {σ : St} (hS : CSt B σ h) (hB : B ≤ 80000) {a1 : Int} (h1a : -2147483648 ≤ a1) (h1b : a1 ≤ 2147483647) {a2 : Int} (h2a : -2147483648 ≤ a2) (h2b : a2 ≤ 2147483647) {a3 : Int} (h3a : -2147483648 ≤ a3) (h3b : a3 ≤ 2147483647) {a4 : Int} (h4a : -2147483648 ≤ a4) (h4b : a4 ≤ 2147483647) : dm_M l 98 6 8 48 [.ref 0, dI (a1), dI (a2), dI (a3), dI (a4)] h (QX kc km h B XB XA (spLink σ a1 a2 a3 a4)) := by
  refine dm_M_of dk_98 hl rfl (Nat.le_of_ble_eq_true rfl) ?_
  show dm_W (fun _ _ _ => True) (dm_P (QX kc km h B XB XA (spLink σ a1 a2 a3 a4)) 8 48) l 98 6 8 48 0 [some (.ref 0), some (dI (a1)), some (dI (a2)), some (dI (a3)), some (dI (a4)), none] [] h 0 0
  refine di_aload_n rfl rfl ?_
  refine dr_iload_n rfl rfl ?_
  obtain ⟨r1, c2, c3, hc4⟩ := I_cls hI
  refine dr_virt rfl rfl rfl rfl hc4 (f_X6_bookAt l hl hI (a1 := a1) (by omega) (by omega)) (by decide) (by decide) (by decide) (Nat.le_of_ble_eq_true rfl) (fun Y h9 q9 => by obtain ⟨rfl, rfl, hC⟩ := q9; exact dr_out rfl (by decide) (by decide) (QX_1 (a := 0) hI FrC_rf hS (by omega) (by unfold spLink; (repeat' split) <;> first | rfl | (exfalso; omega) | (apply Prod.ext <;> first | rfl | (dsimp only; omega) | (apply Prod.ext <;> first | rfl | (dsimp only; omega)))))) (kPXR (fun r5 ⟨q6, q7, q8, q10⟩ => ?_))
  refine di_astore (ls2 := [some (.ref 0), some (dI (a1)), some (dI (a2)), some (dI (a3)), some (dI (a4)), some (.ref r5)]) rfl rfl rfl ?_
  refine dr_iload_n rfl rfl ?_
  refine dr_iload_n rfl rfl ?_
  refine dr_stat rfl rfl rfl rfl (f_X6_needStretch l hl hI (a0 := a2) (by omega) (by omega) (a1 := a3) (by omega) (by omega)) (by decide) (by decide) (by decide) (Nat.le_of_ble_eq_true rfl) (fun Y h9 q9 => by obtain ⟨rfl, rfl, hC⟩ := q9; exact dr_out rfl (by decide) (by decide) (QX_2 (a := 0) hI FrC_rf hS (by omega) (by unfold spLink; (repeat' split) <;> first | rfl | (exfalso; omega) | (apply Prod.ext <;> first | rfl | (dsimp only; omega) | (apply Prod.ext <;> first | rfl | (dsimp only; omega)))))) (kPXV (fun q11 => ?_))
  refine dr_iload rfl rfl ?_
  refine dr_stat rfl rfl rfl rfl (f_X6_needNotBelowZero l hl hI (a0 := a4) (by omega) (by omega)) (by decide) (by decide) (by decide) (Nat.le_of_ble_eq_true rfl) (fun Y h9 q9 => by obtain ⟨rfl, rfl, hC⟩ := q9; exact dr_out rfl (by decide) (by decide) (QX_2 (a := 0) hI FrC_rf hS (by omega) (by unfold spLink; (repeat' split) <;> first | rfl | (exfalso; omega) | (apply Prod.ext <;> first | rfl | (dsimp only; omega) | (apply Prod.ext <;> first | rfl | (dsimp only; omega)))))) (kPXV (fun q12 => ?_))
  refine di_aload_n rfl rfl ?_
  refine dr_getf rfl hc4 rfl ?_
  refine di_aload rfl rfl ?_
  refine dr_iload_n rfl rfl ?_
  refine dr_iload_n rfl rfl ?_
  obtain ⟨s13, m14, u15, w16, hc17, hr18, ht19, ma20, mb21⟩ := CSt_bk hS (k := a1) q8 q10 q7
  have sq22 : 0 ≤ s13 ∧ s13 ≤ 8 := ⟨hc17.2.2.2.2.2.1, hc17.2.2.2.2.2.2.1⟩
  have hz23 : zF (σ.1 a1) = s13 := zF_eq hr18
  obtain ⟨n24, v25, hch26⟩ := I_chA hI (b := 4) ch_4
  refine dr_virt rfl rfl rfl rfl hch26.1 (f_X1_fillLinks l hl hI (b := 4) ch_4 q6 hc17 hr18 ht19 (a2 := a2) (by omega) (by omega) (a3 := a3) (by omega) (by omega)) (by decide) (by decide) (by decide) (Nat.le_of_ble_eq_true rfl) kChN (kChI (fun h27 hI28 hK29 n30 v31 y37 hA32 qf33 y37a y37b => ?_))
  have hF34 := FrC_tr FrC_rf (FrC_K hK29 ch_4)
  have hS35 := CSt_K hS hK29 ch_4
  have hc36 := CA_K hK29 ch_4 q6 hc17
  have n30a := hA32.2.2.2.1
  have n30b := hA32.2.2.2.2
  refine di_if_eq rfl rfl (by omega) (by omega) (fun c38 => ?_) (fun c38 => ?_)
  · skip
    refine di_const rfl ?_
    have e9 : anLink (σ.1 a1) a2 a3 a4 = -1 := fl_z (qf33.2 (by omega)) (by omega)
    clear qf33
    exact dr_iret (ty := .int) rfl rfl rfl (by decide) (by decide) (QX_ok hI28 hF34 hS35 (by omega) (by unfold spLink; (try rw [e9]); (repeat' split) <;> first | rfl | (exfalso; omega) | (apply Prod.ext <;> first | rfl | (dsimp only; omega) | (apply Prod.ext <;> first | rfl | (dsimp only; omega)))))
  · skip
    refine di_aload rfl rfl ?_
    refine di_aload_n rfl rfl ?_
    obtain ⟨r39, c40, c41, hc42⟩ := I_cls hI28
    refine dr_getf rfl hc42 rfl ?_
    refine dr_iload rfl rfl ?_
    refine dr_virt rfl rfl rfl rfl hA32.1 (f_X1_rankAt l hl hI28 ch_4 hA32 (a1 := a4) (by omega) (by omega)) (by decide) (by decide) (by decide) (Nat.le_of_ble_eq_true rfl) kNP (kIP (fun y43 y43f y43a y43b => ?_))
    obtain ⟨y43r, y43s⟩ := y43f
    refine dr_virt rfl rfl rfl rfl hc36.1 (f_X0_codeAt l hl hI28 q6 hc36 (a1 := y43) (by omega) (by omega)) (by decide) (by decide) (by decide) (Nat.le_of_ble_eq_true rfl) kNP (kIP (fun y44 y44f y44a y44b => ?_))
    obtain ⟨y44c, y44d, y44k, y44k2, y44k3⟩ := y44f
    refine dr_goto rfl rfl ?_
    have e9 : anLink (σ.1 a1) a2 a3 a4 = y44 := fl_k (qf33.1 (by omega)) n30a (by omega) y43r y43s y44k y44k2
    clear qf33
    exact dr_iret (ty := .int) rfl rfl rfl (by decide) (by decide) (QX_ok hI28 hF34 hS35 (by omega) (by unfold spLink; (try rw [e9]); (repeat' split) <;> first | rfl | (exfalso; omega) | (apply Prod.ext <;> first | rfl | (dsimp only; omega) | (apply Prod.ext <;> first | rfl | (dsimp only; omega)))))
/-! ===== the deepest place ===== -/
theorem bb_cnt {S s : Int} {H : Int → Prop} {f : Int → Int} {P : Int → Bool} (h : hsP S s H) (s0 : 0 ≤ s) (s8 : s ≤ 8) (hP : ∀ r, P (f r) = true ↔ H r) : bb S 8 = cnt f P s.toNat := by
  have k : ∀ n : Nat, n ≤ 8 → bb S (n : Int) = cnt f P (if (n : Int) < s then n else s.toNat) := by
    intro n
    induction n with
    | zero => intro _; by_cases q : ((0 : Nat) : Int) < s
              · rw [if_pos q]; rfl
              · rw [if_neg q, show s.toNat = 0 by omega]; rfl
    | succ n ih =>
      intro hn
      have ih := ih (by omega)
      have hb := h.2 (n : Int) (by omega) (by omega)
      by_cases q : (n : Int) < s
      · rw [if_pos q] at ih
        have e : cnt f P (if ((n + 1 : Nat) : Int) < s then n + 1 else s.toNat) = cnt f P n + (if P (f (n : Int)) then 1 else 0) := by
          by_cases q2 : ((n + 1 : Nat) : Int) < s
          · rw [if_pos q2]; rfl
          · rw [if_neg q2, show s.toNat = n + 1 by omega]; rfl
        rw [e, show ((n + 1 : Nat) : Int) = (n : Int) + 1 by omega]
        rcases bb_s (S := S) (r := (n : Int)) (by omega) with ⟨e1, e2⟩ | ⟨e1, e2⟩
        · rw [if_pos ((hP _).mpr (hb.mp e2).2), e1, ih]
        · rw [if_neg (fun q3 => e2 (hb.mpr ⟨q, (hP _).mp q3⟩)), e1, ih]; omega
      · rw [if_neg q] at ih
        rw [if_neg (by omega), show ((n + 1 : Nat) : Int) = (n : Int) + 1 by omega]
        rcases bb_s (S := S) (r := (n : Int)) (by omega) with ⟨e1, e2⟩ | ⟨e1, e2⟩
        · exact absurd (hb.mp e2).1 q
        · rw [e1, ih]
  have := k 8 (by omega)
  rw [show ((8 : Nat) : Int) = 8 by rfl] at this
  rw [this]
  by_cases q : (8 : Int) < s
  · omega
  · rw [if_neg q]
noncomputable def dpF (F : Int → Int) (p : Int) : Int := nF F (hoP p)
def isDp (F : Int → Int) (p : Int) : Prop := (p = -1 ∧ ∀ c, F c = -1) ∨ ((0 ≤ p ∧ p ≤ 99) ∧ 0 < dpF F p ∧ (∀ q, 0 ≤ q → q ≤ 99 → dpF F q ≤ dpF F p) ∧ ∀ q, 0 ≤ q → q < p → dpF F q < dpF F p)
section DP
variable {F f g : Int → Int} {s p q i n b y1 y2 x : Int}
theorem dp_e (hr : Rep f g s F) : dpF F p = cnt f (hoP p) s.toNat := nF_eq _ hr
theorem dp_0 (h : ∀ c, F c = -1) (hr : Rep f g s F) : dpF F p = 0 := nF_no hr (fun c hc => absurd (h c) hc)
theorem isDp_uq (hr : Rep f g s F) (a : isDp F p) (b : isDp F q) : p = q := by
  rcases a with ⟨a0, a1⟩ | ⟨a0, a1, a2, a3⟩
  · rcases b with ⟨b0, b1⟩ | ⟨b0, b1, b2, b3⟩
    · omega
    · rw [dp_0 a1 hr] at b1; omega
  · rcases b with ⟨b0, b1⟩ | ⟨b0, b1, b2, b3⟩
    · rw [dp_0 b1 hr] at a1; omega
    · rcases Int.lt_trichotomy p q with k | k | k
      · have := b3 p a0.1 k; have := a2 q b0.1 b0.2; omega
      · exact k
      · have := a3 q b0.1 k; have := b2 p a0.1 a0.2; omega
noncomputable def anDeepP (F : Int → Int) : Int := Classical.epsilon (fun x : Int => isDp F x)
theorem deep_e (hr : Rep f g s F) (h : isDp F x) : anDeepP F = x := isDp_uq hr (Classical.epsilon_spec (p := fun x : Int => isDp F x) ⟨x, h⟩) h
noncomputable def anDeep (F : Int → Int) (z : Int) : Int := if z = 0 then dpF F (anDeepP F) else anDeepP F
theorem deep_1 (hr : Rep f g s F) (h : isDp F x) {z : Int} (hz : z ≠ 0) : anDeep F z = x := by unfold anDeep; rw [if_neg hz]; exact deep_e hr h
theorem deep_0 (hr : Rep f g s F) (h : isDp F x) {z : Int} (hz : z = 0) (e : y1 = cnt f (hoP x) s.toNat) : anDeep F z = y1 := by unfold anDeep; rw [if_pos hz, deep_e hr h, dp_e hr, e]
theorem cnt_pm {P Q : Int → Bool} : ∀ n : Nat, (∀ j : Int, 0 ≤ j → j < n → P (f j) = true → Q (f j) = true) → cnt f P n ≤ cnt f Q n
  | 0, _ => Int.le_refl _
  | n + 1, h => by
    have ih := cnt_pm n (fun j j0 j1 => h j j0 (by omega))
    show cnt f P n + (if P (f (n : Int)) then 1 else 0) ≤ cnt f Q n + (if Q (f (n : Int)) then 1 else 0)
    by_cases q : P (f (n : Int)) = true
    · rw [if_pos q, if_pos (h n (by omega) (by omega) q)]; omega
    · rw [if_neg q]; split <;> omega
theorem mx_from {q : Int} : ∀ n : Nat, (∃ j : Int, 0 ≤ j ∧ j < n ∧ hoP q (f j) = true) → ∃ j : Int, 0 ≤ j ∧ j < n ∧ hoP q (f j) = true ∧ ∀ i : Int, 0 ≤ i → i < n → hoP q (f i) = true → f i % 100 ≤ f j % 100
  | 0, ⟨j, j0, j1, _⟩ => by omega
  | n + 1, ⟨j, j0, j1, h⟩ => by
    by_cases hn : hoP q (f (n : Int)) = true
    · by_cases he : ∃ j : Int, 0 ≤ j ∧ j < n ∧ hoP q (f j) = true
      · obtain ⟨k, k0, k1, k2, k3⟩ := mx_from n he
        by_cases hc : f k % 100 ≤ f (n : Int) % 100
        · refine ⟨n, by omega, by omega, hn, fun i i0 i1 hi => ?_⟩
          by_cases e : i = n
          · rw [e]; exact Int.le_refl _
          · have := k3 i i0 (by omega) hi; omega
        · refine ⟨k, k0, by omega, k2, fun i i0 i1 hi => ?_⟩
          by_cases e : i = n
          · rw [e]; omega
          · exact k3 i i0 (by omega) hi
      · refine ⟨n, by omega, by omega, hn, fun i i0 i1 hi => ?_⟩
        by_cases e : i = n
        · rw [e]; exact Int.le_refl _
        · exact absurd ⟨i, i0, by omega, hi⟩ he
    · have hne : j ≠ n := fun e => hn (e ▸ h)
      obtain ⟨k, k0, k1, k2, k3⟩ := mx_from n ⟨j, j0, by omega, h⟩
      refine ⟨k, k0, by omega, k2, fun i i0 i1 hi => ?_⟩
      by_cases e : i = n
      · rw [e] at hi; exact absurd hi hn
      · exact k3 i i0 (by omega) hi
theorem dp_from (s0 : 0 ≤ s) (h : 0 < cnt f (hoP q) s.toNat) : ∃ j : Int, 0 ≤ j ∧ j < s ∧ f j % 100 ≤ q ∧ cnt f (hoP q) s.toNat ≤ cnt f (hoP (f j % 100)) s.toNat := by
  have he : ∃ j : Int, 0 ≤ j ∧ j < s.toNat ∧ hoP q (f j) = true := Classical.byContradiction fun hn => by
    have := cnt_no (f := f) (P := hoP q) s.toNat (fun j j0 j1 => by
      rcases hb : hoP q (f j) with _ | _
      · rfl
      · exact absurd ⟨j, j0, j1, hb⟩ hn)
    omega
  obtain ⟨j, j0, j1, h2, h3⟩ := mx_from s.toNat he
  have h2' := of_decide_eq_true h2
  refine ⟨j, j0, by omega, h2'.1, cnt_pm s.toNat (fun i i0 i1 hi => ?_)⟩
  have h4 := h3 i i0 i1 hi
  have hi := of_decide_eq_true hi
  exact hoP_t ⟨h4, by omega⟩
theorem dp_own (s0 : 0 ≤ s) (i0 : 0 ≤ i) (i1 : i < s) (hok : f i % 100 ≤ f i / 100) : 0 < cnt f (hoP (f i % 100)) s.toNat := cnt_ps i0 (by omega) (hoP_t ⟨Int.le_refl _, hok⟩)
/-- the best of the first i -/
def dqP (f : Int → Int) (s b i : Int) : Prop := ((b = -1 ∧ i = 0) ∨ 0 ≤ b ∧ 0 < cnt f (hoP b) s.toNat) ∧ ∀ j : Int, 0 ≤ j → j < i → cnt f (hoP (f j % 100)) s.toNat < cnt f (hoP b) s.toNat ∨ (cnt f (hoP (f j % 100)) s.toNat = cnt f (hoP b) s.toNat ∧ b ≤ f j % 100)
theorem dq_0 : dqP f s (-1) 0 := ⟨Or.inl ⟨rfl, rfl⟩, fun j j0 j1 => by omega⟩
theorem dq_y (h : dqP f s b i) (s0 : 0 ≤ s) (i0 : 0 ≤ i) (i1 : i < s) (hok : f i % 100 ≤ f i / 100) (ex : x = f i % 100) (e1 : y1 = cnt f (hoP x) s.toNat) (e2 : y2 = cnt f (hoP b) s.toNat) (c : y2 < y1 ∨ (y1 = y2 ∧ x < b)) : dqP f s x (i + 1) := by
  have hp := dp_own s0 i0 i1 hok
  rw [← ex, ← e1] at hp
  refine ⟨Or.inr ⟨by omega, by rw [← e1]; exact hp⟩, fun j j0 j1 => ?_⟩
  by_cases q : j = i
  · rw [q, ← ex]; exact Or.inr ⟨rfl, Int.le_refl _⟩
  · have := h.2 j j0 (by omega)
    rw [← e2] at this
    rw [← e1]
    omega
theorem dq_n (h : dqP f s b i) (s0 : 0 ≤ s) (i0 : 0 ≤ i) (i1 : i < s) (hok : f i % 100 ≤ f i / 100) (f0 : ∀ j : Int, 0 ≤ j → j < s → 0 ≤ f j) (ex : x = f i % 100) (e1 : y1 = cnt f (hoP x) s.toNat) (e2 : y2 = cnt f (hoP b) s.toNat) (c : ¬ (y2 < y1 ∨ (y1 = y2 ∧ x < b))) : dqP f s b (i + 1) := by
  have hp := dp_own s0 i0 i1 hok
  rw [← ex, ← e1] at hp
  refine ⟨?_, fun j j0 j1 => ?_⟩
  · rcases h.1 with ⟨e, e'⟩ | q
    · have hz : cnt f (hoP b) s.toNat = 0 := cnt_no s.toNat (fun j j0 j1 => hoP_f (fun q => by have := f0 j j0 (by omega); omega))
      omega
    · exact Or.inr q
  · by_cases q : j = i
    · rw [q, ← ex, ← e1, ← e2]; omega
    · exact h.2 j j0 (by omega)
theorem dq_e (h : dqP f s b i) (hr : Rep f g s F) (b1 : b ≤ 99) (e : i = s) : isDp F b := by
  subst e
  have s0 := hr.1.1
  rcases h.1 with ⟨e, e'⟩ | ⟨q0, q1⟩
  · refine Or.inl ⟨e, fun c => Classical.byContradiction fun hc => ?_⟩
    obtain ⟨j, j0, j1, -⟩ := Rep_ex hr hc
    omega
  · have k : ∀ q : Int, 0 ≤ q → dpF F q ≤ dpF F b ∧ (q < b → dpF F q < dpF F b) := fun q q2 => by
      rw [dp_e hr, dp_e hr]
      by_cases hz : 0 < cnt f (hoP q) i.toNat
      · obtain ⟨j, j0, j1, j2, j3⟩ := dp_from s0 hz
        have := h.2 j j0 j1
        omega
      · have := (cnt_b f (hoP q) i.toNat).1
        omega
    exact Or.inr ⟨⟨q0, b1⟩, by rw [dp_e hr]; exact q1, fun q q2 _ => (k q q2).1, fun q q2 q3 => (k q q2).2 q3⟩
end DP
noncomputable def spDeepest (σ : St) (b z : Int) : Int × Int × St := if b < 0 ∨ 2 < b then (1, 0, σ) else (0, anDeep (σ.1 b) z, σ)

set_option maxHeartbeats 4000000 in
set_option maxRecDepth 100000 in
/-- Earlyends$Book.depthAt -/
theorem f_X0_depthAt (l : Launch) (hl : l.stackTraces = false) {kc km : Int} {h : dm_H} (hI : Inv kc km h) {b0 : Nat} (hb0 : isBk b0) {s0 m0 : Int} {u0 w0 : List Value} (hC0 : CA b0 s0 m0 u0 w0 h) {a1 : Int} (h1a : -2147483648 ≤ a1) (h1b : a1 ≤ 2147483647) : dm_M l 25 3 0 0 [.ref b0, dI (a1)] h (QP h (RI (fun x => 0 ≤ x ∧ x ≤ 8 ∧ x = cnt (cv u0) (hoP a1) s0.toNat)) []) := by
  obtain ⟨hq0, hu0, hw0, hau0, haw0, hs0a, hs0b, hm0a, hm0b⟩ := id hC0
  refine dm_M_of dk_25 hl rfl (Nat.le_of_ble_eq_true rfl) ?_
  show dm_W (fun _ _ _ => True) (dm_P (QP h (RI (fun x => 0 ≤ x ∧ x ≤ 8 ∧ x = cnt (cv u0) (hoP a1) s0.toNat)) []) 0 0) l 25 3 0 0 0 [some (.ref b0), some (dI (a1))] [] h 0 0
  refine di_aload_n rfl rfl ?_
  refine dr_iload_n rfl rfl ?_
  refine dr_virt rfl rfl rfl rfl hq0 (f_X0_holding l hl hI (b0 := b0) hb0 (s0 := s0) (m0 := m0) (u0 := u0) (w0 := w0) ⟨hq0, hu0, hw0, hau0, haw0, by omega, by omega, by omega, by omega⟩ (a1 := a1) (by omega) (by omega)) (by decide) (by decide) (by decide) (Nat.le_of_ble_eq_true rfl) kNP (kIP (fun y1 y1f y1a y1b => ?_))
  have y1g : 0 ≤ y1 ∧ y1 ≤ 255 ∧ hsP y1 (s0) (fun r => cv u0 r % 100 ≤ (a1) ∧ (a1) ≤ cv u0 r / 100) := y1f
  clear y1f
  refine dr_stat rfl rfl rfl rfl (f_bitCount l hl (a0 := y1) (by omega) (by omega)) (by decide) (by decide) (by decide) (Nat.le_of_ble_eq_true rfl) kNP (kIP (fun y2 y2f y2a y2b => ?_))
  have y2f : y2 = bb y1 8 := y2f
  have y2c := bb_8 (s := y1) (by omega) (by omega)
  have y2d := bb_nn y1 8
  exact dr_iret (ty := .int) rfl rfl rfl (by decide) (by decide) ⟨rfl, y2, ⟨by omega, by omega, y2f.trans (bb_cnt y1g.2.2 (by omega) (by omega) (fun r9 => decide_eq_true_iff))⟩, by omega, by omega, rfl⟩
set_option maxHeartbeats 4000000 in
set_option maxRecDepth 100000 in
/-- Earlyends$Book.deepPlace -/
theorem f_X0_deepPlace (l : Launch) (hl : l.stackTraces = false) {kc km : Int} {h : dm_H} (hI : Inv kc km h) {b0 : Nat} (hb0 : isBk b0) {s0 m0 : Int} {u0 w0 : List Value} (hC0 : CA b0 s0 m0 u0 w0 h) {F : Int → Int} (hR : Rep (cv u0) (cv w0) s0 F) : dm_M l 26 4 0 0 [.ref b0] h (QP h (RI (fun x => -1 ≤ x ∧ x ≤ 99 ∧ isDp F x)) []) := by
  obtain ⟨hq0, hu0, hw0, hau0, haw0, hs0a, hs0b, hm0a, hm0b⟩ := id hC0
  have hok9 := (CA_arr hC0).1
  refine dm_M_of dk_26 hl rfl (Nat.le_of_ble_eq_true rfl) ?_
  show dm_W (fun _ _ _ => True) (dm_P (QP h (RI (fun x => -1 ≤ x ∧ x ≤ 99 ∧ isDp F x)) []) 0 0) l 26 4 0 0 0 [some (.ref b0), none, none, none, none] [] h 0 0
  refine di_const rfl ?_
  refine di_istore_n (ls2 := [some (.ref b0), some (dI ((-1))), none, none, none]) rfl rfl rfl ?_
  refine di_const rfl ?_
  refine di_istore_n (ls2 := [some (.ref b0), some (dI ((-1))), some (dI (0)), none, none]) rfl rfl rfl ?_
  have L3 : ∀ (n : Nat) (i1 : Int) (i2 : Int), (8 - i2).toNat < n → -1 ≤ i1 → i1 ≤ 99 → 0 ≤ i2 → i2 ≤ 8 → i2 ≤ s0 → dqP (cv u0) s0 i1 i2 → dm_W (fun _ _ _ => True) (dm_P (QP h (RI (fun x => -1 ≤ x ∧ x ≤ 99 ∧ isDp F x)) []) 0 0) l 26 4 0 0 4 [some (.ref b0), some (dI (i1)), some (dI (i2)), none, none] [] h 0 0 := by
    intro n
    induction n with
    | zero => intro i1 i2 hm; exact absurd hm (Nat.not_lt_zero _)
    | succ n ih =>
      intro i1 i2 hm10 hb4 hb5 hb6 hb7 hx8 PD
      have ihL3 := ih
      clear ih
      refine dr_iload_n rfl rfl ?_
      refine di_aload_n rfl rfl ?_
      refine dr_getf rfl hq0 rfl ?_
      refine di_icmp_ge rfl rfl (by omega) (by omega) (by omega) (by omega) (fun c11 => ?_) (fun c11 => ?_)
      · skip
        refine dr_iload_n rfl rfl ?_
        exact dr_iret (ty := .int) rfl rfl rfl (by decide) (by decide) ⟨rfl, i1, ⟨by omega, by omega, dq_e PD hR (by omega) (by omega)⟩, by omega, by omega, rfl⟩
      · skip
        refine di_aload_n rfl rfl ?_
        refine dr_iload_n rfl rfl ?_
        refine dr_virt rfl rfl rfl rfl hq0 (f_X0_fromAt l hl hI (b0 := b0) hb0 (s0 := s0) (m0 := m0) (u0 := u0) (w0 := w0) ⟨hq0, hu0, hw0, hau0, haw0, by omega, by omega, by omega, by omega⟩ (a1 := i2) (by omega) (by omega)) (by decide) (by decide) (by decide) (Nat.le_of_ble_eq_true rfl) kNP (kIP (fun y12 y12f y12a y12b => ?_))
        have y12g : -1 ≤ y12 ∧ y12 ≤ 99 ∧ (0 ≤ (i2) → (i2) < (s0) → y12 = cv u0 (i2) % 100) ∧ ((i2) < 0 → y12 = -1) ∧ ((s0) ≤ (i2) → y12 = -1) := y12f
        clear y12f
        refine di_istore_n (ls2 := [some (.ref b0), some (dI (i1)), some (dI (i2)), some (dI (y12)), none]) rfl rfl rfl ?_
        refine di_aload_n rfl rfl ?_
        refine dr_iload_n rfl rfl ?_
        refine dr_virt rfl rfl rfl rfl hq0 (f_X0_depthAt l hl hI (b0 := b0) hb0 (s0 := s0) (m0 := m0) (u0 := u0) (w0 := w0) ⟨hq0, hu0, hw0, hau0, haw0, by omega, by omega, by omega, by omega⟩ (a1 := y12) (by omega) (by omega)) (by decide) (by decide) (by decide) (Nat.le_of_ble_eq_true rfl) kNP (kIP (fun y13 y13f y13a y13b => ?_))
        have y13g : 0 ≤ y13 ∧ y13 ≤ 8 ∧ y13 = cnt (cv u0) (hoP (y12)) (s0).toNat := y13f
        clear y13f
        refine di_aload_n rfl rfl ?_
        refine dr_iload_n rfl rfl ?_
        refine dr_virt rfl rfl rfl rfl hq0 (f_X0_depthAt l hl hI (b0 := b0) hb0 (s0 := s0) (m0 := m0) (u0 := u0) (w0 := w0) ⟨hq0, hu0, hw0, hau0, haw0, by omega, by omega, by omega, by omega⟩ (a1 := i1) (by omega) (by omega)) (by decide) (by decide) (by decide) (Nat.le_of_ble_eq_true rfl) kNP (kIP (fun y14 y14f y14a y14b => ?_))
        have y14g : 0 ≤ y14 ∧ y14 ≤ 8 ∧ y14 = cnt (cv u0) (hoP (i1)) (s0).toNat := y14f
        clear y14f
        refine di_isub rfl ?_
        refine di_istore (ls2 := [some (.ref b0), some (dI (i1)), some (dI (i2)), some (dI (y12)), some (dI ((y13 - y14)))]) rfl rfl rfl ?_
        refine dr_iload rfl rfl ?_
        refine di_if_gt rfl rfl (by omega) (by omega) (fun c15 => ?_) (fun c15 => ?_)
        · skip
          refine dr_iload_n rfl rfl ?_
          refine di_istore_n (ls2 := [some (.ref b0), some (dI (y12)), some (dI (i2)), some (dI (y12)), some (dI ((y13 - y14)))]) rfl rfl rfl ?_
          refine di_iinc (ls2 := [some (.ref b0), some (dI (y12)), some (dI ((i2 + 1))), some (dI (y12)), some (dI ((y13 - y14)))]) rfl rfl rfl rfl ?_
          refine dr_goto rfl rfl ?_
          refine dm_wk (ls2 := [some (.ref b0), some (dI (y12)), some (dI ((i2 + 1))), none, none]) ⟨Or.inr rfl, Or.inr rfl, Or.inr rfl, Or.inl rfl, Or.inl rfl, trivial⟩ ?_
          exact ihL3 (y12) ((i2 + 1)) (by omega) (by omega) (by omega) (by omega) (by omega) (by omega)  (dq_y PD (by omega) (by omega) (by omega) (hok9 i2 (by omega) (by omega)) (by omega) y13g.2.2 y14g.2.2 (by omega))
        · skip
          refine dr_iload rfl rfl ?_
          refine di_if_ne rfl rfl (by omega) (by omega) (fun c16 => ?_) (fun c16 => ?_)
          · skip
            refine di_iinc (ls2 := [some (.ref b0), some (dI (i1)), some (dI ((i2 + 1))), some (dI (y12)), some (dI ((y13 - y14)))]) rfl rfl rfl rfl ?_
            refine dr_goto rfl rfl ?_
            refine dm_wk (ls2 := [some (.ref b0), some (dI (i1)), some (dI ((i2 + 1))), none, none]) ⟨Or.inr rfl, Or.inr rfl, Or.inr rfl, Or.inl rfl, Or.inl rfl, trivial⟩ ?_
            exact ihL3 (i1) ((i2 + 1)) (by omega) (by omega) (by omega) (by omega) (by omega) (by omega)  (dq_n PD (by omega) (by omega) (by omega) (hok9 i2 (by omega) (by omega)) (fun j9 h1 h2 => (Rep_at hR h1 h2).1.1) (by omega) y13g.2.2 y14g.2.2 (by omega))
          · skip
            refine dr_iload_n rfl rfl ?_
            refine dr_iload_n rfl rfl ?_
            refine di_icmp_ge rfl rfl (by omega) (by omega) (by omega) (by omega) (fun c17 => ?_) (fun c17 => ?_)
            · skip
              refine di_iinc (ls2 := [some (.ref b0), some (dI (i1)), some (dI ((i2 + 1))), some (dI (y12)), some (dI ((y13 - y14)))]) rfl rfl rfl rfl ?_
              refine dr_goto rfl rfl ?_
              refine dm_wk (ls2 := [some (.ref b0), some (dI (i1)), some (dI ((i2 + 1))), none, none]) ⟨Or.inr rfl, Or.inr rfl, Or.inr rfl, Or.inl rfl, Or.inl rfl, trivial⟩ ?_
              exact ihL3 (i1) ((i2 + 1)) (by omega) (by omega) (by omega) (by omega) (by omega) (by omega)  (dq_n PD (by omega) (by omega) (by omega) (hok9 i2 (by omega) (by omega)) (fun j9 h1 h2 => (Rep_at hR h1 h2).1.1) (by omega) y13g.2.2 y14g.2.2 (by omega))
            · skip
              refine dr_iload_n rfl rfl ?_
              refine di_istore_n (ls2 := [some (.ref b0), some (dI (y12)), some (dI (i2)), some (dI (y12)), some (dI ((y13 - y14)))]) rfl rfl rfl ?_
              refine di_iinc (ls2 := [some (.ref b0), some (dI (y12)), some (dI ((i2 + 1))), some (dI (y12)), some (dI ((y13 - y14)))]) rfl rfl rfl rfl ?_
              refine dr_goto rfl rfl ?_
              refine dm_wk (ls2 := [some (.ref b0), some (dI (y12)), some (dI ((i2 + 1))), none, none]) ⟨Or.inr rfl, Or.inr rfl, Or.inr rfl, Or.inl rfl, Or.inl rfl, trivial⟩ ?_
              exact ihL3 (y12) ((i2 + 1)) (by omega) (by omega) (by omega) (by omega) (by omega) (by omega)  (dq_y PD (by omega) (by omega) (by omega) (hok9 i2 (by omega) (by omega)) (by omega) y13g.2.2 y14g.2.2 (by omega))
  exact L3 _ ((-1)) (0) (Nat.lt_succ_self _) (by omega) (by omega) (by omega) (by omega) (by omega)  dq_0
set_option maxHeartbeats 4000000 in
set_option maxRecDepth 100000 in
/-- Earlyends.deepest -/
theorem c_X6_deepest (l : Launch) (hl : l.stackTraces = false) {kc km : Int} {h : dm_H} (hI : Inv kc km h) {B : Int} {σ : St} (hS : CSt B σ h) (hB : B ≤ 80000) {a1 : Int} (h1a : -2147483648 ≤ a1) (h1b : a1 ≤ 2147483647) {a2 : Int} (h2a : 0 ≤ a2) (h2b : a2 ≤ 1) : dm_M l 94 6 8 48 [.ref 0, dI (a1), dI (a2)] h (QX kc km h B XB XB (spDeepest σ a1 a2)) := by
  refine dm_M_of dk_94 hl rfl (Nat.le_of_ble_eq_true rfl) ?_
  show dm_W (fun _ _ _ => True) (dm_P (QX kc km h B XB XB (spDeepest σ a1 a2)) 8 48) l 94 6 8 48 0 [some (.ref 0), some (dI (a1)), some (dI (a2)), none, none] [] h 0 0
  refine di_aload_n rfl rfl ?_
  refine dr_iload_n rfl rfl ?_
  obtain ⟨r1, c2, c3, hc4⟩ := I_cls hI
  refine dr_virt rfl rfl rfl rfl hc4 (f_X6_bookAt l hl hI (a1 := a1) (by omega) (by omega)) (by decide) (by decide) (by decide) (Nat.le_of_ble_eq_true rfl) (fun Y h9 q9 => by obtain ⟨rfl, rfl, hC⟩ := q9; exact dr_out rfl (by decide) (by decide) (QX_1 (a := 0) hI FrC_rf hS (by omega) (by unfold spDeepest; (repeat' split) <;> first | rfl | (exfalso; omega) | (apply Prod.ext <;> first | rfl | (dsimp only; omega) | (apply Prod.ext <;> first | rfl | (dsimp only; omega)))))) (kPXR (fun r5 ⟨q6, q7, q8, q10⟩ => ?_))
  refine di_astore_n (ls2 := [some (.ref 0), some (dI (a1)), some (dI (a2)), some (.ref r5), none]) rfl rfl rfl ?_
  refine di_aload_n rfl rfl ?_
  obtain ⟨s11, m12, u13, w14, hc15, hr16, ht17, ma18, mb19⟩ := CSt_bk hS (k := a1) q8 q10 q7
  have sq20 : 0 ≤ s11 ∧ s11 ≤ 8 := ⟨hc15.2.2.2.2.2.1, hc15.2.2.2.2.2.2.1⟩
  have hz21 : zF (σ.1 a1) = s11 := zF_eq hr16
  refine dr_virt rfl rfl rfl rfl hc15.1 (f_X0_deepPlace l hl hI q6 hc15 hr16) (by decide) (by decide) (by decide) (Nat.le_of_ble_eq_true rfl) kNP (kIP (fun y22 y22f y22a y22b => ?_))
  obtain ⟨y22c, y22d, y22k⟩ := y22f
  refine di_istore (ls2 := [some (.ref 0), some (dI (a1)), some (dI (a2)), some (.ref r5), some (dI (y22))]) rfl rfl rfl ?_
  refine dr_iload_n rfl rfl ?_
  refine di_if_eq rfl rfl (by omega) (by omega) (fun c23 => ?_) (fun c23 => ?_)
  · skip
    refine di_aload_n rfl rfl ?_
    refine dr_iload rfl rfl ?_
    refine dr_virt rfl rfl rfl rfl hc15.1 (f_X0_depthAt l hl hI q6 hc15 (a1 := y22) (by omega) (by omega)) (by decide) (by decide) (by decide) (Nat.le_of_ble_eq_true rfl) kNP (kIP (fun y24 y24f y24a y24b => ?_))
    obtain ⟨y24c, y24d, y24k⟩ := y24f
    have e9 : anDeep (σ.1 a1) a2 = y24 := deep_0 hr16 y22k (by omega) y24k
    exact dr_iret (ty := .int) rfl rfl rfl (by decide) (by decide) (QX_ok hI FrC_rf hS (by omega) (by unfold spDeepest; (try rw [e9]); (repeat' split) <;> first | rfl | (exfalso; omega) | (apply Prod.ext <;> first | rfl | (dsimp only; omega) | (apply Prod.ext <;> first | rfl | (dsimp only; omega)))))
  · skip
    refine dr_iload rfl rfl ?_
    refine dr_goto rfl rfl ?_
    have e9 : anDeep (σ.1 a1) a2 = y22 := deep_1 hr16 y22k (by omega)
    exact dr_iret (ty := .int) rfl rfl rfl (by decide) (by decide) (QX_ok hI FrC_rf hS (by omega) (by unfold spDeepest; (try rw [e9]); (repeat' split) <;> first | rfl | (exfalso; omega) | (apply Prod.ext <;> first | rfl | (dsimp only; omega) | (apply Prod.ext <;> first | rfl | (dsimp only; omega)))))
