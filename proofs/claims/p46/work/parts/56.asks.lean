/-! ===== the chain of chosen spans ===== -/
def frP (t : Int) : Int → Bool := fun c => decide (t < c % 100)
theorem frP_t {t c : Int} (h : t < c % 100) : frP t c = true := decide_eq_true h
theorem frP_f {t c : Int} (h : c % 100 ≤ t) : frP t c = false := decide_eq_false (by omega)
noncomputable def chn (F : Int → Int) : Nat → Int
  | 0 => lst F (frP (-1))
  | n + 1 => if chn F n = -1 then -1 else lst F (frP (chn F n / 100))
noncomputable def eN (F : Int → Int) : Nat → Int
  | 0 => -1
  | n + 1 => chn F n / 100
def moP (F : Int → Int) (n : Nat) : Prop := ∀ j : Nat, j < n → chn F j ≠ -1
theorem chn_e {F : Int → Int} : ∀ n : Nat, moP F n → chn F n = lst F (frP (eN F n))
  | 0, _ => rfl
  | n + 1, h => if_neg (h n (Nat.lt_succ_self n))
theorem chn_d {F : Int → Int} {n : Nat} (h : chn F n = -1) : ∀ k : Nat, chn F (n + k) = -1
  | 0 => h
  | k + 1 => by
    show (if chn F (n + k) = -1 then -1 else lst F (frP (chn F (n + k) / 100))) = -1
    rw [if_pos (chn_d h k)]
noncomputable def anMost (F : Int → Int) : Int := Classical.epsilon (fun x : Int => 0 ≤ x ∧ moP F x.toNat ∧ chn F x.toNat = -1)
theorem most_e {F : Int → Int} {x : Int} (h0 : 0 ≤ x) (h1 : moP F x.toNat) (h2 : chn F x.toNat = -1) : anMost F = x := by
  obtain ⟨a, b, c⟩ := Classical.epsilon_spec (p := fun x : Int => 0 ≤ x ∧ moP F x.toNat ∧ chn F x.toNat = -1) ⟨x, h0, h1, h2⟩
  have k : ∀ y : Int, 0 ≤ y → moP F y.toNat → chn F y.toNat = -1 → y = x := fun y a b c => by
    rcases Int.lt_trichotomy y x with q | q | q
    · exact absurd c (h1 _ (by omega))
    · exact q
    · exact absurd h2 (b _ (by omega))
  exact k _ a b c
noncomputable def anChosen (F : Int → Int) (k : Int) : Int := chn F k.toNat
noncomputable def spMost (σ : St) (b : Int) : Int × Int × St := if b < 0 ∨ 2 < b then (1, 0, σ) else (0, anMost (σ.1 b), σ)
noncomputable def spChosen (σ : St) (b k : Int) : Int × Int × St := if b < 0 ∨ 2 < b then (1, 0, σ) else if k < 0 then (2, 0, σ) else (0, anChosen (σ.1 b) k, σ)
/-! the class's chain -/
def ChA (b : Nat) (n : Int) (v : List Value) (h : dm_H) : Prop := h[b]? = some (3, [.ref (b + 1), dI n]) ∧ h[b + 1]? = some (20, v) ∧ arr 8 anyI v ∧ 0 ≤ n ∧ n ≤ 8
def FrK (b : Nat) (h h1 : dm_H) : Prop := h1.length = h.length ∧ ∀ j : Nat, j ≠ b → j ≠ b + 1 → h1[j]? = h[j]?
theorem FrK_tr {b : Nat} {h h1 h2 : dm_H} (a : FrK b h h1) (c : FrK b h1 h2) : FrK b h h2 := ⟨c.1.trans a.1, fun j x y => (c.2 j x y).trans (a.2 j x y)⟩
theorem FrK_of {b i : Nat} {h h1 : dm_H} (a : FrI i h h1) (hi : i = b ∨ i = b + 1) : FrK b h h1 := ⟨a.1, fun j x y => a.2 j (by omega)⟩
theorem I_chA {kc km : Int} {h : dm_H} (hI : Inv kc km h) {b : Nat} (hb : isCh b) : ∃ (n : Int) (v : List Value), ChA b n v h := by
  obtain ⟨n, n0, n1, hc⟩ := I_ch hI hb
  obtain ⟨v, hv, ha⟩ := I_cha hI hb
  exact ⟨n, v, hc, hv, ha, n0, n1⟩
theorem ch_13 {b : Nat} (hb : isCh b) : 4 ≤ b ∧ b ≤ 13 := by rcases hb with rfl | rfl | rfl <;> decide
theorem bk_17 {b : Nat} (hb : isBk b) : 17 ≤ b := by rcases hb with rfl | rfl | rfl <;> decide
theorem CA_K {a b : Nat} {s m : Int} {u w : List Value} {h h' : dm_H} (f : FrK a h h') (ha : isCh a) (hb : isBk b) (hc : CA b s m u w h) : CA b s m u w h' := by
  have h1 := ch_13 ha
  have h2 := bk_17 hb
  unfold CA at *
  rw [f.2 b (by omega) (by omega), f.2 (b + 1) (by omega) (by omega), f.2 (b + 2) (by omega) (by omega)]
  exact hc
theorem FrC_K {a : Nat} {h h' : dm_H} (f : FrK a h h') (ha : isCh a) : FrC h h' := ⟨f.1, fun j x => by have := ch_13 ha; exact f.2 j (by omega) (by omega)⟩
theorem CSt_K {a : Nat} {B : Int} {σ : St} {h h' : dm_H} (hS : CSt B σ h) (f : FrK a h h') (ha : isCh a) : CSt B σ h' := CSt_same hS (fun j j0 j1 j2 => by have := ch_13 ha; exact f.2 j (by omega) (by omega))
def QCh (kc km : Int) (h : dm_H) (b : Nat) (Φ : Int → List Value → Option Value → Prop) : dm_Rs := fun r h' => Inv kc km h' ∧ FrK b h h' ∧ match r with
  | .inl v => ∃ (n : Int) (w : List Value), ChA b n w h' ∧ Φ n w v
  | .inr _ => False
section KCH
variable {E : dm_Ex} {P : dm_Po} {l : Launch} {z d MC MS pc ce sl : Nat} {ls : List (Option Value)} {st : List Value} {h : dm_H} {kc km : Int} {b : Nat}
theorem kChN {Φ : Int → List Value → Option Value → Prop} : ∀ (Y : String) (h1 : dm_H), QCh kc km h b Φ (.inr Y) h1 → dm_T9 E P l z d MC MS Y pc ls h1 ce sl := fun _ _ q => q.2.2.elim
theorem kChV {Φ : Int → List Value → Prop} (kk : ∀ (h1 : dm_H), Inv kc km h1 → FrK b h h1 → ∀ (n : Int) (w : List Value), ChA b n w h1 → Φ n w → dm_W E P l z d MC MS pc ls st h1 ce sl) : ∀ (v : Option Value) (h1 : dm_H), QCh kc km h b (fun n w v => Φ n w ∧ v = none) (.inl v) h1 → dm_W E P l z d MC MS pc ls (v.toList ++ st) h1 ce sl := by
  rintro v h1 ⟨a, c, n, w, q1, q2, rfl⟩
  exact kk h1 a c n w q1 q2
theorem kChI {Φ : Int → List Value → Int → Prop} (kk : ∀ (h1 : dm_H), Inv kc km h1 → FrK b h h1 → ∀ (n : Int) (w : List Value) (x : Int), ChA b n w h1 → Φ n w x → 0 ≤ x → x ≤ 1 → dm_W E P l z d MC MS pc ls (dI x :: st) h1 ce sl) : ∀ (v : Option Value) (h1 : dm_H), QCh kc km h b (fun n w v => ∃ x : Int, Φ n w x ∧ 0 ≤ x ∧ x ≤ 1 ∧ v = some (dI x)) (.inl v) h1 → dm_W E P l z d MC MS pc ls (v.toList ++ st) h1 ce sl := by
  rintro v h1 ⟨a, c, n, w, q1, x, q2, b0, b1, rfl⟩
  exact kk h1 a c n w x q1 q2 b0 b1
end KCH
set_option maxRecDepth 100000 in
theorem f_X1_append (l : Launch) (hl : l.stackTraces = false) {kc km : Int} {h : dm_H} (hI : Inv kc km h) {b : Nat} (hb : isCh b) {n : Int} {v : List Value} (hc : ChA b n v h) (hn : n ≤ 7) {a1 : Int} (h1a : -1 ≤ a1) (h1b : a1 ≤ 8) : dm_M l 30 0 0 0 [.ref b, dI a1] h (QCh kc km h b (fun n2 v2 r => (n2 = n + 1 ∧ stt v v2 n a1) ∧ r = none)) := by
  obtain ⟨c1, c2, c3, c4, c5⟩ := hc
  refine dm_M_of dk_30 hl rfl (Nat.le_of_ble_eq_true rfl) ?_
  show dm_W (fun _ _ _ => True) (dm_P (QCh kc km h b (fun n2 v2 r => (n2 = n + 1 ∧ stt v v2 n a1) ∧ r = none)) 0 0) l 30 0 0 0 0 [some (.ref b), some (dI a1)] [] h 0 0
  refine di_aload_n rfl rfl ?_
  refine dr_getf rfl c1 rfl ?_
  refine di_bipush rfl (by decide) ?_
  refine di_icmp_ge rfl rfl (by omega) (by omega) (by omega) (by omega) (fun c => ?_) (fun c => ?_)
  · exact absurd c (by omega)
  · refine di_aload_n rfl rfl ?_
    refine dr_getf rfl c1 rfl ?_
    refine di_aload_n rfl rfl ?_
    refine dr_getf rfl c1 rfl ?_
    refine dr_iload_n rfl rfl ?_
    refine paX rfl c2 c3 (by omega) (by omega) trivial (by omega) (by omega) hI (lt_ch1 hb) (fun us9 hu9 => T37_cha hb hu9) (fun h1 us hI1 hk1 hu1 ha1 hs1 => ?_)
    have d1 := (hk1.2 b (by omega)).trans c1
    refine di_aload_n rfl rfl ?_
    refine dr_dup rfl rfl ?_
    refine dr_getf rfl d1 rfl ?_
    refine di_const rfl ?_
    refine di_iadd rfl ?_
    refine pfX rfl d1 (Nat.le_of_ble_eq_true rfl) rfl hI1 (lt_ch hb) (T37_ch hb (by omega)) (fun h2 hI2 hk2 hc2 => ?_)
    exact dr_vret rfl rfl (by decide) (by decide) ⟨hI2, FrK_tr (FrK_of hk1 (Or.inr rfl)) (FrK_of hk2 (Or.inl rfl)), n + 1, us, ⟨hc2, (hk2.2 (b + 1) (by omega)).trans hu1, ha1, by omega, by omega⟩, ⟨rfl, hs1⟩, rfl⟩
set_option maxRecDepth 100000 in
theorem f_X1_rankAt (l : Launch) (hl : l.stackTraces = false) {kc km : Int} {h : dm_H} (hI : Inv kc km h) {b : Nat} (hb : isCh b) {n : Int} {v : List Value} (hc : ChA b n v h) {a1 : Int} (h1a : -2147483648 ≤ a1) (h1b : a1 ≤ 2147483647) : dm_M l 29 0 0 0 [.ref b, dI a1] h (QP h (RI (fun x => (0 ≤ a1 → a1 < n → x = cv v a1) ∧ (a1 < 0 ∨ n ≤ a1 → x = -1))) []) := by
  obtain ⟨c1, c2, c3, c4, c5⟩ := hc
  refine dm_M_of dk_29 hl rfl (Nat.le_of_ble_eq_true rfl) ?_
  show dm_W (fun _ _ _ => True) (dm_P (QP h (RI (fun x => (0 ≤ a1 → a1 < n → x = cv v a1) ∧ (a1 < 0 ∨ n ≤ a1 → x = -1))) []) 0 0) l 29 0 0 0 0 [some (.ref b), some (dI a1)] [] h 0 0
  refine dr_iload_n rfl rfl ?_
  refine di_if_lt rfl rfl (by omega) (by omega) (fun c => ?_) (fun c => ?_)
  · refine di_const rfl ?_
    exact dr_iret (ty := .int) rfl rfl rfl (by decide) (by decide) ⟨rfl, -1, ⟨by omega, fun _ => rfl⟩, by omega, by omega, rfl⟩
  refine dr_iload_n rfl rfl ?_
  refine di_aload_n rfl rfl ?_
  refine dr_getf rfl c1 rfl ?_
  refine di_icmp_ge rfl rfl (by omega) (by omega) (by omega) (by omega) (fun c => ?_) (fun c => ?_)
  · refine di_const rfl ?_
    exact dr_iret (ty := .int) rfl rfl rfl (by decide) (by decide) ⟨rfl, -1, ⟨by omega, fun _ => rfl⟩, by omega, by omega, rfl⟩
  refine di_aload_n rfl rfl ?_
  refine dr_getf rfl c1 rfl ?_
  refine dr_iload_n rfl rfl ?_
  refine di_iald rfl c2 c3 (by omega) (by omega) (fun x xf xa xb xv => ?_)
  have xw : cv v a1 = x := cv_eq xv xa xb
  refine dr_goto rfl rfl ?_
  exact dr_iret (ty := .int) rfl rfl rfl (by decide) (by decide) ⟨rfl, x, ⟨fun _ _ => xw.symm, by omega⟩, by omega, by omega, rfl⟩
/-- the chain so far: n of them, found among the ranks below r; e is the to of the last -/
def fcP (F : Int → Int) (u v : List Value) (s n e r : Int) : Prop := moP F n.toNat ∧ e = eN F n.toNat ∧ (∀ j : Int, 0 ≤ j → j < r → cv u j % 100 ≤ e) ∧ ∀ j : Int, 0 ≤ j → j < n → (0 ≤ cv v j ∧ cv v j < s) ∧ cv u (cv v j) = chn F j.toNat
section FCP
variable {F : Int → Int} {u w v v2 : List Value} {s n e r x e2 : Int}
theorem fc_0 : fcP F u v s 0 (-1) 0 := ⟨fun j h => absurd h (Nat.not_lt_zero _), rfl, fun j h0 h1 => by omega, fun j h0 h1 => by omega⟩
theorem fc_n (h : fcP F u v s n e r) (hx : cv u r % 100 ≤ e) : fcP F u v s n e (r + 1) := ⟨h.1, h.2.1, fun j j0 j1 => by
  by_cases q : j = r
  · rw [q]; exact hx
  · exact h.2.2.1 j j0 (by omega), h.2.2.2⟩
theorem fc_l (hr : Rep (cv u) (cv w) s F) (ht : Srt (cv u) s) (h : fcP F u v s n e r) (r0 : 0 ≤ r) (r1 : r < s) (hx : e < cv u r % 100) : chn F n.toNat = cv u r := by
  rw [chn_e _ h.1, ← h.2.1]
  refine lst_eq ⟨(Rep_yes hr r0 r1 rfl).2.1, frP_t hx, fun c hc hp => ?_⟩
  obtain ⟨j, j0, j1, rfl⟩ := Rep_ex hr hc
  have hp := of_decide_eq_true hp
  by_cases q : j < r
  · have := h.2.2.1 j j0 q; omega
  · by_cases q2 : j = r
    · rw [q2]; exact Int.le_refl _
    · have := ht r j r0 (by omega) j1; omega
theorem fc_y (hr : Rep (cv u) (cv w) s F) (ht : Srt (cv u) s) (h : fcP F u v s n e r) (n0 : 0 ≤ n) (r0 : 0 ≤ r) (r1 : r < s) (hx : e < cv u r % 100) (hok : cv u r % 100 ≤ cv u r / 100) (hs : stt v v2 n r) (he : e2 = cv u r / 100) : fcP F u v2 s (n + 1) e2 (r + 1) := by
  have hl := fc_l hr ht h r0 r1 hx
  have h0 := Rep_at hr r0 r1
  refine ⟨fun j hj => ?_, ?_, fun j j0 j1 => ?_, fun j j0 j1 => ?_⟩
  · by_cases q : j < n.toNat
    · exact h.1 j q
    · rw [show j = n.toNat by omega, hl]; omega
  · rw [show (n + 1).toNat = n.toNat + 1 by omega]
    show e2 = chn F n.toNat / 100
    rw [hl, he]
  · by_cases q : j = r
    · rw [q, he]; exact hok
    · have := h.2.2.1 j j0 (by omega)
      omega
  · by_cases q : j = n
    · rw [q, stt_at hs n0]; exact ⟨⟨r0, r1⟩, hl.symm⟩
    · rw [stt_ne hs j0 q]; exact h.2.2.2 j j0 (by omega)
theorem fc_e (h : fcP F u v s n e r) (hr : Rep (cv u) (cv w) s F) (e9 : r = s) : chn F n.toNat = -1 := by
  rw [chn_e _ h.1, ← h.2.1]
  exact lst_no (fun c hc => by
    obtain ⟨j, j0, j1, rfl⟩ := Rep_ex hr hc
    exact frP_f (h.2.2.1 j j0 (by omega)))
/-- the chain whole -/
def fcE (F : Int → Int) (u v : List Value) (s n : Int) : Prop := (moP F n.toNat ∧ chn F n.toNat = -1) ∧ ∀ j : Int, 0 ≤ j → j < n → (0 ≤ cv v j ∧ cv v j < s) ∧ cv u (cv v j) = chn F j.toNat
theorem fc_x (h : fcP F u v s n e r) (hr : Rep (cv u) (cv w) s F) (e9 : r = s) : fcE F u v s n := ⟨⟨h.1, fc_e h hr e9⟩, h.2.2.2⟩
theorem fc_k {a y x : Int} (h : fcE F u v s n) (n0 : 0 ≤ n) (a0 : 0 ≤ a) (y1 : 0 ≤ a → a < n → y = cv v a) (y2 : a < 0 ∨ n ≤ a → y = -1) (x1 : 0 ≤ y → y < s → x = cv u y) (x2 : y < 0 → x = -1) : anChosen F a = x := by
  show chn F a.toNat = x
  by_cases q : a < n
  · obtain ⟨⟨p0, p1⟩, p2⟩ := h.2 a a0 q
    have e := y1 a0 q
    rw [← p2, x1 (by omega) (by omega), e]
  · have e := y2 (Or.inr (by omega))
    rw [x2 (by omega)]
    have := chn_d h.1.2 (a - n).toNat
    rw [show n.toNat + (a - n).toNat = a.toNat by omega] at this
    exact this
end FCP
set_option maxHeartbeats 4000000 in
set_option maxRecDepth 100000 in
theorem f_X1_fillChosen (l : Launch) (hl : l.stackTraces = false) {kc km : Int} {h : dm_H} (hI : Inv kc km h) {b : Nat} (hb : isCh b) {b1 : Nat} (hb1 : isBk b1) {s m : Int} {u w : List Value} (hC : CA b1 s m u w h) {F : Int → Int} (hr : Rep (cv u) (cv w) s F) (ht : Srt (cv u) s) : dm_M l 31 1 0 0 [.ref b, .ref b1] h (QCh kc km h b (fun n v r => fcE F u v s n ∧ r = none)) := by
  refine dm_M_of dk_31 hl rfl (Nat.le_of_ble_eq_true rfl) ?_
  show dm_W (fun _ _ _ => True) (dm_P (QCh kc km h b (fun n v r => fcE F u v s n ∧ r = none)) 0 0) l 31 1 0 0 0 [some (.ref b), some (.ref b1), none, none] [] h 0 0
  obtain ⟨n0, v0, c1, c2, c3, -, -⟩ := I_chA hI hb
  have s0 := hC.2.2.2.2.2.1
  have s8 := hC.2.2.2.2.2.2.1
  refine di_aload_n rfl rfl ?_
  refine di_const rfl ?_
  refine pfX rfl c1 (Nat.le_of_ble_eq_true rfl) rfl hI (lt_ch hb) (T37_ch hb (by omega)) (fun h1 hI1 hk1 hc1 => ?_)
  have hA1 : ChA b 0 v0 h1 := ⟨hc1, (hk1.2 (b + 1) (by omega)).trans c2, c3, by omega, by omega⟩
  have hK1 : FrK b h h1 := FrK_of hk1 (Or.inl rfl)
  refine di_const rfl ?_
  refine di_istore_n (ls2 := [some (.ref b), some (.ref b1), some (dI (-1)), none]) rfl rfl rfl ?_
  refine di_const rfl ?_
  refine di_istore_n (ls2 := [some (.ref b), some (.ref b1), some (dI (-1)), some (dI 0)]) rfl rfl rfl ?_
  have L : ∀ (k : Nat) (e r n : Int) (v : List Value) (h2 : dm_H), (8 - r).toNat < k → -1 ≤ e → e ≤ 99 → 0 ≤ r → r ≤ s → 0 ≤ n → n ≤ r → Inv kc km h2 → FrK b h h2 → ChA b n v h2 → fcP F u v s n e r → dm_W (fun _ _ _ => True) (dm_P (QCh kc km h b (fun n v r => fcE F u v s n ∧ r = none)) 0 0) l 31 1 0 0 9 [some (.ref b), some (.ref b1), some (dI e), some (dI r)] [] h2 0 0 := by
    intro k
    induction k with
    | zero => intro e r n v h2 hm; exact absurd hm (Nat.not_lt_zero _)
    | succ k ih =>
      intro e r n v h2 hm e0 e1 r0 r1 nn0 nn1 hI2 hK2 hA2 PF
      have hC2 := CA_K hK2 hb hb1 hC
      refine dr_iload_n rfl rfl ?_
      refine di_aload_n rfl rfl ?_
      refine dr_virt rfl rfl rfl rfl hC2.1 (f_X0_count l hl hI2 hb1 hC2) (by decide) (by decide) (by decide) (Nat.le_of_ble_eq_true rfl) kNP (kIP (fun y yf ya yb => ?_))
      obtain ⟨yc, yd, ye⟩ := yf
      subst ye
      refine di_icmp_ge rfl rfl (by omega) (by omega) (by omega) (by omega) (fun c => ?_) (fun c => ?_)
      · exact dr_vret rfl rfl (by decide) (by decide) ⟨hI2, hK2, n, v, hA2, fc_x PF hr (by omega), rfl⟩
      refine di_aload_n rfl rfl ?_
      refine dr_iload_n rfl rfl ?_
      refine dr_virt rfl rfl rfl rfl hC2.1 (f_X0_fromAt l hl hI2 hb1 hC2 (a1 := r) (by omega) (by omega)) (by decide) (by decide) (by decide) (Nat.le_of_ble_eq_true rfl) kNP (kIP (fun x xf xa xb => ?_))
      obtain ⟨xc, xd, xk, xk2, xk3⟩ := xf
      have xe := xk r0 (by omega)
      have hok := (CA_arr hC).1 r r0 (by omega)
      have h9 := Rep_at hr r0 (by omega)
      refine dr_iload_n rfl rfl ?_
      refine di_icmp_le rfl rfl (by omega) (by omega) (by omega) (by omega) (fun c2 => ?_) (fun c2 => ?_)
      · refine di_iinc (ls2 := [some (.ref b), some (.ref b1), some (dI e), some (dI (r + 1))]) rfl rfl rfl rfl ?_
        refine dr_goto rfl rfl ?_
        exact ih e (r + 1) n v h2 (by omega) e0 e1 (by omega) (by omega) nn0 (by omega) hI2 hK2 hA2 (fc_n PF (by omega))
      refine di_aload_n rfl rfl ?_
      refine dr_iload_n rfl rfl ?_
      refine dr_virt rfl rfl rfl rfl hA2.1 (f_X1_append l hl hI2 hb hA2 (by omega) (a1 := r) (by omega) (by omega)) (by decide) (by decide) (by decide) (Nat.le_of_ble_eq_true rfl) kChN (kChV (fun h3 hI3 hK3 n3 v3 hA3 q3 => ?_))
      obtain ⟨en3, hs3⟩ := q3
      subst en3
      have hK4 := FrK_tr hK2 hK3
      have hC3 := CA_K hK4 hb hb1 hC
      refine di_aload_n rfl rfl ?_
      refine dr_iload_n rfl rfl ?_
      refine dr_virt rfl rfl rfl rfl hC3.1 (f_X0_toAt l hl hI3 hb1 hC3 (a1 := r) (by omega) (by omega)) (by decide) (by decide) (by decide) (Nat.le_of_ble_eq_true rfl) kNP (kIP (fun t tf ta tb => ?_))
      obtain ⟨tc, td, tk, tk2, tk3⟩ := tf
      have te := tk r0 (by omega)
      refine di_istore_n (ls2 := [some (.ref b), some (.ref b1), some (dI t), some (dI r)]) rfl rfl rfl ?_
      refine di_iinc (ls2 := [some (.ref b), some (.ref b1), some (dI t), some (dI (r + 1))]) rfl rfl rfl rfl ?_
      refine dr_goto rfl rfl ?_
      exact ih t (r + 1) (n + 1) v3 h3 (by omega) (by omega) (by omega) (by omega) (by omega) (by omega) (by omega) hI3 hK4 hA3 (fc_y hr ht PF nn0 r0 (by omega) (by omega) hok hs3 te)
  exact L _ (-1) 0 0 v0 h1 (Nat.lt_succ_self _) (by omega) (by omega) (by omega) (by omega) (by omega) (by omega) hI1 hK1 hA1 fc_0
set_option maxRecDepth 100000 in
theorem f_X6_needNotBelowZero (l : Launch) (hl : l.stackTraces = false) {kc km : Int} {h : dm_H} (hI : Inv kc km h) {a0 : Int} (h0a : -2147483648 ≤ a0) (h0b : a0 ≤ 2147483647) : dm_M l 121 1 1 6 [dI a0] h (QPX h (fun v => v = none ∧ (0 ≤ a0 ∧ a0 ≤ 2147483647)) XA (a0 < 0 ∨ 2147483647 < a0)) := by
  refine dm_M_of dk_121 hl rfl (Nat.le_of_ble_eq_true rfl) ?_
  show dm_W (fun _ _ _ => True) (dm_P (QPX h (fun v => v = none ∧ (0 ≤ a0 ∧ a0 ≤ 2147483647)) XA (a0 < 0 ∨ 2147483647 < a0)) 1 6) l 121 1 1 6 0 [some (dI a0)] [] h 0 0
  refine dr_iload_n rfl rfl ?_
  refine di_if_ge rfl rfl (by omega) (by omega) (fun c1 => ?_) (fun c1 => ?_)
  · exact dr_vret rfl rfl (by decide) (by decide) ⟨rfl, rfl, by omega, by omega⟩
  · exact dr_throw rfl (by decide) rfl (by decide) (by decide) (by decide) (Nat.le_of_ble_eq_true rfl) ⟨rfl, rfl, by omega⟩
theorem ch_4 : isCh 4 := Or.inl rfl
set_option maxHeartbeats 4000000 in
set_option maxRecDepth 100000 in
/-- Earlyends.most -/
theorem c_X6_most (l : Launch) (hl : l.stackTraces = false) {kc km : Int} {h : dm_H} (hI : Inv kc km h) {B : Int} {σ : St} (hS : CSt B σ h) (hB : B ≤ 80000) {a1 : Int} (h1a : -2147483648 ≤ a1) (h1b : a1 ≤ 2147483647) : dm_M l 89 6 8 48 [.ref 0, dI (a1)] h (QX kc km h B XB XB (spMost σ a1)) := by
  refine dm_M_of dk_89 hl rfl (Nat.le_of_ble_eq_true rfl) ?_
  show dm_W (fun _ _ _ => True) (dm_P (QX kc km h B XB XB (spMost σ a1)) 8 48) l 89 6 8 48 0 [some (.ref 0), some (dI (a1))] [] h 0 0
  refine di_aload_n rfl rfl ?_
  obtain ⟨r1, c2, c3, hc4⟩ := I_cls hI
  refine dr_getf rfl hc4 rfl ?_
  refine di_aload_n rfl rfl ?_
  refine dr_iload_n rfl rfl ?_
  refine dr_virt rfl rfl rfl rfl hc4 (f_X6_bookAt l hl hI (a1 := a1) (by omega) (by omega)) (by decide) (by decide) (by decide) (Nat.le_of_ble_eq_true rfl) (fun Y h9 q9 => by obtain ⟨rfl, rfl, hC⟩ := q9; exact dr_out rfl (by decide) (by decide) (QX_1 (a := 0) hI FrC_rf hS (by omega) (by unfold spMost; (repeat' split) <;> first | rfl | (exfalso; omega) | (apply Prod.ext <;> first | rfl | (dsimp only; omega) | (apply Prod.ext <;> first | rfl | (dsimp only; omega)))))) (kPXR (fun r5 ⟨q6, q7, q8, q10⟩ => ?_))
  obtain ⟨s11, m12, u13, w14, hc15, hr16, ht17, ma18, mb19⟩ := CSt_bk hS (k := a1) q8 q10 q7
  have sq20 : 0 ≤ s11 ∧ s11 ≤ 8 := ⟨hc15.2.2.2.2.2.1, hc15.2.2.2.2.2.2.1⟩
  have hz21 : zF (σ.1 a1) = s11 := zF_eq hr16
  obtain ⟨n22, v23, hch24⟩ := I_chA hI (b := 4) ch_4
  refine dr_virt rfl rfl rfl rfl hch24.1 (f_X1_fillChosen l hl hI (b := 4) ch_4 q6 hc15 hr16 ht17 ) (by decide) (by decide) (by decide) (Nat.le_of_ble_eq_true rfl) kChN (kChV (fun h25 hI26 hK27 n28 v29 hA30 qf31 => ?_))
  have hF32 := FrC_tr FrC_rf (FrC_K hK27 ch_4)
  have hS33 := CSt_K hS hK27 ch_4
  have hc34 := CA_K hK27 ch_4 q6 hc15
  have n28a := hA30.2.2.2.1
  have n28b := hA30.2.2.2.2
  refine di_aload_n rfl rfl ?_
  obtain ⟨r36, c37, c38, hc39⟩ := I_cls hI26
  refine dr_getf rfl hc39 rfl ?_
  refine dr_getf rfl hA30.1 rfl ?_
  have e9 : anMost (σ.1 a1) = n28 := most_e n28a qf31.1.1 qf31.1.2
  exact dr_iret (ty := .int) rfl rfl rfl (by decide) (by decide) (QX_ok hI26 hF32 hS33 (by omega) (by unfold spMost; (try rw [e9]); (repeat' split) <;> first | rfl | (exfalso; omega) | (apply Prod.ext <;> first | rfl | (dsimp only; omega) | (apply Prod.ext <;> first | rfl | (dsimp only; omega)))))
set_option maxHeartbeats 4000000 in
set_option maxRecDepth 100000 in
/-- Earlyends.chosen -/
theorem c_X6_chosen (l : Launch) (hl : l.stackTraces = false) {kc km : Int} {h : dm_H} (hI : Inv kc km h) {B : Int} {σ : St} (hS : CSt B σ h) (hB : B ≤ 80000) {a1 : Int} (h1a : -2147483648 ≤ a1) (h1b : a1 ≤ 2147483647) {a2 : Int} (h2a : -2147483648 ≤ a2) (h2b : a2 ≤ 2147483647) : dm_M l 90 6 8 48 [.ref 0, dI (a1), dI (a2)] h (QX kc km h B XB XA (spChosen σ a1 a2)) := by
  refine dm_M_of dk_90 hl rfl (Nat.le_of_ble_eq_true rfl) ?_
  show dm_W (fun _ _ _ => True) (dm_P (QX kc km h B XB XA (spChosen σ a1 a2)) 8 48) l 90 6 8 48 0 [some (.ref 0), some (dI (a1)), some (dI (a2)), none] [] h 0 0
  refine di_aload_n rfl rfl ?_
  refine dr_iload_n rfl rfl ?_
  obtain ⟨r1, c2, c3, hc4⟩ := I_cls hI
  refine dr_virt rfl rfl rfl rfl hc4 (f_X6_bookAt l hl hI (a1 := a1) (by omega) (by omega)) (by decide) (by decide) (by decide) (Nat.le_of_ble_eq_true rfl) (fun Y h9 q9 => by obtain ⟨rfl, rfl, hC⟩ := q9; exact dr_out rfl (by decide) (by decide) (QX_1 (a := 0) hI FrC_rf hS (by omega) (by unfold spChosen; (repeat' split) <;> first | rfl | (exfalso; omega) | (apply Prod.ext <;> first | rfl | (dsimp only; omega) | (apply Prod.ext <;> first | rfl | (dsimp only; omega)))))) (kPXR (fun r5 ⟨q6, q7, q8, q10⟩ => ?_))
  refine di_astore_n (ls2 := [some (.ref 0), some (dI (a1)), some (dI (a2)), some (.ref r5)]) rfl rfl rfl ?_
  refine dr_iload_n rfl rfl ?_
  refine dr_stat rfl rfl rfl rfl (f_X6_needNotBelowZero l hl hI (a0 := a2) (by omega) (by omega)) (by decide) (by decide) (by decide) (Nat.le_of_ble_eq_true rfl) (fun Y h9 q9 => by obtain ⟨rfl, rfl, hC⟩ := q9; exact dr_out rfl (by decide) (by decide) (QX_2 (a := 0) hI FrC_rf hS (by omega) (by unfold spChosen; (repeat' split) <;> first | rfl | (exfalso; omega) | (apply Prod.ext <;> first | rfl | (dsimp only; omega) | (apply Prod.ext <;> first | rfl | (dsimp only; omega)))))) (kPXV (fun q11 => ?_))
  refine di_aload_n rfl rfl ?_
  refine dr_getf rfl hc4 rfl ?_
  refine di_aload_n rfl rfl ?_
  obtain ⟨s12, m13, u14, w15, hc16, hr17, ht18, ma19, mb20⟩ := CSt_bk hS (k := a1) q8 q10 q7
  have sq21 : 0 ≤ s12 ∧ s12 ≤ 8 := ⟨hc16.2.2.2.2.2.1, hc16.2.2.2.2.2.2.1⟩
  have hz22 : zF (σ.1 a1) = s12 := zF_eq hr17
  obtain ⟨n23, v24, hch25⟩ := I_chA hI (b := 4) ch_4
  refine dr_virt rfl rfl rfl rfl hch25.1 (f_X1_fillChosen l hl hI (b := 4) ch_4 q6 hc16 hr17 ht18 ) (by decide) (by decide) (by decide) (Nat.le_of_ble_eq_true rfl) kChN (kChV (fun h26 hI27 hK28 n29 v30 hA31 qf32 => ?_))
  have hF33 := FrC_tr FrC_rf (FrC_K hK28 ch_4)
  have hS34 := CSt_K hS hK28 ch_4
  have hc35 := CA_K hK28 ch_4 q6 hc16
  have n29a := hA31.2.2.2.1
  have n29b := hA31.2.2.2.2
  refine di_aload_n rfl rfl ?_
  refine di_aload_n rfl rfl ?_
  obtain ⟨r37, c38, c39, hc40⟩ := I_cls hI27
  refine dr_getf rfl hc40 rfl ?_
  refine dr_iload_n rfl rfl ?_
  refine dr_virt rfl rfl rfl rfl hA31.1 (f_X1_rankAt l hl hI27 ch_4 hA31 (a1 := a2) (by omega) (by omega)) (by decide) (by decide) (by decide) (Nat.le_of_ble_eq_true rfl) kNP (kIP (fun y41 y41f y41a y41b => ?_))
  obtain ⟨y41r, y41s⟩ := y41f
  refine dr_virt rfl rfl rfl rfl hc35.1 (f_X0_codeAt l hl hI27 q6 hc35 (a1 := y41) (by omega) (by omega)) (by decide) (by decide) (by decide) (Nat.le_of_ble_eq_true rfl) kNP (kIP (fun y42 y42f y42a y42b => ?_))
  obtain ⟨y42c, y42d, y42k, y42k2, y42k3⟩ := y42f
  have e9 : anChosen (σ.1 a1) a2 = y42 := fc_k qf32 n29a (by omega) y41r y41s y42k y42k2
  clear qf32
  exact dr_iret (ty := .int) rfl rfl rfl (by decide) (by decide) (QX_ok hI27 hF33 hS34 (by omega) (by unfold spChosen; (try rw [e9]); (repeat' split) <;> first | rfl | (exfalso; omega) | (apply Prod.ext <;> first | rfl | (dsimp only; omega) | (apply Prod.ext <;> first | rfl | (dsimp only; omega)))))
