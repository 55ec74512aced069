/-! ===== links ===== -/
def hoP (p : Int) : Int → Bool := fun c => decide (c % 100 ≤ p ∧ p ≤ c / 100)
theorem hoP_t {p c : Int} (h : c % 100 ≤ p ∧ p ≤ c / 100) : hoP p c = true := decide_eq_true h
theorem hoP_f {p c : Int} (h : ¬ (c % 100 ≤ p ∧ p ≤ c / 100)) : hoP p c = false := decide_eq_false h
noncomputable def gh (F : Int → Int) (p : Int) : Int := grt F (hoP p)
noncomputable def pl (F : Int → Int) (a : Int) : Nat → Int
  | 0 => a
  | n + 1 => gh F (pl F a n) / 100 + 1
def lkOK (F : Int → Int) (a b : Int) (n : Nat) : Prop := ∀ j : Nat, j < n → pl F a j ≤ b ∧ gh F (pl F a j) ≠ -1
def fnE (F : Int → Int) (a b : Int) : Prop := ∃ n : Nat, lkOK F a b n ∧ pl F a n ≤ b ∧ gh F (pl F a n) = -1
def lkX (F : Int → Int) (a b x : Int) : Prop := (0 ≤ x ∧ lkOK F a b x.toNat ∧ b < pl F a x.toNat) ∨ (x = -1 ∧ fnE F a b)
section LK
variable {F f g : Int → Int} {u w v v2 : List Value} {a b s n p x y i j p2 : Int}
theorem lk_m (h : 0 ≤ x) (h1 : lkOK F a b x.toNat) (h2 : b < pl F a x.toNat) : ¬ fnE F a b := fun ⟨n, k1, k2, k3⟩ => by
  rcases Nat.lt_trichotomy n x.toNat with q | q | q
  · exact (h1 n q).2 k3
  · rw [q] at k2; omega
  · have := (k1 _ q).1; omega
theorem lk_uq (h : lkX F a b x) (k : lkX F a b y) : x = y := by
  rcases h with ⟨h0, h1, h2⟩ | ⟨h0, h1⟩
  · rcases k with ⟨k0, k1, k2⟩ | ⟨k0, k1⟩
    · rcases Int.lt_trichotomy x y with q | q | q
      · have := (k1 x.toNat (by omega)).1; omega
      · exact q
      · have := (h1 y.toNat (by omega)).1; omega
    · exact absurd k1 (lk_m h0 h1 h2)
  · rcases k with ⟨k0, k1, k2⟩ | ⟨k0, k1⟩
    · exact absurd h1 (lk_m k0 k1 k2)
    · omega
noncomputable def anLinks (F : Int → Int) (a b : Int) : Int := Classical.epsilon (fun x : Int => lkX F a b x)
theorem links_e (h : lkX F a b x) : anLinks F a b = x := lk_uq (Classical.epsilon_spec (p := fun x : Int => lkX F a b x) ⟨x, h⟩) h
noncomputable def anLink (F : Int → Int) (a b k : Int) : Int := if anLinks F a b ≤ k then -1 else gh F (pl F a k.toNat)
/-- the greatest rank that holds a place -/
def lhI (s : Int) (u : List Value) (p i : Int) : Prop := ∀ j : Int, i < j → j < s → ¬ (cv u j % 100 ≤ p ∧ p ≤ cv u j / 100)
theorem lh_0 (e : i = s - 1) : lhI s u p i := fun j j0 j1 => by omega
theorem lh_s (h : lhI s u p i) (hn : ¬ (cv u i % 100 ≤ p ∧ p ≤ cv u i / 100)) (e : x = i - 1) : lhI s u p x := fun j j0 j1 => by
  by_cases q : j = i
  · rw [q]; exact hn
  · exact h j (by omega) j1
def lhP (s : Int) (u : List Value) (p x : Int) : Prop := (x = -1 ∧ ∀ j : Int, 0 ≤ j → j < s → ¬ (cv u j % 100 ≤ p ∧ p ≤ cv u j / 100)) ∨ (0 ≤ x ∧ x < s ∧ (cv u x % 100 ≤ p ∧ p ≤ cv u x / 100) ∧ ∀ j : Int, x < j → j < s → ¬ (cv u j % 100 ≤ p ∧ p ≤ cv u j / 100))
theorem lh_no (h : lhP s u p x) (hr : Rep (cv u) (cv w) s F) (e : x = -1) : gh F p = -1 := by
  rcases h with ⟨-, h⟩ | ⟨h, -⟩
  · exact grt_no (fun c hc => by
      obtain ⟨j, j0, j1, rfl⟩ := Rep_ex hr hc
      exact hoP_f (h j j0 j1))
  · omega
theorem lh_y (h : lhP s u p x) (hr : Rep (cv u) (cv w) s F) (ht : Srt (cv u) s) (e : x ≠ -1) : (0 ≤ x ∧ x < s) ∧ gh F p = cv u x ∧ cv u x % 100 ≤ p ∧ p ≤ cv u x / 100 := by
  rcases h with ⟨h, -⟩ | ⟨h0, h1, h2, h3⟩
  · exact absurd h e
  · refine ⟨⟨h0, h1⟩, grt_eq ⟨(Rep_yes hr h0 h1 rfl).2.1, hoP_t h2, fun c hc hp => ?_⟩, h2⟩
    obtain ⟨j, j0, j1, rfl⟩ := Rep_ex hr hc
    by_cases q : x < j
    · exact absurd (of_decide_eq_true hp) (h3 j q j1)
    · by_cases q2 : j = x
      · rw [q2]; exact Int.le_refl _
      · have := ht j x j0 (by omega) h1; omega
def flP (F : Int → Int) (u v : List Value) (s a b n p : Int) : Prop := lkOK F a b n.toNat ∧ p = pl F a n.toNat ∧ (n = 0 ∨ ∃ r : Int, n - 1 ≤ r ∧ r < s ∧ p = cv u r / 100 + 1) ∧ ∀ j : Int, 0 ≤ j → j < n → (0 ≤ cv v j ∧ cv v j < s) ∧ cv u (cv v j) = gh F (pl F a j.toNat)
theorem fl_0 : flP F u v s a b 0 a := ⟨fun j h => absurd h (Nat.not_lt_zero _), rfl, Or.inl rfl, fun j h0 h1 => by omega⟩
theorem fl_y (ht : Srt (cv u) s) (h : flP F u v s a b n p) (n0 : 0 ≤ n) (hb : p ≤ b) (hx : (0 ≤ x ∧ x < s) ∧ gh F p = cv u x ∧ cv u x % 100 ≤ p ∧ p ≤ cv u x / 100) (hne : cv u x ≠ -1) (hs : stt v v2 n x) (he : p2 = cv u x / 100 + 1) : flP F u v2 s a b (n + 1) p2 := by
  obtain ⟨⟨x0, x1⟩, hg, hh⟩ := hx
  refine ⟨fun j hj => ?_, ?_, Or.inr ⟨x, ?_, x1, he⟩, fun j j0 j1 => ?_⟩
  · by_cases q : j < n.toNat
    · exact h.1 j q
    · rw [show j = n.toNat by omega, ← h.2.1, hg]; exact ⟨hb, hne⟩
  · rw [show (n + 1).toNat = n.toNat + 1 by omega]
    show p2 = gh F (pl F a n.toNat) / 100 + 1
    rw [← h.2.1, hg, he]
  · rcases h.2.2.1 with e | ⟨r, r0, r1, e⟩
    · omega
    · by_cases q : x ≤ r
      · have : cv u x ≤ cv u r := by
          by_cases q2 : x = r
          · rw [q2]; exact Int.le_refl _
          · have := ht x r x0 (by omega) r1; omega
        omega
      · omega
  · by_cases q : j = n
    · rw [q, stt_at hs n0, ← h.2.1, hg]; exact ⟨⟨x0, x1⟩, rfl⟩
    · rw [stt_ne hs j0 q]; exact h.2.2.2 j j0 (by omega)
theorem fl_8 (hr : Rep (cv u) (cv w) s F) (ht : Srt (cv u) s) (h : flP F u v s a b n p) (hs : s ≤ 8) (hn : 8 ≤ n) : gh F p = -1 := grt_no (fun c hc => by
  obtain ⟨j, j0, j1, rfl⟩ := Rep_ex hr hc
  rcases h.2.2.1 with e | ⟨r, r0, r1, e⟩
  · omega
  · refine hoP_f (fun q => ?_)
    have : cv u j ≤ cv u r := by
      by_cases q2 : j = r
      · rw [q2]; exact Int.le_refl _
      · have := ht j r j0 (by omega) r1; omega
    omega)
def fyE (F : Int → Int) (u v : List Value) (s a b n : Int) : Prop := (lkOK F a b n.toNat ∧ b < pl F a n.toNat) ∧ ∀ j : Int, 0 ≤ j → j < n → (0 ≤ cv v j ∧ cv v j < s) ∧ cv u (cv v j) = gh F (pl F a j.toNat)
theorem fl_t (h : flP F u v s a b n p) (hb : b < p) : fyE F u v s a b n := ⟨⟨h.1, by rw [← h.2.1]; exact hb⟩, h.2.2.2⟩
theorem fl_f (h : flP F u v s a b n p) (hb : p ≤ b) (hg : gh F p = -1) : fnE F a b := ⟨n.toNat, h.1, by rw [← h.2.1]; exact hb, by rw [← h.2.1]; exact hg⟩
theorem fl_k {k : Int} (h : fyE F u v s a b n) (n0 : 0 ≤ n) (k0 : 0 ≤ k) (y1 : 0 ≤ k → k < n → y = cv v k) (y2 : k < 0 ∨ n ≤ k → y = -1) (x1 : 0 ≤ y → y < s → x = cv u y) (x2 : y < 0 → x = -1) : anLink F a b k = x := by
  have e := links_e (Or.inl ⟨n0, h.1⟩)
  unfold anLink
  rw [e]
  by_cases q : k < n
  · obtain ⟨⟨p0, p1⟩, p2⟩ := h.2 k k0 q
    have e := y1 k0 q
    rw [if_neg (by omega), ← p2, x1 (by omega) (by omega), e]
  · rw [if_pos (by omega)]
    have e := y2 (Or.inr (by omega))
    rw [x2 (by omega)]
theorem fl_z {k : Int} (h : fnE F a b) (k0 : 0 ≤ k) : anLink F a b k = -1 := by
  unfold anLink
  rw [links_e (Or.inr ⟨rfl, h⟩), if_pos (by omega)]
end LK
noncomputable def spLinks (σ : St) (b a e : Int) : Int × Int × St := if b < 0 ∨ 2 < b then (1, 0, σ) else if a < 0 ∨ e < a ∨ 99 < e then (2, 0, σ) else (0, anLinks (σ.1 b) a e, σ)
noncomputable def spLink (σ : St) (b a e k : Int) : Int × Int × St := if b < 0 ∨ 2 < b then (1, 0, σ) else if (a < 0 ∨ e < a ∨ 99 < e) ∨ k < 0 then (2, 0, σ) else (0, anLink (σ.1 b) a e k, σ)

set_option maxHeartbeats 4000000 in
set_option maxRecDepth 100000 in
/-- Earlyends$Book.lastHolder -/
theorem f_X0_lastHolder (l : Launch) (hl : l.stackTraces = false) {kc km : Int} {h : dm_H} (hI : Inv kc km h) {b0 : Nat} (hb0 : isBk b0) {s0 m0 : Int} {u0 w0 : List Value} (hC0 : CA b0 s0 m0 u0 w0 h) {a1 : Int} (h1a : -2147483648 ≤ a1) (h1b : a1 ≤ 2147483647) : dm_M l 27 2 0 0 [.ref b0, dI (a1)] h (QP h (RI (fun x => -1 ≤ x ∧ x ≤ 7 ∧ lhP s0 u0 a1 x)) []) := by
  obtain ⟨hq0, hu0, hw0, hau0, haw0, hs0a, hs0b, hm0a, hm0b⟩ := id hC0
  refine dm_M_of dk_27 hl rfl (Nat.le_of_ble_eq_true rfl) ?_
  show dm_W (fun _ _ _ => True) (dm_P (QP h (RI (fun x => -1 ≤ x ∧ x ≤ 7 ∧ lhP s0 u0 a1 x)) []) 0 0) l 27 2 0 0 0 [some (.ref b0), some (dI (a1)), none] [] h 0 0
  refine di_aload_n rfl rfl ?_
  refine dr_getf rfl hq0 rfl ?_
  refine di_const rfl ?_
  refine di_isub rfl ?_
  refine di_istore_n (ls2 := [some (.ref b0), some (dI (a1)), some (dI ((s0 - 1)))]) rfl rfl rfl ?_
  have L2 : ∀ (n : Nat) (i1 : Int), (i1 + 1).toNat < n → -1 ≤ i1 → i1 ≤ 7 → i1 ≤ s0 - 1 → lhI s0 u0 a1 i1 → dm_W (fun _ _ _ => True) (dm_P (QP h (RI (fun x => -1 ≤ x ∧ x ≤ 7 ∧ lhP s0 u0 a1 x)) []) 0 0) l 27 2 0 0 7 [some (.ref b0), some (dI (a1)), some (dI (i1))] [] h 0 0 := by
    intro n
    induction n with
    | zero => intro i1 hm; exact absurd hm (Nat.not_lt_zero _)
    | succ n ih =>
      intro i1 hm6 hb3 hb4 hx5 PL
      have ihL2 := ih
      clear ih
      refine dr_iload_n rfl rfl ?_
      refine di_if_lt rfl rfl (by omega) (by omega) (fun c7 => ?_) (fun c7 => ?_)
      · skip
        refine di_const rfl ?_
        exact dr_iret (ty := .int) rfl rfl rfl (by decide) (by decide) ⟨rfl, (-1), ⟨by omega, by omega, Or.inl ⟨rfl, fun j9 h1 h2 => PL j9 (by omega) h2⟩⟩, by omega, by omega, rfl⟩
      · skip
        refine di_aload_n rfl rfl ?_
        refine dr_iload_n rfl rfl ?_
        refine dr_iload_n rfl rfl ?_
        refine dr_virt rfl rfl rfl rfl hq0 (f_X0_doesHold l hl hI (b0 := b0) hb0 (s0 := s0) (m0 := m0) (u0 := u0) (w0 := w0) ⟨hq0, hu0, hw0, hau0, haw0, by omega, by omega, by omega, by omega⟩ (a1 := i1) (by omega) (by omega) (a2 := a1) (by omega) (by omega) (by omega) (by omega)) (by decide) (by decide) (by decide) (Nat.le_of_ble_eq_true rfl) kNP (kIP (fun y8 y8f y8a y8b => ?_))
        have y8g : 0 ≤ y8 ∧ y8 ≤ 1 ∧ (y8 = 1 → cv u0 (i1) % 100 ≤ (a1) ∧ (a1) ≤ cv u0 (i1) / 100) ∧ (y8 = 0 → (a1) < cv u0 (i1) % 100 ∨ cv u0 (i1) / 100 < (a1)) := y8f
        clear y8f
        refine di_if_eq rfl rfl (by omega) (by omega) (fun c10 => ?_) (fun c10 => ?_)
        · skip
          refine di_iinc (ls2 := [some (.ref b0), some (dI (a1)), some (dI ((i1 + (-1))))]) rfl rfl rfl rfl ?_
          refine dr_goto rfl rfl ?_
          exact ihL2 ((i1 + (-1))) (by omega) (by omega) (by omega) (by omega)  (lh_s PL (by omega) (show (i1 + (-1)) = i1 - 1 by omega))
        · skip
          refine dr_iload_n rfl rfl ?_
          exact dr_iret (ty := .int) rfl rfl rfl (by decide) (by decide) ⟨rfl, i1, ⟨by omega, by omega, Or.inr ⟨by omega, by omega, by omega, PL⟩⟩, by omega, by omega, rfl⟩
  exact L2 _ ((s0 - 1)) (Nat.lt_succ_self _) (by omega) (by omega) (by omega)  (lh_0 (by omega))
set_option maxHeartbeats 4000000 in
set_option maxRecDepth 100000 in
theorem f_X1_fillLinks (l : Launch) (hl : l.stackTraces = false) {kc km : Int} {h : dm_H} (hI : Inv kc km h) {b : Nat} (hb : isCh b) {b1 : Nat} (hb1 : isBk b1) {s m : Int} {u w : List Value} (hC : CA b1 s m u w h) {F : Int → Int} (hr : Rep (cv u) (cv w) s F) (ht : Srt (cv u) s) {a2 : Int} (h2a : -1 ≤ a2) (h2b : a2 ≤ 99) {a3 : Int} (h3a : -1 ≤ a3) (h3b : a3 ≤ 99) : dm_M l 32 3 0 0 [.ref b, .ref b1, dI a2, dI a3] h (QCh kc km h b (fun n v r => ∃ x : Int, ((x = 1 → fyE F u v s a2 a3 n) ∧ (x = 0 → fnE F a2 a3)) ∧ 0 ≤ x ∧ x ≤ 1 ∧ r = some (dI x))) := by
  refine dm_M_of dk_32 hl rfl (Nat.le_of_ble_eq_true rfl) ?_
  show dm_W (fun _ _ _ => True) (dm_P (QCh kc km h b (fun n v r => ∃ x : Int, ((x = 1 → fyE F u v s a2 a3 n) ∧ (x = 0 → fnE F a2 a3)) ∧ 0 ≤ x ∧ x ≤ 1 ∧ r = some (dI x))) 0 0) l 32 3 0 0 0 [some (.ref b), some (.ref b1), some (dI a2), some (dI a3), none, none, none] [] h 0 0
  obtain ⟨n0, v0, c1, c2, c3, -, -⟩ := I_chA hI hb
  have s0 := hC.2.2.2.2.2.1
  have s8 := hC.2.2.2.2.2.2.1
  refine di_aload_n rfl rfl ?_
  refine di_const rfl ?_
  refine pfX rfl c1 (Nat.le_of_ble_eq_true rfl) rfl hI (lt_ch hb) (T37_ch hb (by omega)) (fun h1 hI1 hk1 hc1 => ?_)
  have hA1 : ChA b 0 v0 h1 := ⟨hc1, (hk1.2 (b + 1) (by omega)).trans c2, c3, by omega, by omega⟩
  have hK1 : FrK b h h1 := FrK_of hk1 (Or.inl rfl)
  refine dr_iload_n rfl rfl ?_
  refine di_istore (ls2 := [some (.ref b), some (.ref b1), some (dI a2), some (dI a3), some (dI a2), none, none]) rfl rfl rfl ?_
  refine di_const rfl ?_
  refine di_istore (ls2 := [some (.ref b), some (.ref b1), some (dI a2), some (dI a3), some (dI a2), some (dI 0), none]) rfl rfl rfl ?_
  have L : ∀ (k : Nat) (p n : Int) (v : List Value) (h2 : dm_H), (8 - n).toNat < k → -1 ≤ p → p ≤ 100 → 0 ≤ n → n ≤ 8 → Inv kc km h2 → FrK b h h2 → ChA b n v h2 → flP F u v s a2 a3 n p → dm_W (fun _ _ _ => True) (dm_P (QCh kc km h b (fun n v r => ∃ x : Int, ((x = 1 → fyE F u v s a2 a3 n) ∧ (x = 0 → fnE F a2 a3)) ∧ 0 ≤ x ∧ x ≤ 1 ∧ r = some (dI x))) 0 0) l 32 3 0 0 11 [some (.ref b), some (.ref b1), some (dI a2), some (dI a3), some (dI p), some (dI n), none] [] h2 0 0 := by
    intro k
    induction k with
    | zero => intro p n v h2 hm; exact absurd hm (Nat.not_lt_zero _)
    | succ k ih =>
      intro p n v h2 hm p0 p1 nn0 nn1 hI2 hK2 hA2 PF
      have hC2 := CA_K hK2 hb hb1 hC
      have tail : (p ≤ a3 → gh F p = -1) → dm_W (fun _ _ _ => True) (dm_P (QCh kc km h b (fun n v r => ∃ x : Int, ((x = 1 → fyE F u v s a2 a3 n) ∧ (x = 0 → fnE F a2 a3)) ∧ 0 ≤ x ∧ x ≤ 1 ∧ r = some (dI x))) 0 0) l 32 3 0 0 62 [some (.ref b), some (.ref b1), some (dI a2), some (dI a3), some (dI p), some (dI n), none] [] h2 0 0 := by
        intro hg
        refine dr_iload rfl rfl ?_
        refine dr_iload_n rfl rfl ?_
        refine di_icmp_le rfl rfl (by omega) (by omega) (by omega) (by omega) (fun c => ?_) (fun c => ?_)
        · refine di_const rfl ?_
          exact dr_iret (ty := .boolean) rfl rfl (nar_z (by omega) (by omega)) (by decide) (by decide) ⟨hI2, hK2, n, v, hA2, 0, ⟨fun e => absurd e (by decide), fun _ => fl_f PF c (hg c)⟩, by omega, by omega, rfl⟩
        · refine di_const rfl ?_
          refine dr_goto rfl rfl ?_
          exact dr_iret (ty := .boolean) rfl rfl (nar_z (by omega) (by omega)) (by decide) (by decide) ⟨hI2, hK2, n, v, hA2, 1, ⟨fun _ => fl_t PF (by omega), fun e => absurd e (by decide)⟩, by omega, by omega, rfl⟩
      refine dr_iload rfl rfl ?_
      refine di_bipush rfl (by decide) ?_
      refine di_icmp_ge rfl rfl (by omega) (by omega) (by omega) (by omega) (fun c => ?_) (fun c => ?_)
      · exact tail (fun _ => fl_8 hr ht PF s8 c)
      refine dr_iload rfl rfl ?_
      refine dr_iload_n rfl rfl ?_
      refine di_icmp_gt rfl rfl (by omega) (by omega) (by omega) (by omega) (fun c2 => ?_) (fun c2 => ?_)
      · exact tail (fun q => absurd q (by omega))
      refine di_aload_n rfl rfl ?_
      refine dr_iload rfl rfl ?_
      refine dr_virt rfl rfl rfl rfl hC2.1 (f_X0_lastHolder l hl hI2 hb1 hC2 (a1 := p) (by omega) (by omega)) (by decide) (by decide) (by decide) (Nat.le_of_ble_eq_true rfl) kNP (kIP (fun x xf xa xb => ?_))
      obtain ⟨xc, xd, xk⟩ := xf
      refine di_istore (ls2 := [some (.ref b), some (.ref b1), some (dI a2), some (dI a3), some (dI p), some (dI n), some (dI x)]) rfl rfl rfl ?_
      refine dr_iload rfl rfl ?_
      refine di_const rfl ?_
      refine di_icmp_ne rfl rfl (by omega) (by omega) (by omega) (by omega) (fun c3 => ?_) (fun c3 => ?_)
      · have hx := lh_y xk hr ht c3
        have h9 := Rep_at hr hx.1.1 hx.1.2
        refine di_aload_n rfl rfl ?_
        refine dr_iload rfl rfl ?_
        refine dr_virt rfl rfl rfl rfl hA2.1 (f_X1_append l hl hI2 hb hA2 (by omega) (a1 := x) (by omega) (by omega)) (by decide) (by decide) (by decide) (Nat.le_of_ble_eq_true rfl) kChN (kChV (fun h3 hI3 hK3 n3 v3 hA3 q3 => ?_))
        obtain ⟨en3, hs3⟩ := q3
        subst en3
        have hK4 := FrK_tr hK2 hK3
        have hC3 := CA_K hK4 hb hb1 hC
        refine di_aload_n rfl rfl ?_
        refine dr_iload rfl rfl ?_
        refine dr_virt rfl rfl rfl rfl hC3.1 (f_X0_toAt l hl hI3 hb1 hC3 (a1 := x) (by omega) (by omega)) (by decide) (by decide) (by decide) (Nat.le_of_ble_eq_true rfl) kNP (kIP (fun t tf ta tb => ?_))
        obtain ⟨tc, td, tk, tk2, tk3⟩ := tf
        have te := tk hx.1.1 hx.1.2
        refine di_const rfl ?_
        refine di_iadd rfl ?_
        refine di_istore (ls2 := [some (.ref b), some (.ref b1), some (dI a2), some (dI a3), some (dI (t + 1)), some (dI n), some (dI x)]) rfl rfl rfl ?_
        refine di_iinc (ls2 := [some (.ref b), some (.ref b1), some (dI a2), some (dI a3), some (dI (t + 1)), some (dI (n + 1)), some (dI x)]) rfl rfl rfl rfl ?_
        refine dr_goto rfl rfl ?_
        refine dm_wk (ls2 := [some (.ref b), some (.ref b1), some (dI a2), some (dI a3), some (dI (t + 1)), some (dI (n + 1)), none]) ⟨Or.inr rfl, Or.inr rfl, Or.inr rfl, Or.inr rfl, Or.inr rfl, Or.inr rfl, Or.inl rfl, trivial⟩ ?_
        exact ih (t + 1) (n + 1) v3 h3 (by omega) (by omega) (by omega) (by omega) (by omega) hI3 hK4 hA3 (fl_y ht PF nn0 (by omega) hx (by omega) hs3 (by rw [te]))
      · refine di_const rfl ?_
        exact dr_iret (ty := .boolean) rfl rfl (nar_z (by omega) (by omega)) (by decide) (by decide) ⟨hI2, hK2, n, v, hA2, 0, ⟨fun e => absurd e (by decide), fun _ => fl_f PF (by omega) (lh_no xk hr (by omega))⟩, by omega, by omega, rfl⟩
  exact L _ a2 0 v0 h1 (Nat.lt_succ_self _) (by omega) (by omega) (by omega) (by omega) hI1 hK1 hA1 fl_0
set_option maxHeartbeats 4000000 in
set_option maxRecDepth 100000 in
/-- Earlyends.links -/
theorem c_X6_links (l : Launch) (hl : l.stackTraces = false) {kc km : Int} {h : dm_H} (hI : Inv kc km h) {B : Int} {σ : St} (hS : CSt B σ h) (hB : B ≤ 80000) {a1 : Int} (h1a : -2147483648 ≤ a1) (h1b : a1 ≤ 2147483647) {a2 : Int} (h2a : -2147483648 ≤ a2) (h2b : a2 ≤ 2147483647) {a3 : Int} (h3a : -2147483648 ≤ a3) (h3b : a3 ≤ 2147483647) : dm_M l 97 6 8 48 [.ref 0, dI (a1), dI (a2), dI (a3)] h (QX kc km h B XB XA (spLinks σ a1 a2 a3)) := by
  refine dm_M_of dk_97 hl rfl (Nat.le_of_ble_eq_true rfl) ?_
  show dm_W (fun _ _ _ => True) (dm_P (QX kc km h B XB XA (spLinks σ a1 a2 a3)) 8 48) l 97 6 8 48 0 [some (.ref 0), some (dI (a1)), some (dI (a2)), some (dI (a3)), none] [] h 0 0
  refine di_aload_n rfl rfl ?_
  refine dr_iload_n rfl rfl ?_
  obtain ⟨r1, c2, c3, hc4⟩ := I_cls hI
  refine dr_virt rfl rfl rfl rfl hc4 (f_X6_bookAt l hl hI (a1 := a1) (by omega) (by omega)) (by decide) (by decide) (by decide) (Nat.le_of_ble_eq_true rfl) (fun Y h9 q9 => by obtain ⟨rfl, rfl, hC⟩ := q9; exact dr_out rfl (by decide) (by decide) (QX_1 (a := 0) hI FrC_rf hS (by omega) (by unfold spLinks; (repeat' split) <;> first | rfl | (exfalso; omega) | (apply Prod.ext <;> first | rfl | (dsimp only; omega) | (apply Prod.ext <;> first | rfl | (dsimp only; omega)))))) (kPXR (fun r5 ⟨q6, q7, q8, q10⟩ => ?_))
  refine di_astore (ls2 := [some (.ref 0), some (dI (a1)), some (dI (a2)), some (dI (a3)), some (.ref r5)]) rfl rfl rfl ?_
  refine dr_iload_n rfl rfl ?_
  refine dr_iload_n rfl rfl ?_
  refine dr_stat rfl rfl rfl rfl (f_X6_needStretch l hl hI (a0 := a2) (by omega) (by omega) (a1 := a3) (by omega) (by omega)) (by decide) (by decide) (by decide) (Nat.le_of_ble_eq_true rfl) (fun Y h9 q9 => by obtain ⟨rfl, rfl, hC⟩ := q9; exact dr_out rfl (by decide) (by decide) (QX_2 (a := 0) hI FrC_rf hS (by omega) (by unfold spLinks; (repeat' split) <;> first | rfl | (exfalso; omega) | (apply Prod.ext <;> first | rfl | (dsimp only; omega) | (apply Prod.ext <;> first | rfl | (dsimp only; omega)))))) (kPXV (fun q11 => ?_))
  refine di_aload_n rfl rfl ?_
  refine dr_getf rfl hc4 rfl ?_
  refine di_aload rfl rfl ?_
  refine dr_iload_n rfl rfl ?_
  refine dr_iload_n rfl rfl ?_
  obtain ⟨s12, m13, u14, w15, hc16, hr17, ht18, ma19, mb20⟩ := CSt_bk hS (k := a1) q8 q10 q7
  have sq21 : 0 ≤ s12 ∧ s12 ≤ 8 := ⟨hc16.2.2.2.2.2.1, hc16.2.2.2.2.2.2.1⟩
  have hz22 : zF (σ.1 a1) = s12 := zF_eq hr17
  obtain ⟨n23, v24, hch25⟩ := I_chA hI (b := 4) ch_4
  refine dr_virt rfl rfl rfl rfl hch25.1 (f_X1_fillLinks l hl hI (b := 4) ch_4 q6 hc16 hr17 ht18 (a2 := a2) (by omega) (by omega) (a3 := a3) (by omega) (by omega)) (by decide) (by decide) (by decide) (Nat.le_of_ble_eq_true rfl) kChN (kChI (fun h26 hI27 hK28 n29 v30 y36 hA31 qf32 y36a y36b => ?_))
  have hF33 := FrC_tr FrC_rf (FrC_K hK28 ch_4)
  have hS34 := CSt_K hS hK28 ch_4
  have hc35 := CA_K hK28 ch_4 q6 hc16
  have n29a := hA31.2.2.2.1
  have n29b := hA31.2.2.2.2
  refine di_if_eq rfl rfl (by omega) (by omega) (fun c37 => ?_) (fun c37 => ?_)
  · skip
    refine di_const rfl ?_
    have e9 : anLinks (σ.1 a1) a2 a3 = -1 := links_e (Or.inr ⟨rfl, qf32.2 (by omega)⟩)
    clear qf32
    exact dr_iret (ty := .int) rfl rfl rfl (by decide) (by decide) (QX_ok hI27 hF33 hS34 (by omega) (by unfold spLinks; (try rw [e9]); (repeat' split) <;> first | rfl | (exfalso; omega) | (apply Prod.ext <;> first | rfl | (dsimp only; omega) | (apply Prod.ext <;> first | rfl | (dsimp only; omega)))))
  · skip
    refine di_aload_n rfl rfl ?_
    obtain ⟨r38, c39, c40, hc41⟩ := I_cls hI27
    refine dr_getf rfl hc41 rfl ?_
    refine dr_getf rfl hA31.1 rfl ?_
    refine dr_goto rfl rfl ?_
    have e9 : anLinks (σ.1 a1) a2 a3 = n29 := links_e (Or.inl ⟨n29a, (qf32.1 (by omega)).1⟩)
    clear qf32
    exact dr_iret (ty := .int) rfl rfl rfl (by decide) (by decide) (QX_ok hI27 hF33 hS34 (by omega) (by unfold spLinks; (try rw [e9]); (repeat' split) <;> first | rfl | (exfalso; omega) | (apply Prod.ext <;> first | rfl | (dsimp only; omega) | (apply Prod.ext <;> first | rfl | (dsimp only; omega)))))
set_option maxHeartbeats 4000000 in
set_option maxRecDepth 100000 in
/-- Earlyends.link -/
theorem c_X6_link (l : Launch) (hl : l.stackTraces = false) {kc km : Int} {h : dm_H} (hI : Inv kc km h) {B : Int} {σ : St} (hS : CSt B σ h) (hB : B ≤ 80000) {a1 : Int} (h1a : -2147483648 ≤ a1) (h1b : a1 ≤ 2147483647) {a2 : Int} (h2a : -2147483648 ≤ a2) (h2b : a2 ≤ 2147483647) {a3 : Int} (h3a : -2147483648 ≤ a3) (h3b : a3 ≤ 2147483647) {a4 : Int} (h4a : -2147483648 ≤ a4) (h4b : a4 ≤ 2147483647) : dm_M l 98 6 8 48 [.ref 0, dI (a1), dI (a2), dI (a3), dI (a4)] h (QX kc km h B XB XA (spLink σ a1 a2 a3 a4)) := by
  refine dm_M_of dk_98 hl rfl (Nat.le_of_ble_eq_true rfl) ?_
  show dm_W (fun _ _ _ => True) (dm_P (QX kc km h B XB XA (spLink σ a1 a2 a3 a4)) 8 48) l 98 6 8 48 0 [some (.ref 0), some (dI (a1)), some (dI (a2)), some (dI (a3)), some (dI (a4)), none] [] h 0 0
  refine di_aload_n rfl rfl ?_
  refine dr_iload_n rfl rfl ?_
  obtain ⟨r1, c2, c3, hc4⟩ := I_cls hI
  refine dr_virt rfl rfl rfl rfl hc4 (f_X6_bookAt l hl hI (a1 := a1) (by omega) (by omega)) (by decide) (by decide) (by decide) (Nat.le_of_ble_eq_true rfl) (fun Y h9 q9 => by obtain ⟨rfl, rfl, hC⟩ := q9; exact dr_out rfl (by decide) (by decide) (QX_1 (a := 0) hI FrC_rf hS (by omega) (by unfold spLink; (repeat' split) <;> first | rfl | (exfalso; omega) | (apply Prod.ext <;> first | rfl | (dsimp only; omega) | (apply Prod.ext <;> first | rfl | (dsimp only; omega)))))) (kPXR (fun r5 ⟨q6, q7, q8, q10⟩ => ?_))
  refine di_astore (ls2 := [some (.ref 0), some (dI (a1)), some (dI (a2)), some (dI (a3)), some (dI (a4)), some (.ref r5)]) rfl rfl rfl ?_
  refine dr_iload_n rfl rfl ?_
  refine dr_iload_n rfl rfl ?_
  refine dr_stat rfl rfl rfl rfl (f_X6_needStretch l hl hI (a0 := a2) (by omega) (by omega) (a1 := a3) (by omega) (by omega)) (by decide) (by decide) (by decide) (Nat.le_of_ble_eq_true rfl) (fun Y h9 q9 => by obtain ⟨rfl, rfl, hC⟩ := q9; exact dr_out rfl (by decide) (by decide) (QX_2 (a := 0) hI FrC_rf hS (by omega) (by unfold spLink; (repeat' split) <;> first | rfl | (exfalso; omega) | (apply Prod.ext <;> first | rfl | (dsimp only; omega) | (apply Prod.ext <;> first | rfl | (dsimp only; omega)))))) (kPXV (fun q11 => ?_))
  refine dr_iload rfl rfl ?_
  refine dr_stat rfl rfl rfl rfl (f_X6_needNotBelowZero l hl hI (a0 := a4) (by omega) (by omega)) (by decide) (by decide) (by decide) (Nat.le_of_ble_eq_true rfl) (fun Y h9 q9 => by obtain ⟨rfl, rfl, hC⟩ := q9; exact dr_out rfl (by decide) (by decide) (QX_2 (a := 0) hI FrC_rf hS (by omega) (by unfold spLink; (repeat' split) <;> first | rfl | (exfalso; omega) | (apply Prod.ext <;> first | rfl | (dsimp only; omega) | (apply Prod.ext <;> first | rfl | (dsimp only; omega)))))) (kPXV (fun q12 => ?_))
  refine di_aload_n rfl rfl ?_
  refine dr_getf rfl hc4 rfl ?_
  refine di_aload rfl rfl ?_
  refine dr_iload_n rfl rfl ?_
  refine dr_iload_n rfl rfl ?_
  obtain ⟨s13, m14, u15, w16, hc17, hr18, ht19, ma20, mb21⟩ := CSt_bk hS (k := a1) q8 q10 q7
  have sq22 : 0 ≤ s13 ∧ s13 ≤ 8 := ⟨hc17.2.2.2.2.2.1, hc17.2.2.2.2.2.2.1⟩
  have hz23 : zF (σ.1 a1) = s13 := zF_eq hr18
  obtain ⟨n24, v25, hch26⟩ := I_chA hI (b := 4) ch_4
  refine dr_virt rfl rfl rfl rfl hch26.1 (f_X1_fillLinks l hl hI (b := 4) ch_4 q6 hc17 hr18 ht19 (a2 := a2) (by omega) (by omega) (a3 := a3) (by omega) (by omega)) (by decide) (by decide) (by decide) (Nat.le_of_ble_eq_true rfl) kChN (kChI (fun h27 hI28 hK29 n30 v31 y37 hA32 qf33 y37a y37b => ?_))
  have hF34 := FrC_tr FrC_rf (FrC_K hK29 ch_4)
  have hS35 := CSt_K hS hK29 ch_4
  have hc36 := CA_K hK29 ch_4 q6 hc17
  have n30a := hA32.2.2.2.1
  have n30b := hA32.2.2.2.2
  refine di_if_eq rfl rfl (by omega) (by omega) (fun c38 => ?_) (fun c38 => ?_)
  · skip
    refine di_const rfl ?_
    have e9 : anLink (σ.1 a1) a2 a3 a4 = -1 := fl_z (qf33.2 (by omega)) (by omega)
    clear qf33
    exact dr_iret (ty := .int) rfl rfl rfl (by decide) (by decide) (QX_ok hI28 hF34 hS35 (by omega) (by unfold spLink; (try rw [e9]); (repeat' split) <;> first | rfl | (exfalso; omega) | (apply Prod.ext <;> first | rfl | (dsimp only; omega) | (apply Prod.ext <;> first | rfl | (dsimp only; omega)))))
  · skip
    refine di_aload rfl rfl ?_
    refine di_aload_n rfl rfl ?_
    obtain ⟨r39, c40, c41, hc42⟩ := I_cls hI28
    refine dr_getf rfl hc42 rfl ?_
    refine dr_iload rfl rfl ?_
    refine dr_virt rfl rfl rfl rfl hA32.1 (f_X1_rankAt l hl hI28 ch_4 hA32 (a1 := a4) (by omega) (by omega)) (by decide) (by decide) (by decide) (Nat.le_of_ble_eq_true rfl) kNP (kIP (fun y43 y43f y43a y43b => ?_))
    obtain ⟨y43r, y43s⟩ := y43f
    refine dr_virt rfl rfl rfl rfl hc36.1 (f_X0_codeAt l hl hI28 q6 hc36 (a1 := y43) (by omega) (by omega)) (by decide) (by decide) (by decide) (Nat.le_of_ble_eq_true rfl) kNP (kIP (fun y44 y44f y44a y44b => ?_))
    obtain ⟨y44c, y44d, y44k, y44k2, y44k3⟩ := y44f
    refine dr_goto rfl rfl ?_
    have e9 : anLink (σ.1 a1) a2 a3 a4 = y44 := fl_k (qf33.1 (by omega)) n30a (by omega) y43r y43s y44k y44k2
    clear qf33
    exact dr_iret (ty := .int) rfl rfl rfl (by decide) (by decide) (QX_ok hI28 hF34 hS35 (by omega) (by unfold spLink; (try rw [e9]); (repeat' split) <;> first | rfl | (exfalso; omega) | (apply Prod.ext <;> first | rfl | (dsimp only; omega) | (apply Prod.ext <;> first | rfl | (dsimp only; omega)))))
