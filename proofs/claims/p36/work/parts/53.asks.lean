/-! ===== more asking calls, their answers told ===== -/
theorem soP_0 {a x : Int} : soP 0 a x = true ↔ x < a := by unfold soP; rw [decide_eq_true_iff]; omega
theorem soP_1 {a x : Int} : soP 1 a x = true ↔ x < a + 1 := by unfold soP; rw [decide_eq_true_iff]; omega
theorem soP_2 {a x : Int} : soP 2 a x = true ↔ a ≤ x := by unfold soP; rw [decide_eq_true_iff]; omega
theorem soP_3 {a x : Int} : soP 3 a x = true ↔ a + 1 ≤ x := by unfold soP; rw [decide_eq_true_iff]; omega
section NRB
variable {f g F : Int → Int} {s c b y : Int} {P : Int → Bool}
theorem rg_lt (ht : Srt f s) (hb : blw f s c b) (hP : ∀ x, P x = true ↔ x < c) : rgP f s 0 b P := by
  have hg := blw_ge ht hb
  obtain ⟨b0, b1, b2, b3⟩ := hb
  refine ⟨Int.le_refl _, b1, fun j j0 j1 => ?_⟩
  rw [hP]
  refine ⟨fun q => ⟨j0, ?_⟩, fun q => b2 j j0 q.2⟩
  by_cases q2 : j < b
  · exact q2
  · have := hg j (by omega) j1; omega
theorem rg_ge (ht : Srt f s) (hb : blw f s c b) (hP : ∀ x, P x = true ↔ c ≤ x) : rgP f s b s P := by
  have hg := blw_ge ht hb
  obtain ⟨b0, b1, b2, b3⟩ := hb
  refine ⟨b0, Int.le_refl _, fun j j0 j1 => ?_⟩
  rw [hP]
  refine ⟨fun q => ⟨?_, j1⟩, fun q => hg j q.1 j1⟩
  by_cases q2 : j < b
  · have := b2 j j0 q2; omega
  · omega
theorem nr_g (hr : Rep f g s F) (ht : Srt f s) (hb : blw f s c b) (hP : ∀ x, P x = true ↔ x < c) (k1 : 0 ≤ b - 1 → b - 1 < s → y = f (b - 1)) (k2 : b - 1 < 0 → y = -1) : grt F P = y := by
  have hR := rg_lt ht hb hP
  have h1 := hb.2.1
  by_cases q : 0 < b
  · rw [dw_g hr ht hR q, k1 (by omega) (by omega)]
  · rw [(dw_no hr hR (by omega)).2, k2 (by omega)]
theorem nr_l (hr : Rep f g s F) (ht : Srt f s) (hb : blw f s c b) (hP : ∀ x, P x = true ↔ c ≤ x) (k1 : 0 ≤ b → b < s → y = f b) (k3 : s ≤ b → y = -1) : lst F P = y := by
  have hR := rg_ge ht hb hP
  have h0 := hb.1
  by_cases q : b < s
  · rw [dw_l hr ht hR q, k1 h0 q]
  · rw [(dw_no hr hR (by omega)).1, k3 (by omega)]
theorem nn_g (hr : Rep f g s F) (ht : Srt f s) (hb : blw f s c b) (hP : ∀ x, P x = true ↔ x < c) (k1 : 0 ≤ b - 1 → b - 1 < s → y = g (b - 1)) (k2 : b - 1 < 0 → y = -1) : F (grt F P) = y := by
  have hR := rg_lt ht hb hP
  have h1 := hb.2.1
  by_cases q : 0 < b
  · rw [dw_g hr ht hR q, k1 (by omega) (by omega)]; exact (Rep_yes hr (j := b - 1) (by omega) (by omega) rfl).1
  · rw [(dw_no hr hR (by omega)).2, k2 (by omega)]; exact Rep_neg hr (by omega)
theorem nn_l (hr : Rep f g s F) (ht : Srt f s) (hb : blw f s c b) (hP : ∀ x, P x = true ↔ c ≤ x) (k1 : 0 ≤ b → b < s → y = g b) (k3 : s ≤ b → y = -1) : F (lst F P) = y := by
  have hR := rg_ge ht hb hP
  have h0 := hb.1
  by_cases q : b < s
  · rw [dw_l hr ht hR q, k1 h0 q]; exact (Rep_yes hr h0 q rfl).1
  · rw [(dw_no hr hR (by omega)).1, k3 (by omega)]; exact Rep_neg hr (by omega)
theorem nF_rg {a e : Int} (hr : Rep f g s F) (hR : rgP f s a e P) (h : a ≤ e) : nF F P = e - a := by
  obtain ⟨p0, p1, p2⟩ := hR
  have hs := hr.1.1
  rw [nF_eq _ hr, cnt_rg s.toNat (fun j j0 j1 => p2 j j0 (by omega)) p0 h]
  (repeat' split) <;> omega
theorem nF_lt (hr : Rep f g s F) (ht : Srt f s) (hb : blw f s c b) (hP : ∀ x, P x = true ↔ x < c) : nF F P = b := by
  rw [nF_rg hr (rg_lt ht hb hP) hb.1]; omega
theorem nF_ge (hr : Rep f g s F) (ht : Srt f s) (hb : blw f s c b) (hP : ∀ x, P x = true ↔ c ≤ x) : nF F P = s - b := nF_rg hr (rg_ge ht hb hP) hb.2.1
theorem nF_bt {c2 b2 : Int} (hr : Rep f g s F) (ht : Srt f s) (hb : blw f s c b) (hb2 : blw f s c2 b2) (h : c ≤ c2) (hP : ∀ x, P x = true ↔ (c ≤ x ∧ x < c2)) : nF F P = b2 - b := by
  have g1 := rg_ge (P := fun x => decide (c ≤ x)) ht hb (fun x => decide_eq_true_iff)
  have g2 := rg_lt (P := fun x => decide (x < c2)) ht hb2 (fun x => decide_eq_true_iff)
  have hle : b ≤ b2 := by
    by_cases q : b ≤ b2
    · exact q
    · have x1 := hb.2.2.1 b2 hb2.1 (by omega)
      have x2 := blw_ge ht hb2 b2 (Int.le_refl _) (by have := hb.2.1; omega)
      omega
  refine nF_rg hr ⟨g1.1, g2.2.1, fun j j0 j1 => ?_⟩ hle
  rw [hP, ← decide_eq_true_iff (p := c ≤ f j), ← decide_eq_true_iff (p := f j < c2), g1.2.2 j j0 j1, g2.2.2 j j0 j1]
  omega
theorem cnt_0 {n : Nat} (h : ∀ j : Int, 0 ≤ j → j < n → P (f j) = false) : cnt f P n = 0 := by
  induction n with
  | zero => rfl
  | succ n ih =>
    show cnt f P n + (if P (f (n : Int)) then 1 else 0) = 0
    rw [ih (fun j j0 j1 => h j j0 (by omega)), h n (by omega) (by omega)]; rfl
theorem cnt_ps {n : Nat} {j : Int} (h0 : 0 ≤ j) (h1 : j < n) (hP : P (f j) = true) : 0 < cnt f P n := by
  induction n with
  | zero => omega
  | succ n ih =>
    have hb := cnt_b f P n
    show 0 < cnt f P n + (if P (f (n : Int)) then 1 else 0)
    by_cases q : j < (n : Int)
    · have := ih q
      split <;> omega
    · have e : j = n := by omega
      rw [e] at hP
      rw [if_pos hP]; omega
theorem cnt_al {n : Nat} : cnt f P n = n ↔ ∀ j : Int, 0 ≤ j → j < n → P (f j) = true := by
  induction n with
  | zero => exact ⟨fun _ j h0 h1 => by omega, fun _ => rfl⟩
  | succ n ih =>
    have hb := cnt_b f P n
    show cnt f P n + (if P (f (n : Int)) then 1 else 0) = ((n + 1 : Nat) : Int) ↔ _
    constructor
    · intro h j h0 h1
      by_cases q : P (f (n : Int)) = true
      · rw [if_pos q] at h
        by_cases q2 : j < (n : Int)
        · exact ih.mp (by omega) j h0 q2
        · rw [show j = (n : Int) by omega]; exact q
      · rw [if_neg q] at h; omega
    · intro h
      rw [if_pos (h n (by omega) (by omega)), ih.mpr (fun j h0 h1 => h j h0 (by omega))]; omega
/-- a note is there, or not -/
theorem hn_no {x : Int} (hr : Rep f g s F) (h : ∀ j : Int, 0 ≤ j → j < s → g j ≠ x) : nF F (fun c => decide (F c = x)) = 0 := by
  have hs := hr.1.1
  rw [nF_eq _ hr]
  refine cnt_0 (fun j j0 j1 => decide_eq_false ?_)
  rw [(Rep_yes hr j0 (by omega) rfl).1]; exact h j j0 (by omega)
theorem hn_yes {x j : Int} (hr : Rep f g s F) (h0 : 0 ≤ j) (h1 : j < s) (h : g j = x) : nF F (fun c => decide (F c = x)) ≠ 0 := by
  rw [nF_eq _ hr]
  have := cnt_ps (P := fun c => decide (F c = x)) (f := f) (n := s.toNat) h0 (by omega) (decide_eq_true (by rw [(Rep_yes hr h0 h1 rfl).1]; exact h))
  omega
/-- both books hold the same -/
theorem sm_y {f' g' G : Int → Int} {s' : Int} (hr : Rep f g s F) (hr' : Rep f' g' s' G) (e : s = s') (h : ∀ j : Int, 0 ≤ j → j < s → G (f j) = g j) : zF F = zF G ∧ nF F (fun c => decide (G c = F c)) = zF F := by
  have hs := hr.1.1
  rw [zF_eq hr, zF_eq hr', nF_eq _ hr]
  refine ⟨e, ?_⟩
  have := (cnt_al (f := f) (P := fun c => decide (G c = F c)) (n := s.toNat)).mpr (fun j j0 j1 => decide_eq_true (by rw [h j j0 (by omega), (Rep_yes hr j0 (by omega) rfl).1]))
  omega
theorem sm_z {f' g' G : Int → Int} {s' : Int} (hr : Rep f g s F) (hr' : Rep f' g' s' G) (e : s ≠ s') : ¬ (zF F = zF G ∧ nF F (fun c => decide (G c = F c)) = zF F) := by
  rw [zF_eq hr, zF_eq hr']; exact fun q => e q.1
theorem sm_n {j : Int} {G : Int → Int} (hr : Rep f g s F) (h0 : 0 ≤ j) (h1 : j < s) (h : G (f j) ≠ g j) : ¬ (zF F = zF G ∧ nF F (fun c => decide (G c = F c)) = zF F) := by
  have hs := hr.1.1
  rw [zF_eq hr, nF_eq _ hr]
  intro q
  have := (cnt_al (f := f) (P := fun c => decide (G c = F c)) (n := s.toNat)).mp (by omega) j h0 (by omega)
  have := of_decide_eq_true this
  rw [(Rep_yes hr h0 h1 rfl).1] at this
  exact h this
end NRB
/-- what isLike tells -/
def lkY (s s' : Int) (u u' w w' : List Value) : Prop := s = s' ∧ ∀ j : Int, 0 ≤ j → j < s → cv u j = cv u' j ∧ cv w j = cv w' j
def lkN (s s' : Int) (u u' w w' : List Value) : Prop := s ≠ s' ∨ ∃ j : Int, 0 ≤ j ∧ j < s ∧ ¬ (cv u j = cv u' j ∧ cv w j = cv w' j)
def lkI (u u' w w' : List Value) (i : Int) : Prop := ∀ j : Int, 0 ≤ j → j < i → cv u j = cv u' j ∧ cv w j = cv w' j
theorem lkI_0 {u u' w w' : List Value} : lkI u u' w w' 0 := fun j h0 h1 => by omega
theorem lkI_s {u u' w w' : List Value} {i : Int} (h : lkI u u' w w' i) (e1 : cv u i = cv u' i) (e2 : cv w i = cv w' i) : lkI u u' w w' (i + 1) := fun j h0 h1 => by
  by_cases q : j = i
  · rw [q]; exact ⟨e1, e2⟩
  · exact h j h0 (by omega)
theorem lk_y {F G : Int → Int} {s s' : Int} {u u' w w' : List Value} (hr : Rep (cv u) (cv w) s F) (hr' : Rep (cv u') (cv w') s' G) (h : lkY s s' u u' w w') : zF F = zF G ∧ nF F (fun c => decide (G c = F c)) = zF F := by
  obtain ⟨e, h⟩ := h
  refine sm_y hr hr' e (fun j j0 j1 => ?_)
  obtain ⟨h1, h2⟩ := h j j0 j1
  rw [h1, (Rep_yes hr' j0 (by omega) rfl).1, h2]
theorem lk_n {F G : Int → Int} {s s' : Int} {u u' w w' : List Value} (hr : Rep (cv u) (cv w) s F) (ht : Srt (cv u) s) (hr' : Rep (cv u') (cv w') s' G) (ht' : Srt (cv u') s') (h : lkN s s' u u' w w') : ¬ (zF F = zF G ∧ nF F (fun c => decide (G c = F c)) = zF F) := by
  rcases h with h | ⟨i, i0, i1, h⟩
  · exact sm_z hr hr' h
  · intro q
    have hs := hr.1.1
    have es : s = s' := by rw [← zF_eq hr, ← zF_eq hr']; exact q.1
    have hG : ∀ j : Int, 0 ≤ j → j < s → G (cv u j) = cv w j := fun j j0 j1 => by
      have k := q.2
      rw [nF_eq _ hr, zF_eq hr] at k
      have := of_decide_eq_true ((cnt_al (f := cv u) (P := fun c => decide (G c = F c)) (n := s.toNat)).mp (by omega) j j0 (by omega))
      rw [this]; exact (Rep_yes hr j0 j1 rfl).1
    have hRG : Rep (cv u) (cv w) s G := by
      refine ⟨⟨hs, fun j j0 j1 => ?_⟩, fun c hc => ?_, hr.2.2⟩
      · obtain ⟨a, b, -⟩ := Rep_at hr j0 j1
        exact ⟨a, b, hG j j0 j1⟩
      · refine Classical.byContradiction fun hn => ?_
        have k := inj_le s'.toNat (s.toNat + 1) (fun j => if j = s.toNat then c else cv u j) (fun j => cv u' j) (fun i j hij hj => ?_) (fun j hj => ?_)
        · omega
        · show (if i = s.toNat then c else cv u i) ≠ (if j = s.toNat then c else cv u j)
          rw [if_neg (by omega)]
          by_cases q9 : j = s.toNat
          · rw [if_pos q9]; exact fun e => hn ⟨i, by omega, by omega, e⟩
          · rw [if_neg q9]; exact hr.2.2 _ _ (by omega) (by omega) (by omega)
        · have hx : G (if j = s.toNat then c else cv u j) ≠ -1 := by
            by_cases q9 : j = s.toNat
            · rw [if_pos q9]; exact hc
            · rw [if_neg q9, hG j (by omega) (by omega)]
              have := (Rep_at hr (j := (j : Int)) (by omega) (by omega)).2.1
              omega
          obtain ⟨m, m0, m1, e⟩ := hr'.2.1 _ hx
          exact ⟨m.toNat, by omega, by show cv u' (m.toNat : Int) = _; rw [Int.toNat_of_nonneg m0]; exact e⟩
    have e1 := (Srt_uq hRG ht hr' ht').2 i i0 i1
    exact h ⟨e1, by rw [← (Rep_yes hRG i0 i1 rfl).1, ← (Rep_yes hr' i0 (by omega) rfl).1, e1]⟩
noncomputable def anNear (F : Int → Int) (k c : Int) : Int := if k < 4 then (if k < 2 then grt F (soP k c) else lst F (soP k c)) else F (if k - 3 < 2 then grt F (soP (k - 3) c) else lst F (soP (k - 3) c))
noncomputable def spNear (σ : St) (b f t k : Int) : Int × Int × St := if b < 0 ∨ 2 < b then (1, 0, σ) else if (f < 0 ∨ t < f ∨ 99 < t) ∨ (k < 0 ∨ 5 < k) then (2, 0, σ) else (0, anNear (σ.1 b) k (100 * t + f), σ)
noncomputable def spMany (σ : St) (b f t k : Int) : Int × Int × St := if b < 0 ∨ 2 < b then (1, 0, σ) else if (f < 0 ∨ t < f ∨ 99 < t) ∨ (k < 0 ∨ 3 < k) then (2, 0, σ) else (0, nF (σ.1 b) (soP k (100 * t + f)), σ)
noncomputable def spBetween (σ : St) (b f t f2 t2 : Int) : Int × Int × St := if b < 0 ∨ 2 < b then (1, 0, σ) else if (f < 0 ∨ t < f ∨ 99 < t) ∨ (f2 < 0 ∨ t2 < f2 ∨ 99 < t2) then (2, 0, σ) else if 100 * t2 + f2 < 100 * t + f then (0, -9, rf σ) else (0, nF (σ.1 b) (fun c => decide (100 * t + f ≤ c ∧ c ≤ 100 * t2 + f2)), σ)
noncomputable def spHasNote (σ : St) (b x : Int) : Int × Int × St := if b < 0 ∨ 2 < b then (1, 0, σ) else if x < 0 ∨ 99 < x then (2, 0, σ) else (0, if nF (σ.1 b) (fun c => decide (σ.1 b c = x)) = 0 then 0 else 1, σ)
noncomputable def spAreSame (σ : St) (b o : Int) : Int × Int × St := if (b < 0 ∨ 2 < b) ∨ (o < 0 ∨ 2 < o) then (1, 0, σ) else (0, if zF (σ.1 b) = zF (σ.1 o) ∧ nF (σ.1 b) (fun c => decide (σ.1 o c = σ.1 b c)) = zF (σ.1 b) then 1 else 0, σ)
set_option maxRecDepth 100000 in
theorem f_X6_needUpTo (l : Launch) (hl : l.stackTraces = false) {kc km : Int} {h : dm_H} (hI : Inv kc km h) {a0 a1 : Int} (h0a : -2147483648 ≤ a0) (h0b : a0 ≤ 2147483647) (h1a : -2147483648 ≤ a1) (h1b : a1 ≤ 2147483647) : dm_M l 120 1 1 6 [dI a0, dI a1] h (QPX h (fun v => v = none ∧ (0 ≤ a0 ∧ a0 ≤ a1)) XA (a0 < 0 ∨ a1 < a0)) := by
  refine dm_M_of dk_120 hl rfl (Nat.le_of_ble_eq_true rfl) ?_
  show dm_W (fun _ _ _ => True) (dm_P (QPX h (fun v => v = none ∧ (0 ≤ a0 ∧ a0 ≤ a1)) XA (a0 < 0 ∨ a1 < a0)) 1 6) l 120 1 1 6 0 [some (dI a0), some (dI a1)] [] h 0 0
  refine dr_iload_n rfl rfl ?_
  refine di_if_lt rfl rfl (by omega) (by omega) (fun c1 => ?_) (fun c1 => ?_)
  · exact dr_throw rfl (by decide) rfl (by decide) (by decide) (by decide) (Nat.le_of_ble_eq_true rfl) ⟨rfl, rfl, by omega⟩
  refine dr_iload_n rfl rfl ?_
  refine dr_iload_n rfl rfl ?_
  refine di_icmp_le rfl rfl (by omega) (by omega) (by omega) (by omega) (fun c2 => ?_) (fun c2 => ?_)
  · exact dr_vret rfl rfl (by decide) (by decide) ⟨rfl, rfl, by omega, by omega⟩
  · exact dr_throw rfl (by decide) rfl (by decide) (by decide) (by decide) (Nat.le_of_ble_eq_true rfl) ⟨rfl, rfl, by omega⟩

set_option maxHeartbeats 4000000 in
set_option maxRecDepth 100000 in
/-- Earlyends$Book.isLike -/
theorem f_X0_isLike (l : Launch) (hl : l.stackTraces = false) {kc km : Int} {h : dm_H} (hI : Inv kc km h) {b0 : Nat} (hb0 : isBk b0) {s0 m0 : Int} {u0 w0 : List Value} (hC0 : CA b0 s0 m0 u0 w0 h) {b1 : Nat} (hb1 : isBk b1) {s1 m1 : Int} {u1 w1 : List Value} (hC1 : CA b1 s1 m1 u1 w1 h) : dm_M l 16 0 0 0 [.ref b0, .ref b1] h (QP h (RI (fun x => 0 ≤ x ∧ x ≤ 1 ∧ (x = 1 → lkY s0 s1 u0 u1 w0 w1) ∧ (x = 0 → lkN s0 s1 u0 u1 w0 w1))) []) := by
  obtain ⟨hq0, hu0, hw0, hau0, haw0, hs0a, hs0b, hm0a, hm0b⟩ := id hC0
  obtain ⟨hq1, hu1, hw1, hau1, haw1, hs1a, hs1b, hm1a, hm1b⟩ := id hC1
  refine dm_M_of dk_16 hl rfl (Nat.le_of_ble_eq_true rfl) ?_
  show dm_W (fun _ _ _ => True) (dm_P (QP h (RI (fun x => 0 ≤ x ∧ x ≤ 1 ∧ (x = 1 → lkY s0 s1 u0 u1 w0 w1) ∧ (x = 0 → lkN s0 s1 u0 u1 w0 w1))) []) 0 0) l 16 0 0 0 0 [some (.ref b0), some (.ref b1), none] [] h 0 0
  refine di_aload_n rfl rfl ?_
  refine dr_getf rfl hq0 rfl ?_
  refine di_aload_n rfl rfl ?_
  refine dr_getf rfl hq1 rfl ?_
  refine di_icmp_eq rfl rfl (by omega) (by omega) (by omega) (by omega) (fun c1 => ?_) (fun c1 => ?_)
  · skip
    refine di_const rfl ?_
    refine di_istore_n (ls2 := [some (.ref b0), some (.ref b1), some (dI (0))]) rfl rfl rfl ?_
    have L3 : ∀ (n : Nat) (i2 : Int), (8 - i2).toNat < n → 0 ≤ i2 → i2 ≤ 8 → lkI u0 u1 w0 w1 i2 → dm_W (fun _ _ _ => True) (dm_P (QP h (RI (fun x => 0 ≤ x ∧ x ≤ 1 ∧ (x = 1 → lkY s0 s1 u0 u1 w0 w1) ∧ (x = 0 → lkN s0 s1 u0 u1 w0 w1))) []) 0 0) l 16 0 0 0 15 [some (.ref b0), some (.ref b1), some (dI (i2))] [] h 0 0 := by
      intro n
      induction n with
      | zero => intro i2 hm; exact absurd hm (Nat.not_lt_zero _)
      | succ n ih =>
        intro i2 hm6 hb4 hb5 PL
        have ihL3 := ih
        clear ih
        refine dr_iload_n rfl rfl ?_
        refine di_aload_n rfl rfl ?_
        refine dr_getf rfl hq0 rfl ?_
        refine di_icmp_ge rfl rfl (by omega) (by omega) (by omega) (by omega) (fun c7 => ?_) (fun c7 => ?_)
        · skip
          refine di_const rfl ?_
          exact dr_iret (ty := .boolean) rfl rfl (nar_z (by omega) (by omega)) (by decide) (by decide) ⟨rfl, 1, ⟨by omega, by omega, fun _ => ⟨by omega, fun j9 h1 h2 => PL j9 h1 (by omega)⟩, fun e9 => absurd e9 (by omega)⟩, by omega, by omega, rfl⟩
        · skip
          refine di_aload_n rfl rfl ?_
          refine dr_getf rfl hq0 rfl ?_
          refine dr_iload_n rfl rfl ?_
          refine di_iald rfl hu0 hau0 (by omega) (by omega) (fun x8 x8f x8a x8b x8v => ?_)
          have x8w : cv u0 (i2) = x8 := cv_eq x8v x8a x8b
          have x8g : 0 ≤ x8 ∧ x8 ≤ 9999 ∧ x8 % 100 ≤ x8 / 100 := x8f
          refine di_aload_n rfl rfl ?_
          refine dr_getf rfl hq1 rfl ?_
          refine dr_iload_n rfl rfl ?_
          refine di_iald rfl hu1 hau1 (by omega) (by omega) (fun x10 x10f x10a x10b x10v => ?_)
          have x10w : cv u1 (i2) = x10 := cv_eq x10v x10a x10b
          have x10g : 0 ≤ x10 ∧ x10 ≤ 9999 ∧ x10 % 100 ≤ x10 / 100 := x10f
          refine di_icmp_ne rfl rfl (by omega) (by omega) (by omega) (by omega) (fun c11 => ?_) (fun c11 => ?_)
          · skip
            refine di_const rfl ?_
            exact dr_iret (ty := .boolean) rfl rfl (nar_z (by omega) (by omega)) (by decide) (by decide) ⟨rfl, 0, ⟨by omega, by omega, fun e9 => absurd e9 (by omega), fun _ => Or.inr ⟨i2, by omega, by omega, fun q9 => by have q8 := q9.1; have q7 := q9.2; omega⟩⟩, by omega, by omega, rfl⟩
          · skip
            refine di_aload_n rfl rfl ?_
            refine dr_getf rfl hq0 rfl ?_
            refine dr_iload_n rfl rfl ?_
            refine di_iald rfl hw0 haw0 (by omega) (by omega) (fun x12 x12f x12a x12b x12v => ?_)
            have x12w : cv w0 (i2) = x12 := cv_eq x12v x12a x12b
            refine di_aload_n rfl rfl ?_
            refine dr_getf rfl hq1 rfl ?_
            refine dr_iload_n rfl rfl ?_
            refine di_iald rfl hw1 haw1 (by omega) (by omega) (fun x13 x13f x13a x13b x13v => ?_)
            have x13w : cv w1 (i2) = x13 := cv_eq x13v x13a x13b
            refine di_icmp_eq rfl rfl (by omega) (by omega) (by omega) (by omega) (fun c14 => ?_) (fun c14 => ?_)
            · skip
              refine di_iinc (ls2 := [some (.ref b0), some (.ref b1), some (dI ((i2 + 1)))]) rfl rfl rfl rfl ?_
              refine dr_goto rfl rfl ?_
              exact ihL3 ((i2 + 1)) (by omega) (by omega) (by omega)  (lkI_s PL (by omega) (by omega))
            · skip
              refine di_const rfl ?_
              exact dr_iret (ty := .boolean) rfl rfl (nar_z (by omega) (by omega)) (by decide) (by decide) ⟨rfl, 0, ⟨by omega, by omega, fun e9 => absurd e9 (by omega), fun _ => Or.inr ⟨i2, by omega, by omega, fun q9 => by have q8 := q9.1; have q7 := q9.2; omega⟩⟩, by omega, by omega, rfl⟩
    exact L3 _ (0) (Nat.lt_succ_self _) (by omega) (by omega)  lkI_0
  · skip
    refine di_const rfl ?_
    exact dr_iret (ty := .boolean) rfl rfl (nar_z (by omega) (by omega)) (by decide) (by decide) ⟨rfl, 0, ⟨by omega, by omega, fun e9 => absurd e9 (by omega), fun _ => Or.inl (by omega)⟩, by omega, by omega, rfl⟩
set_option maxHeartbeats 4000000 in
set_option maxRecDepth 100000 in
/-- Earlyends.near -/
theorem c_X6_near (l : Launch) (hl : l.stackTraces = false) {kc km : Int} {h : dm_H} (hI : Inv kc km h) {B : Int} {σ : St} (hS : CSt B σ h) (hB : B ≤ 80000) {a1 : Int} (h1a : -2147483648 ≤ a1) (h1b : a1 ≤ 2147483647) {a2 : Int} (h2a : -2147483648 ≤ a2) (h2b : a2 ≤ 2147483647) {a3 : Int} (h3a : -2147483648 ≤ a3) (h3b : a3 ≤ 2147483647) {a4 : Int} (h4a : -2147483648 ≤ a4) (h4b : a4 ≤ 2147483647) : dm_M l 84 6 8 48 [.ref 0, dI (a1), dI (a2), dI (a3), dI (a4)] h (QX kc km h B XB XA (spNear σ a1 a2 a3 a4)) := by
  refine dm_M_of dk_84 hl rfl (Nat.le_of_ble_eq_true rfl) ?_
  show dm_W (fun _ _ _ => True) (dm_P (QX kc km h B XB XA (spNear σ a1 a2 a3 a4)) 8 48) l 84 6 8 48 0 [some (.ref 0), some (dI (a1)), some (dI (a2)), some (dI (a3)), some (dI (a4)), none, none, none, none] [] h 0 0
  refine di_aload_n rfl rfl ?_
  refine dr_iload_n rfl rfl ?_
  obtain ⟨r1, c2, c3, hc4⟩ := I_cls hI
  refine dr_virt rfl rfl rfl rfl hc4 (f_X6_bookAt l hl hI (a1 := a1) (by omega) (by omega)) (by decide) (by decide) (by decide) (Nat.le_of_ble_eq_true rfl) (fun Y h9 q9 => by obtain ⟨rfl, rfl, hC⟩ := q9; exact dr_out rfl (by decide) (by decide) (QX_1 (a := 0) hI FrC_rf hS (by omega) (by unfold spNear; (repeat' split) <;> first | rfl | (exfalso; omega) | (apply Prod.ext <;> first | rfl | (dsimp only; omega) | (apply Prod.ext <;> first | rfl | (dsimp only; omega)))))) (kPXR (fun r5 ⟨q6, q7, q8, q10⟩ => ?_))
  refine di_astore (ls2 := [some (.ref 0), some (dI (a1)), some (dI (a2)), some (dI (a3)), some (dI (a4)), some (.ref r5), none, none, none]) rfl rfl rfl ?_
  refine dr_iload_n rfl rfl ?_
  refine dr_iload_n rfl rfl ?_
  refine dr_stat rfl rfl rfl rfl (f_X6_codeOfSpan l hl hI (a0 := a2) (by omega) (by omega) (a1 := a3) (by omega) (by omega)) (by decide) (by decide) (by decide) (Nat.le_of_ble_eq_true rfl) (fun Y h9 q9 => by obtain ⟨rfl, rfl, hC⟩ := q9; exact dr_out rfl (by decide) (by decide) (QX_2 (a := 0) hI FrC_rf hS (by omega) (by unfold spNear; (repeat' split) <;> first | rfl | (exfalso; omega) | (apply Prod.ext <;> first | rfl | (dsimp only; omega) | (apply Prod.ext <;> first | rfl | (dsimp only; omega)))))) (kPXI (fun y11 ⟨q12, q13, q14, q15⟩ => ?_))
  subst q12
  refine di_istore (ls2 := [some (.ref 0), some (dI (a1)), some (dI (a2)), some (dI (a3)), some (dI (a4)), some (.ref r5), some (dI ((100 * a3 + a2))), none, none]) rfl rfl rfl ?_
  refine dr_iload rfl rfl ?_
  refine di_const rfl ?_
  refine dr_stat rfl rfl rfl rfl (f_X6_needUpTo l hl hI (a0 := a4) (by omega) (by omega) (a1 := 5) (by omega) (by omega)) (by decide) (by decide) (by decide) (Nat.le_of_ble_eq_true rfl) (fun Y h9 q9 => by obtain ⟨rfl, rfl, hC⟩ := q9; exact dr_out rfl (by decide) (by decide) (QX_2 (a := 0) hI FrC_rf hS (by omega) (by unfold spNear; (repeat' split) <;> first | rfl | (exfalso; omega) | (apply Prod.ext <;> first | rfl | (dsimp only; omega) | (apply Prod.ext <;> first | rfl | (dsimp only; omega)))))) (kPXV (fun q16 => ?_))
  refine di_aload rfl rfl ?_
  refine dr_iload rfl rfl ?_
  obtain ⟨s17, m18, u19, w20, hc21, hr22, ht23, ma24, mb25⟩ := CSt_bk hS (k := a1) q8 q10 q7
  have sq26 : 0 ≤ s17 ∧ s17 ≤ 8 := ⟨hc21.2.2.2.2.2.1, hc21.2.2.2.2.2.2.1⟩
  have hz27 : zF (σ.1 a1) = s17 := zF_eq hr22
  refine dr_virt rfl rfl rfl rfl hc21.1 (f_X0_countBelow l hl hI q6 hc21 (a1 := (100 * a3 + a2)) (by omega) (by omega)) (by decide) (by decide) (by decide) (Nat.le_of_ble_eq_true rfl) kNP (kIP (fun y28 y28f y28a y28b => ?_))
  obtain ⟨y28c, y28d, y28k⟩ := y28f
  have y28l : y28 ≤ s17 := y28k.2.1
  refine di_istore (ls2 := [some (.ref 0), some (dI (a1)), some (dI (a2)), some (dI (a3)), some (dI (a4)), some (.ref r5), some (dI ((100 * a3 + a2))), some (dI (y28)), none]) rfl rfl rfl ?_
  refine di_aload rfl rfl ?_
  refine dr_iload rfl rfl ?_
  refine di_const rfl ?_
  refine di_iadd rfl ?_
  refine dr_virt rfl rfl rfl rfl hc21.1 (f_X0_countBelow l hl hI q6 hc21 (a1 := ((100 * a3 + a2) + 1)) (by omega) (by omega)) (by decide) (by decide) (by decide) (Nat.le_of_ble_eq_true rfl) kNP (kIP (fun y29 y29f y29a y29b => ?_))
  obtain ⟨y29c, y29d, y29k⟩ := y29f
  have y29l : y29 ≤ s17 := y29k.2.1
  refine di_istore (ls2 := [some (.ref 0), some (dI (a1)), some (dI (a2)), some (dI (a3)), some (dI (a4)), some (.ref r5), some (dI ((100 * a3 + a2))), some (dI (y28)), some (dI (y29))]) rfl rfl rfl ?_
  refine dr_iload rfl rfl ?_
  rcases (by omega : (a4 < 0 ∨ 4 < a4) ∨ a4 = 0 ∨ a4 = 1 ∨ a4 = 2 ∨ a4 = 3 ∨ a4 = 4) with c30 | c30 | c30 | c30 | c30 | c30
  · skip
    refine di_tabOut rfl (by omega) (by omega) c30 rfl ?_
    refine di_aload rfl rfl ?_
    refine dr_iload rfl rfl ?_
    refine dr_virt rfl rfl rfl rfl hc21.1 (f_X0_noteAt l hl hI q6 hc21 (a1 := y28) (by omega) (by omega)) (by decide) (by decide) (by decide) (Nat.le_of_ble_eq_true rfl) kNP (kIP (fun y31 y31f y31a y31b => ?_))
    obtain ⟨y31c, y31d, y31k, y31k2, y31k3⟩ := y31f
    have ek9 : a4 = 5 := by omega
    have e9 : anNear (σ.1 a1) a4 (100 * a3 + a2) = y31 := by rw [ek9]; unfold anNear; rw [if_neg (by decide), if_neg (by decide)]; exact nn_l hr22 ht23 y28k (fun x => soP_2) y31k y31k3
    have b9 := Rep_ge hr22 (lst (σ.1 a1) (soP 2 (100 * a3 + a2)))
    exact dr_iret (ty := .int) rfl rfl rfl (by decide) (by decide) (QX_ok hI FrC_rf hS (by omega) (by unfold spNear; (try rw [e9]); (repeat' split) <;> first | rfl | (exfalso; omega) | (apply Prod.ext <;> first | rfl | (dsimp only; omega) | (apply Prod.ext <;> first | rfl | (dsimp only; omega)))))
  · skip
    refine di_tabIn 0 rfl (by omega) (by omega) (by omega) (by omega) rfl rfl ?_
    refine di_aload rfl rfl ?_
    refine dr_iload rfl rfl ?_
    refine di_const rfl ?_
    refine di_isub rfl ?_
    refine dr_virt rfl rfl rfl rfl hc21.1 (f_X0_codeAt l hl hI q6 hc21 (a1 := (y28 - 1)) (by omega) (by omega)) (by decide) (by decide) (by decide) (Nat.le_of_ble_eq_true rfl) kNP (kIP (fun y32 y32f y32a y32b => ?_))
    obtain ⟨y32c, y32d, y32k, y32k2, y32k3⟩ := y32f
    have ek9 : a4 = 0 := by omega
    have e9 : anNear (σ.1 a1) a4 (100 * a3 + a2) = y32 := by rw [ek9]; unfold anNear; rw [if_pos (by decide), if_pos (by decide)]; exact nr_g hr22 ht23 y28k (fun x => soP_0) y32k y32k2
    exact dr_iret (ty := .int) rfl rfl rfl (by decide) (by decide) (QX_ok hI FrC_rf hS (by omega) (by unfold spNear; (try rw [e9]); (repeat' split) <;> first | rfl | (exfalso; omega) | (apply Prod.ext <;> first | rfl | (dsimp only; omega) | (apply Prod.ext <;> first | rfl | (dsimp only; omega)))))
  · skip
    refine di_tabIn 1 rfl (by omega) (by omega) (by omega) (by omega) rfl rfl ?_
    refine di_aload rfl rfl ?_
    refine dr_iload rfl rfl ?_
    refine di_const rfl ?_
    refine di_isub rfl ?_
    refine dr_virt rfl rfl rfl rfl hc21.1 (f_X0_codeAt l hl hI q6 hc21 (a1 := (y29 - 1)) (by omega) (by omega)) (by decide) (by decide) (by decide) (Nat.le_of_ble_eq_true rfl) kNP (kIP (fun y33 y33f y33a y33b => ?_))
    obtain ⟨y33c, y33d, y33k, y33k2, y33k3⟩ := y33f
    have ek9 : a4 = 1 := by omega
    have e9 : anNear (σ.1 a1) a4 (100 * a3 + a2) = y33 := by rw [ek9]; unfold anNear; rw [if_pos (by decide), if_pos (by decide)]; exact nr_g hr22 ht23 y29k (fun x => soP_1) y33k y33k2
    exact dr_iret (ty := .int) rfl rfl rfl (by decide) (by decide) (QX_ok hI FrC_rf hS (by omega) (by unfold spNear; (try rw [e9]); (repeat' split) <;> first | rfl | (exfalso; omega) | (apply Prod.ext <;> first | rfl | (dsimp only; omega) | (apply Prod.ext <;> first | rfl | (dsimp only; omega)))))
  · skip
    refine di_tabIn 2 rfl (by omega) (by omega) (by omega) (by omega) rfl rfl ?_
    refine di_aload rfl rfl ?_
    refine dr_iload rfl rfl ?_
    refine dr_virt rfl rfl rfl rfl hc21.1 (f_X0_codeAt l hl hI q6 hc21 (a1 := y28) (by omega) (by omega)) (by decide) (by decide) (by decide) (Nat.le_of_ble_eq_true rfl) kNP (kIP (fun y34 y34f y34a y34b => ?_))
    obtain ⟨y34c, y34d, y34k, y34k2, y34k3⟩ := y34f
    have ek9 : a4 = 2 := by omega
    have e9 : anNear (σ.1 a1) a4 (100 * a3 + a2) = y34 := by rw [ek9]; unfold anNear; rw [if_pos (by decide), if_neg (by decide)]; exact nr_l hr22 ht23 y28k (fun x => soP_2) y34k y34k3
    exact dr_iret (ty := .int) rfl rfl rfl (by decide) (by decide) (QX_ok hI FrC_rf hS (by omega) (by unfold spNear; (try rw [e9]); (repeat' split) <;> first | rfl | (exfalso; omega) | (apply Prod.ext <;> first | rfl | (dsimp only; omega) | (apply Prod.ext <;> first | rfl | (dsimp only; omega)))))
  · skip
    refine di_tabIn 3 rfl (by omega) (by omega) (by omega) (by omega) rfl rfl ?_
    refine di_aload rfl rfl ?_
    refine dr_iload rfl rfl ?_
    refine dr_virt rfl rfl rfl rfl hc21.1 (f_X0_codeAt l hl hI q6 hc21 (a1 := y29) (by omega) (by omega)) (by decide) (by decide) (by decide) (Nat.le_of_ble_eq_true rfl) kNP (kIP (fun y35 y35f y35a y35b => ?_))
    obtain ⟨y35c, y35d, y35k, y35k2, y35k3⟩ := y35f
    have ek9 : a4 = 3 := by omega
    have e9 : anNear (σ.1 a1) a4 (100 * a3 + a2) = y35 := by rw [ek9]; unfold anNear; rw [if_pos (by decide), if_neg (by decide)]; exact nr_l hr22 ht23 y29k (fun x => soP_3) y35k y35k3
    exact dr_iret (ty := .int) rfl rfl rfl (by decide) (by decide) (QX_ok hI FrC_rf hS (by omega) (by unfold spNear; (try rw [e9]); (repeat' split) <;> first | rfl | (exfalso; omega) | (apply Prod.ext <;> first | rfl | (dsimp only; omega) | (apply Prod.ext <;> first | rfl | (dsimp only; omega)))))
  · skip
    refine di_tabIn 4 rfl (by omega) (by omega) (by omega) (by omega) rfl rfl ?_
    refine di_aload rfl rfl ?_
    refine dr_iload rfl rfl ?_
    refine di_const rfl ?_
    refine di_isub rfl ?_
    refine dr_virt rfl rfl rfl rfl hc21.1 (f_X0_noteAt l hl hI q6 hc21 (a1 := (y29 - 1)) (by omega) (by omega)) (by decide) (by decide) (by decide) (Nat.le_of_ble_eq_true rfl) kNP (kIP (fun y36 y36f y36a y36b => ?_))
    obtain ⟨y36c, y36d, y36k, y36k2, y36k3⟩ := y36f
    have ek9 : a4 = 4 := by omega
    have e9 : anNear (σ.1 a1) a4 (100 * a3 + a2) = y36 := by rw [ek9]; unfold anNear; rw [if_neg (by decide), if_pos (by decide)]; exact nn_g hr22 ht23 y29k (fun x => soP_1) y36k y36k2
    have b9 := Rep_ge hr22 (grt (σ.1 a1) (soP 1 (100 * a3 + a2)))
    exact dr_iret (ty := .int) rfl rfl rfl (by decide) (by decide) (QX_ok hI FrC_rf hS (by omega) (by unfold spNear; (try rw [e9]); (repeat' split) <;> first | rfl | (exfalso; omega) | (apply Prod.ext <;> first | rfl | (dsimp only; omega) | (apply Prod.ext <;> first | rfl | (dsimp only; omega)))))
set_option maxHeartbeats 4000000 in
set_option maxRecDepth 100000 in
/-- Earlyends.many -/
theorem c_X6_many (l : Launch) (hl : l.stackTraces = false) {kc km : Int} {h : dm_H} (hI : Inv kc km h) {B : Int} {σ : St} (hS : CSt B σ h) (hB : B ≤ 80000) {a1 : Int} (h1a : -2147483648 ≤ a1) (h1b : a1 ≤ 2147483647) {a2 : Int} (h2a : -2147483648 ≤ a2) (h2b : a2 ≤ 2147483647) {a3 : Int} (h3a : -2147483648 ≤ a3) (h3b : a3 ≤ 2147483647) {a4 : Int} (h4a : -2147483648 ≤ a4) (h4b : a4 ≤ 2147483647) : dm_M l 85 6 8 48 [.ref 0, dI (a1), dI (a2), dI (a3), dI (a4)] h (QX kc km h B XB XA (spMany σ a1 a2 a3 a4)) := by
  refine dm_M_of dk_85 hl rfl (Nat.le_of_ble_eq_true rfl) ?_
  show dm_W (fun _ _ _ => True) (dm_P (QX kc km h B XB XA (spMany σ a1 a2 a3 a4)) 8 48) l 85 6 8 48 0 [some (.ref 0), some (dI (a1)), some (dI (a2)), some (dI (a3)), some (dI (a4)), none, none, none, none] [] h 0 0
  refine di_aload_n rfl rfl ?_
  refine dr_iload_n rfl rfl ?_
  obtain ⟨r1, c2, c3, hc4⟩ := I_cls hI
  refine dr_virt rfl rfl rfl rfl hc4 (f_X6_bookAt l hl hI (a1 := a1) (by omega) (by omega)) (by decide) (by decide) (by decide) (Nat.le_of_ble_eq_true rfl) (fun Y h9 q9 => by obtain ⟨rfl, rfl, hC⟩ := q9; exact dr_out rfl (by decide) (by decide) (QX_1 (a := 0) hI FrC_rf hS (by omega) (by unfold spMany; (repeat' split) <;> first | rfl | (exfalso; omega) | (apply Prod.ext <;> first | rfl | (dsimp only; omega) | (apply Prod.ext <;> first | rfl | (dsimp only; omega)))))) (kPXR (fun r5 ⟨q6, q7, q8, q10⟩ => ?_))
  refine di_astore (ls2 := [some (.ref 0), some (dI (a1)), some (dI (a2)), some (dI (a3)), some (dI (a4)), some (.ref r5), none, none, none]) rfl rfl rfl ?_
  refine dr_iload_n rfl rfl ?_
  refine dr_iload_n rfl rfl ?_
  refine dr_stat rfl rfl rfl rfl (f_X6_codeOfSpan l hl hI (a0 := a2) (by omega) (by omega) (a1 := a3) (by omega) (by omega)) (by decide) (by decide) (by decide) (Nat.le_of_ble_eq_true rfl) (fun Y h9 q9 => by obtain ⟨rfl, rfl, hC⟩ := q9; exact dr_out rfl (by decide) (by decide) (QX_2 (a := 0) hI FrC_rf hS (by omega) (by unfold spMany; (repeat' split) <;> first | rfl | (exfalso; omega) | (apply Prod.ext <;> first | rfl | (dsimp only; omega) | (apply Prod.ext <;> first | rfl | (dsimp only; omega)))))) (kPXI (fun y11 ⟨q12, q13, q14, q15⟩ => ?_))
  subst q12
  refine di_istore (ls2 := [some (.ref 0), some (dI (a1)), some (dI (a2)), some (dI (a3)), some (dI (a4)), some (.ref r5), some (dI ((100 * a3 + a2))), none, none]) rfl rfl rfl ?_
  refine dr_iload rfl rfl ?_
  refine di_const rfl ?_
  refine dr_stat rfl rfl rfl rfl (f_X6_needUpTo l hl hI (a0 := a4) (by omega) (by omega) (a1 := 3) (by omega) (by omega)) (by decide) (by decide) (by decide) (Nat.le_of_ble_eq_true rfl) (fun Y h9 q9 => by obtain ⟨rfl, rfl, hC⟩ := q9; exact dr_out rfl (by decide) (by decide) (QX_2 (a := 0) hI FrC_rf hS (by omega) (by unfold spMany; (repeat' split) <;> first | rfl | (exfalso; omega) | (apply Prod.ext <;> first | rfl | (dsimp only; omega) | (apply Prod.ext <;> first | rfl | (dsimp only; omega)))))) (kPXV (fun q16 => ?_))
  refine di_aload rfl rfl ?_
  refine dr_iload rfl rfl ?_
  obtain ⟨s17, m18, u19, w20, hc21, hr22, ht23, ma24, mb25⟩ := CSt_bk hS (k := a1) q8 q10 q7
  have sq26 : 0 ≤ s17 ∧ s17 ≤ 8 := ⟨hc21.2.2.2.2.2.1, hc21.2.2.2.2.2.2.1⟩
  have hz27 : zF (σ.1 a1) = s17 := zF_eq hr22
  refine dr_virt rfl rfl rfl rfl hc21.1 (f_X0_countBelow l hl hI q6 hc21 (a1 := (100 * a3 + a2)) (by omega) (by omega)) (by decide) (by decide) (by decide) (Nat.le_of_ble_eq_true rfl) kNP (kIP (fun y28 y28f y28a y28b => ?_))
  obtain ⟨y28c, y28d, y28k⟩ := y28f
  have y28l : y28 ≤ s17 := y28k.2.1
  refine di_istore (ls2 := [some (.ref 0), some (dI (a1)), some (dI (a2)), some (dI (a3)), some (dI (a4)), some (.ref r5), some (dI ((100 * a3 + a2))), some (dI (y28)), none]) rfl rfl rfl ?_
  refine di_aload rfl rfl ?_
  refine dr_iload rfl rfl ?_
  refine di_const rfl ?_
  refine di_iadd rfl ?_
  refine dr_virt rfl rfl rfl rfl hc21.1 (f_X0_countBelow l hl hI q6 hc21 (a1 := ((100 * a3 + a2) + 1)) (by omega) (by omega)) (by decide) (by decide) (by decide) (Nat.le_of_ble_eq_true rfl) kNP (kIP (fun y29 y29f y29a y29b => ?_))
  obtain ⟨y29c, y29d, y29k⟩ := y29f
  have y29l : y29 ≤ s17 := y29k.2.1
  refine di_istore (ls2 := [some (.ref 0), some (dI (a1)), some (dI (a2)), some (dI (a3)), some (dI (a4)), some (.ref r5), some (dI ((100 * a3 + a2))), some (dI (y28)), some (dI (y29))]) rfl rfl rfl ?_
  refine dr_iload rfl rfl ?_
  rcases (by omega : (a4 < 0 ∨ 2 < a4) ∨ a4 = 0 ∨ a4 = 1 ∨ a4 = 2) with c30 | c30 | c30 | c30
  · skip
    refine di_tabOut rfl (by omega) (by omega) c30 rfl ?_
    refine di_aload rfl rfl ?_
    refine dr_virt rfl rfl rfl rfl hc21.1 (f_X0_count l hl hI q6 hc21 ) (by decide) (by decide) (by decide) (Nat.le_of_ble_eq_true rfl) kNP (kIP (fun y31 y31f y31a y31b => ?_))
    obtain ⟨y31c, y31d, y31e⟩ := y31f
    have y31e2 := y31e.symm
    subst y31e2
    refine dr_iload rfl rfl ?_
    refine di_isub rfl ?_
    have ek9 : a4 = 3 := by omega
    have e9 : nF (σ.1 a1) (soP a4 (100 * a3 + a2)) = (s17 - y29) := by rw [ek9]; exact nF_ge hr22 ht23 y29k (fun x => soP_3)
    exact dr_iret (ty := .int) rfl rfl rfl (by decide) (by decide) (QX_ok hI FrC_rf hS (by omega) (by unfold spMany; (try rw [e9]); (repeat' split) <;> first | rfl | (exfalso; omega) | (apply Prod.ext <;> first | rfl | (dsimp only; omega) | (apply Prod.ext <;> first | rfl | (dsimp only; omega)))))
  · skip
    refine di_tabIn 0 rfl (by omega) (by omega) (by omega) (by omega) rfl rfl ?_
    refine dr_iload rfl rfl ?_
    have ek9 : a4 = 0 := by omega
    have e9 : nF (σ.1 a1) (soP a4 (100 * a3 + a2)) = y28 := by rw [ek9]; exact nF_lt hr22 ht23 y28k (fun x => soP_0)
    exact dr_iret (ty := .int) rfl rfl rfl (by decide) (by decide) (QX_ok hI FrC_rf hS (by omega) (by unfold spMany; (try rw [e9]); (repeat' split) <;> first | rfl | (exfalso; omega) | (apply Prod.ext <;> first | rfl | (dsimp only; omega) | (apply Prod.ext <;> first | rfl | (dsimp only; omega)))))
  · skip
    refine di_tabIn 1 rfl (by omega) (by omega) (by omega) (by omega) rfl rfl ?_
    refine dr_iload rfl rfl ?_
    have ek9 : a4 = 1 := by omega
    have e9 : nF (σ.1 a1) (soP a4 (100 * a3 + a2)) = y29 := by rw [ek9]; exact nF_lt hr22 ht23 y29k (fun x => soP_1)
    exact dr_iret (ty := .int) rfl rfl rfl (by decide) (by decide) (QX_ok hI FrC_rf hS (by omega) (by unfold spMany; (try rw [e9]); (repeat' split) <;> first | rfl | (exfalso; omega) | (apply Prod.ext <;> first | rfl | (dsimp only; omega) | (apply Prod.ext <;> first | rfl | (dsimp only; omega)))))
  · skip
    refine di_tabIn 2 rfl (by omega) (by omega) (by omega) (by omega) rfl rfl ?_
    refine di_aload rfl rfl ?_
    refine dr_virt rfl rfl rfl rfl hc21.1 (f_X0_count l hl hI q6 hc21 ) (by decide) (by decide) (by decide) (Nat.le_of_ble_eq_true rfl) kNP (kIP (fun y32 y32f y32a y32b => ?_))
    obtain ⟨y32c, y32d, y32e⟩ := y32f
    have y32e2 := y32e.symm
    subst y32e2
    refine dr_iload rfl rfl ?_
    refine di_isub rfl ?_
    have ek9 : a4 = 2 := by omega
    have e9 : nF (σ.1 a1) (soP a4 (100 * a3 + a2)) = (s17 - y28) := by rw [ek9]; exact nF_ge hr22 ht23 y28k (fun x => soP_2)
    exact dr_iret (ty := .int) rfl rfl rfl (by decide) (by decide) (QX_ok hI FrC_rf hS (by omega) (by unfold spMany; (try rw [e9]); (repeat' split) <;> first | rfl | (exfalso; omega) | (apply Prod.ext <;> first | rfl | (dsimp only; omega) | (apply Prod.ext <;> first | rfl | (dsimp only; omega)))))
set_option maxHeartbeats 4000000 in
set_option maxRecDepth 100000 in
/-- Earlyends.between -/
theorem c_X6_between (l : Launch) (hl : l.stackTraces = false) {kc km : Int} {h : dm_H} (hI : Inv kc km h) {B : Int} {σ : St} (hS : CSt B σ h) (hB : B ≤ 80000) {a1 : Int} (h1a : -2147483648 ≤ a1) (h1b : a1 ≤ 2147483647) {a2 : Int} (h2a : -2147483648 ≤ a2) (h2b : a2 ≤ 2147483647) {a3 : Int} (h3a : -2147483648 ≤ a3) (h3b : a3 ≤ 2147483647) {a4 : Int} (h4a : -2147483648 ≤ a4) (h4b : a4 ≤ 2147483647) {a5 : Int} (h5a : -2147483648 ≤ a5) (h5b : a5 ≤ 2147483647) : dm_M l 86 6 8 48 [.ref 0, dI (a1), dI (a2), dI (a3), dI (a4), dI (a5)] h (QX kc km h B XB XA (spBetween σ a1 a2 a3 a4 a5)) := by
  refine dm_M_of dk_86 hl rfl (Nat.le_of_ble_eq_true rfl) ?_
  show dm_W (fun _ _ _ => True) (dm_P (QX kc km h B XB XA (spBetween σ a1 a2 a3 a4 a5)) 8 48) l 86 6 8 48 0 [some (.ref 0), some (dI (a1)), some (dI (a2)), some (dI (a3)), some (dI (a4)), some (dI (a5)), none, none, none] [] h 0 0
  refine di_aload_n rfl rfl ?_
  refine dr_iload_n rfl rfl ?_
  obtain ⟨r1, c2, c3, hc4⟩ := I_cls hI
  refine dr_virt rfl rfl rfl rfl hc4 (f_X6_bookAt l hl hI (a1 := a1) (by omega) (by omega)) (by decide) (by decide) (by decide) (Nat.le_of_ble_eq_true rfl) (fun Y h9 q9 => by obtain ⟨rfl, rfl, hC⟩ := q9; exact dr_out rfl (by decide) (by decide) (QX_1 (a := 0) hI FrC_rf hS (by omega) (by unfold spBetween; (repeat' split) <;> first | rfl | (exfalso; omega) | (apply Prod.ext <;> first | rfl | (dsimp only; omega) | (apply Prod.ext <;> first | rfl | (dsimp only; omega)))))) (kPXR (fun r5 ⟨q6, q7, q8, q10⟩ => ?_))
  refine di_astore (ls2 := [some (.ref 0), some (dI (a1)), some (dI (a2)), some (dI (a3)), some (dI (a4)), some (dI (a5)), some (.ref r5), none, none]) rfl rfl rfl ?_
  refine dr_iload_n rfl rfl ?_
  refine dr_iload_n rfl rfl ?_
  refine dr_stat rfl rfl rfl rfl (f_X6_codeOfSpan l hl hI (a0 := a2) (by omega) (by omega) (a1 := a3) (by omega) (by omega)) (by decide) (by decide) (by decide) (Nat.le_of_ble_eq_true rfl) (fun Y h9 q9 => by obtain ⟨rfl, rfl, hC⟩ := q9; exact dr_out rfl (by decide) (by decide) (QX_2 (a := 0) hI FrC_rf hS (by omega) (by unfold spBetween; (repeat' split) <;> first | rfl | (exfalso; omega) | (apply Prod.ext <;> first | rfl | (dsimp only; omega) | (apply Prod.ext <;> first | rfl | (dsimp only; omega)))))) (kPXI (fun y11 ⟨q12, q13, q14, q15⟩ => ?_))
  subst q12
  refine di_istore (ls2 := [some (.ref 0), some (dI (a1)), some (dI (a2)), some (dI (a3)), some (dI (a4)), some (dI (a5)), some (.ref r5), some (dI ((100 * a3 + a2))), none]) rfl rfl rfl ?_
  refine dr_iload rfl rfl ?_
  refine dr_iload rfl rfl ?_
  refine dr_stat rfl rfl rfl rfl (f_X6_codeOfSpan l hl hI (a0 := a4) (by omega) (by omega) (a1 := a5) (by omega) (by omega)) (by decide) (by decide) (by decide) (Nat.le_of_ble_eq_true rfl) (fun Y h9 q9 => by obtain ⟨rfl, rfl, hC⟩ := q9; exact dr_out rfl (by decide) (by decide) (QX_2 (a := 0) hI FrC_rf hS (by omega) (by unfold spBetween; (repeat' split) <;> first | rfl | (exfalso; omega) | (apply Prod.ext <;> first | rfl | (dsimp only; omega) | (apply Prod.ext <;> first | rfl | (dsimp only; omega)))))) (kPXI (fun y16 ⟨q17, q18, q19, q20⟩ => ?_))
  subst q17
  refine di_istore (ls2 := [some (.ref 0), some (dI (a1)), some (dI (a2)), some (dI (a3)), some (dI (a4)), some (dI (a5)), some (.ref r5), some (dI ((100 * a3 + a2))), some (dI ((100 * a5 + a4)))]) rfl rfl rfl ?_
  refine dr_iload rfl rfl ?_
  refine dr_iload rfl rfl ?_
  refine di_icmp_le rfl rfl (by omega) (by omega) (by omega) (by omega) (fun c21 => ?_) (fun c21 => ?_)
  · skip
    refine di_aload rfl rfl ?_
    refine dr_iload rfl rfl ?_
    refine di_const rfl ?_
    refine di_iadd rfl ?_
    obtain ⟨s22, m23, u24, w25, hc26, hr27, ht28, ma29, mb30⟩ := CSt_bk hS (k := a1) q8 q10 q7
    have sq31 : 0 ≤ s22 ∧ s22 ≤ 8 := ⟨hc26.2.2.2.2.2.1, hc26.2.2.2.2.2.2.1⟩
    have hz32 : zF (σ.1 a1) = s22 := zF_eq hr27
    refine dr_virt rfl rfl rfl rfl hc26.1 (f_X0_countBelow l hl hI q6 hc26 (a1 := ((100 * a5 + a4) + 1)) (by omega) (by omega)) (by decide) (by decide) (by decide) (Nat.le_of_ble_eq_true rfl) kNP (kIP (fun y33 y33f y33a y33b => ?_))
    obtain ⟨y33c, y33d, y33k⟩ := y33f
    have y33l : y33 ≤ s22 := y33k.2.1
    refine di_aload rfl rfl ?_
    refine dr_iload rfl rfl ?_
    refine dr_virt rfl rfl rfl rfl hc26.1 (f_X0_countBelow l hl hI q6 hc26 (a1 := (100 * a3 + a2)) (by omega) (by omega)) (by decide) (by decide) (by decide) (Nat.le_of_ble_eq_true rfl) kNP (kIP (fun y34 y34f y34a y34b => ?_))
    obtain ⟨y34c, y34d, y34k⟩ := y34f
    have y34l : y34 ≤ s22 := y34k.2.1
    refine di_isub rfl ?_
    have e9 : nF (σ.1 a1) (fun c => decide (100 * a3 + a2 ≤ c ∧ c ≤ 100 * a5 + a4)) = (y33 - y34) := nF_bt hr27 ht28 y34k y33k (by omega) (fun x => by rw [decide_eq_true_iff]; omega)
    exact dr_iret (ty := .int) rfl rfl rfl (by decide) (by decide) (QX_ok hI FrC_rf hS (by omega) (by unfold spBetween; (try rw [e9]); (repeat' split) <;> first | rfl | (exfalso; omega) | (apply Prod.ext <;> first | rfl | (dsimp only; omega) | (apply Prod.ext <;> first | rfl | (dsimp only; omega)))))
  · skip
    refine di_aload_n rfl rfl ?_
    refine dr_virt rfl rfl rfl rfl hc4 (c_X6_refuse l hl hI hS (by omega)) (by decide) (by decide) (by decide) (Nat.le_of_ble_eq_true rfl) kQCN (kQC (fun h35 hI36 hF37 hS38 => ?_))
    have hF39 := hF37
    exact dr_iret (ty := .int) rfl rfl rfl (by decide) (by decide) (QX_ok hI36 hF39 hS38 (by omega) (by unfold spBetween; (repeat' split) <;> first | rfl | (exfalso; omega) | (apply Prod.ext <;> first | rfl | (dsimp only; omega) | (apply Prod.ext <;> first | rfl | (dsimp only; omega)))))
set_option maxHeartbeats 4000000 in
set_option maxRecDepth 100000 in
/-- Earlyends.hasNote -/
theorem c_X6_hasNote (l : Launch) (hl : l.stackTraces = false) {kc km : Int} {h : dm_H} (hI : Inv kc km h) {B : Int} {σ : St} (hS : CSt B σ h) (hB : B ≤ 80000) {a1 : Int} (h1a : -2147483648 ≤ a1) (h1b : a1 ≤ 2147483647) {a2 : Int} (h2a : -2147483648 ≤ a2) (h2b : a2 ≤ 2147483647) : dm_M l 83 6 8 48 [.ref 0, dI (a1), dI (a2)] h (QX kc km h B XB XA (spHasNote σ a1 a2)) := by
  refine dm_M_of dk_83 hl rfl (Nat.le_of_ble_eq_true rfl) ?_
  show dm_W (fun _ _ _ => True) (dm_P (QX kc km h B XB XA (spHasNote σ a1 a2)) 8 48) l 83 6 8 48 0 [some (.ref 0), some (dI (a1)), some (dI (a2)), none] [] h 0 0
  refine di_aload_n rfl rfl ?_
  refine dr_iload_n rfl rfl ?_
  obtain ⟨r1, c2, c3, hc4⟩ := I_cls hI
  refine dr_virt rfl rfl rfl rfl hc4 (f_X6_bookAt l hl hI (a1 := a1) (by omega) (by omega)) (by decide) (by decide) (by decide) (Nat.le_of_ble_eq_true rfl) (fun Y h9 q9 => by obtain ⟨rfl, rfl, hC⟩ := q9; exact dr_out rfl (by decide) (by decide) (QX_1 (a := 0) hI FrC_rf hS (by omega) (by unfold spHasNote; (repeat' split) <;> first | rfl | (exfalso; omega) | (apply Prod.ext <;> first | rfl | (dsimp only; omega) | (apply Prod.ext <;> first | rfl | (dsimp only; omega)))))) (kPXR (fun r5 ⟨q6, q7, q8, q10⟩ => ?_))
  refine di_astore_n (ls2 := [some (.ref 0), some (dI (a1)), some (dI (a2)), some (.ref r5)]) rfl rfl rfl ?_
  refine dr_iload_n rfl rfl ?_
  refine dr_stat rfl rfl rfl rfl (f_X6_needNote l hl hI (a0 := a2) (by omega) (by omega)) (by decide) (by decide) (by decide) (Nat.le_of_ble_eq_true rfl) (fun Y h9 q9 => by obtain ⟨rfl, rfl, hC⟩ := q9; exact dr_out rfl (by decide) (by decide) (QX_2 (a := 0) hI FrC_rf hS (by omega) (by unfold spHasNote; (repeat' split) <;> first | rfl | (exfalso; omega) | (apply Prod.ext <;> first | rfl | (dsimp only; omega) | (apply Prod.ext <;> first | rfl | (dsimp only; omega)))))) (kPXV (fun q11 => ?_))
  refine di_aload_n rfl rfl ?_
  refine dr_iload_n rfl rfl ?_
  obtain ⟨s12, m13, u14, w15, hc16, hr17, ht18, ma19, mb20⟩ := CSt_bk hS (k := a1) q8 q10 q7
  have sq21 : 0 ≤ s12 ∧ s12 ≤ 8 := ⟨hc16.2.2.2.2.2.1, hc16.2.2.2.2.2.2.1⟩
  have hz22 : zF (σ.1 a1) = s12 := zF_eq hr17
  refine dr_virt rfl rfl rfl rfl hc16.1 (f_X0_rankOfNote l hl hI q6 hc16 (a1 := a2) (by omega) (by omega)) (by decide) (by decide) (by decide) (Nat.le_of_ble_eq_true rfl) kNP (kIP (fun y23 y23f y23a y23b => ?_))
  obtain ⟨y23c, y23d, y23k⟩ := y23f
  refine di_const rfl ?_
  refine di_icmp_eq rfl rfl (by omega) (by omega) (by omega) (by omega) (fun c24 => ?_) (fun c24 => ?_)
  · skip
    refine di_const rfl ?_
    have hz9 := hn_no hr17 (x := a2) (by rcases y23k with q9 | q9; exact q9.2; exact absurd q9.1 (by omega))
    exact dr_iret (ty := .boolean) rfl rfl (nar_z (by omega) (by omega)) (by decide) (by decide) (QX_ok hI FrC_rf hS (by omega) (by unfold spHasNote; (repeat' split) <;> first | rfl | (exfalso; omega) | (apply Prod.ext <;> first | rfl | (dsimp only; omega) | (apply Prod.ext <;> first | rfl | (dsimp only; omega)))))
  · skip
    refine di_const rfl ?_
    refine dr_goto rfl rfl ?_
    have hz9 := hn_yes hr17 (j := y23) (x := a2) (by rcases y23k with q9 | q9; exact absurd q9.1 (by omega); exact q9.1) (by rcases y23k with q9 | q9; exact absurd q9.1 (by omega); exact q9.2.1) (by rcases y23k with q9 | q9; exact absurd q9.1 (by omega); exact q9.2.2.1)
    exact dr_iret (ty := .boolean) rfl rfl (nar_z (by omega) (by omega)) (by decide) (by decide) (QX_ok hI FrC_rf hS (by omega) (by unfold spHasNote; (repeat' split) <;> first | rfl | (exfalso; omega) | (apply Prod.ext <;> first | rfl | (dsimp only; omega) | (apply Prod.ext <;> first | rfl | (dsimp only; omega)))))
set_option maxHeartbeats 4000000 in
set_option maxRecDepth 100000 in
/-- Earlyends.areSame -/
theorem c_X6_areSame (l : Launch) (hl : l.stackTraces = false) {kc km : Int} {h : dm_H} (hI : Inv kc km h) {B : Int} {σ : St} (hS : CSt B σ h) (hB : B ≤ 80000) {a1 : Int} (h1a : -2147483648 ≤ a1) (h1b : a1 ≤ 2147483647) {a2 : Int} (h2a : -2147483648 ≤ a2) (h2b : a2 ≤ 2147483647) : dm_M l 88 6 8 48 [.ref 0, dI (a1), dI (a2)] h (QX kc km h B XB XA (spAreSame σ a1 a2)) := by
  refine dm_M_of dk_88 hl rfl (Nat.le_of_ble_eq_true rfl) ?_
  show dm_W (fun _ _ _ => True) (dm_P (QX kc km h B XB XA (spAreSame σ a1 a2)) 8 48) l 88 6 8 48 0 [some (.ref 0), some (dI (a1)), some (dI (a2)), none] [] h 0 0
  refine di_aload_n rfl rfl ?_
  refine dr_iload_n rfl rfl ?_
  obtain ⟨r1, c2, c3, hc4⟩ := I_cls hI
  refine dr_virt rfl rfl rfl rfl hc4 (f_X6_bookAt l hl hI (a1 := a1) (by omega) (by omega)) (by decide) (by decide) (by decide) (Nat.le_of_ble_eq_true rfl) (fun Y h9 q9 => by obtain ⟨rfl, rfl, hC⟩ := q9; exact dr_out rfl (by decide) (by decide) (QX_1 (a := 0) hI FrC_rf hS (by omega) (by unfold spAreSame; (repeat' split) <;> first | rfl | (exfalso; omega) | (apply Prod.ext <;> first | rfl | (dsimp only; omega) | (apply Prod.ext <;> first | rfl | (dsimp only; omega)))))) (kPXR (fun r5 ⟨q6, q7, q8, q10⟩ => ?_))
  refine di_astore_n (ls2 := [some (.ref 0), some (dI (a1)), some (dI (a2)), some (.ref r5)]) rfl rfl rfl ?_
  refine di_aload_n rfl rfl ?_
  refine di_aload_n rfl rfl ?_
  refine dr_iload_n rfl rfl ?_
  refine dr_virt rfl rfl rfl rfl hc4 (f_X6_bookAt l hl hI (a1 := a2) (by omega) (by omega)) (by decide) (by decide) (by decide) (Nat.le_of_ble_eq_true rfl) (fun Y h9 q9 => by obtain ⟨rfl, rfl, hC⟩ := q9; exact dr_out rfl (by decide) (by decide) (QX_1 (a := 0) hI FrC_rf hS (by omega) (by unfold spAreSame; (repeat' split) <;> first | rfl | (exfalso; omega) | (apply Prod.ext <;> first | rfl | (dsimp only; omega) | (apply Prod.ext <;> first | rfl | (dsimp only; omega)))))) (kPXR (fun r11 ⟨q12, q13, q14, q15⟩ => ?_))
  obtain ⟨s16, m17, u18, w19, hc20, hr21, ht22, ma23, mb24⟩ := CSt_bk hS (k := a1) q8 q10 q7
  have sq25 : 0 ≤ s16 ∧ s16 ≤ 8 := ⟨hc20.2.2.2.2.2.1, hc20.2.2.2.2.2.2.1⟩
  have hz26 : zF (σ.1 a1) = s16 := zF_eq hr21
  obtain ⟨s27, m28, u29, w30, hc31, hr32, ht33, ma34, mb35⟩ := CSt_bk hS (k := a2) q14 q15 q13
  have sq36 : 0 ≤ s27 ∧ s27 ≤ 8 := ⟨hc31.2.2.2.2.2.1, hc31.2.2.2.2.2.2.1⟩
  have hz37 : zF (σ.1 a2) = s27 := zF_eq hr32
  refine dr_virt rfl rfl rfl rfl hc20.1 (f_X0_isLike l hl hI q6 hc20 q12 hc31) (by decide) (by decide) (by decide) (Nat.le_of_ble_eq_true rfl) kNP (kIP (fun y38 y38f y38a y38b => ?_))
  obtain ⟨y38c, y38d, y38k, y38k2⟩ := y38f
  have e9 : (if zF (σ.1 a1) = zF (σ.1 a2) ∧ nF (σ.1 a1) (fun c => decide (σ.1 a2 c = σ.1 a1 c)) = zF (σ.1 a1) then (1 : Int) else 0) = y38 := by rcases (by clear y38k y38k2; omega : y38 = 0 ∨ y38 = 1) with q9 | q9; (rw [if_neg (lk_n hr21 ht22 hr32 ht33 (y38k2 q9)), q9]); (rw [if_pos (lk_y hr21 hr32 (y38k q9)), q9])
  clear y38k y38k2
  exact dr_iret (ty := .boolean) rfl rfl (nar_z (by omega) (by omega)) (by decide) (by decide) (QX_ok hI FrC_rf hS (by omega) (by unfold spAreSame; (try rw [e9]); (repeat' split) <;> first | rfl | (exfalso; omega) | (apply Prod.ext <;> first | rfl | (dsimp only; omega) | (apply Prod.ext <;> first | rfl | (dsimp only; omega)))))
set_option maxHeartbeats 4000000 in
set_option maxRecDepth 100000 in
/-- EarlyendsModel.near -/
theorem n_X8_near (l : Launch) (hl : l.stackTraces = false) {kc km : Int} {h : dm_H} (hI : Inv kc km h) {th : Int} {σ : St} (hM : MSt km th σ h) {a1 : Int} (h1a : -2147483648 ≤ a1) (h1b : a1 ≤ 2147483647) {a2 : Int} (h2a : -2147483648 ≤ a2) (h2b : a2 ≤ 2147483647) {a3 : Int} (h3a : -2147483648 ≤ a3) (h3b : a3 ≤ 2147483647) {a4 : Int} (h4a : -2147483648 ≤ a4) (h4b : a4 ≤ 2147483647) : dm_M l 179 8 0 0 [.ref 26, dI (a1), dI (a2), dI (a3), dI (a4)] h (QM9 kc km h (spNear σ a1 a2 a3 a4)) := by
  obtain ⟨⟨ni, c26, ni0, ni1⟩, ⟨⟨R1, R2⟩, ⟨R3, R4⟩, ⟨R5, R6⟩, ⟨R7, R8⟩, ⟨R9, R10⟩, ⟨R11, R12⟩, R13⟩, ⟨th0, th1⟩, -⟩ := id hM
  have R14 : σ.2.2.2.2.2.1 = -1 ∨ (0 ≤ σ.2.2.2.2.2.1 ∧ σ.2.2.2.2.2.1 ≤ 9999 ∧ σ.2.2.2.2.2.1 % 100 ≤ σ.2.2.2.2.2.1 / 100) := R13
  refine dm_M_of dk_179 hl rfl (Nat.le_of_ble_eq_true rfl) ?_
  show dm_W (fun _ _ _ => True) (dm_P (QM9 kc km h (spNear σ a1 a2 a3 a4)) 0 0) l 179 8 0 0 0 [some (.ref 26), some (dI (a1)), some (dI (a2)), some (dI (a3)), some (dI (a4))] [] h 0 0
  refine di_aload_n rfl rfl ?_
  refine dr_iload_n rfl rfl ?_
  refine dr_stat rfl rfl rfl rfl (f_X8_isNoBook l hl hI (a0 := a1) (by omega) (by omega)) (by decide) (by decide) (by decide) (Nat.le_of_ble_eq_true rfl) kNP (kIP (fun y1 y1f y1a y1b => ?_))
  have y1g : 0 ≤ y1 ∧ y1 ≤ 1 ∧ (y1 = 0 → 0 ≤ a1 ∧ a1 ≤ 2) ∧ (y1 = 1 → a1 < 0 ∨ 2 < a1) := y1f
  clear y1f
  refine di_const rfl ?_
  rcases (by omega : y1 = 0 ∨ y1 = 1) with ey2 | ey2
  · skip
    rw [ey2]
    refine dr_virt rfl rfl rfl rfl c26 (f_X8_start0 l hl hI hM (a2 := 1) (by omega) (by omega)) (by decide) (by decide) (by decide) (Nat.le_of_ble_eq_true rfl) kNQN (kNQ (fun h3 hI4 hF5 hM6 => ?_))
    have hF7 := FrM_tr FrM_rf hF5
    refine di_if_ne rfl rfl (by omega) (by omega) (fun c9 => by exfalso; omega) (fun _ => ?_)
    refine di_aload_n rfl rfl ?_
    refine dr_iload_n rfl rfl ?_
    refine dr_iload_n rfl rfl ?_
    refine dr_stat rfl rfl rfl rfl (f_X8_isNoSpan l hl hI4 (a0 := a2) (by omega) (by omega) (a1 := a3) (by omega) (by omega)) (by decide) (by decide) (by decide) (Nat.le_of_ble_eq_true rfl) kNP (kIP (fun y8 y8f y8a y8b => ?_))
    have y8g : 0 ≤ y8 ∧ y8 ≤ 1 ∧ (y8 = 0 → 0 ≤ a2 ∧ a2 ≤ a3 ∧ a3 ≤ 99) ∧ (y8 = 1 → a2 < 0 ∨ a3 < a2 ∨ 99 < a3) := y8f
    clear y8f
    refine di_if_ne rfl rfl (by omega) (by omega) (fun c10 => ?_) (fun c10 => ?_)
    · skip
      refine di_const rfl ?_
      refine dr_goto rfl rfl ?_
      refine di_const rfl ?_
      obtain ⟨⟨ni11, ni11c, ni11a, ni11b⟩, -⟩ := id hM6
      refine dr_virt rfl rfl rfl rfl ni11c (f_X8_refuse1 l hl hI4 hM6 (a2 := 2) (by omega) (by omega)) (by decide) (by decide) (by decide) (Nat.le_of_ble_eq_true rfl) kNQN (kNQ (fun h12 hI13 hF14 hM15 => ?_))
      have hF16 := FrM_tr hF7 hF14
      refine di_if_eq rfl rfl (by omega) (by omega) (fun c9 => by exfalso; omega) (fun _ => ?_)
      refine di_const rfl ?_
      exact dr_iret (ty := .int) rfl rfl rfl (by decide) (by decide) (QM_no (x := 0) hI13 hF16 hM15 (by omega) (by omega) (by omega) (by unfold spNear; (repeat' split) <;> first | rfl | (exfalso; omega) | (apply Prod.ext <;> first | rfl | (dsimp only; omega) | (apply Prod.ext <;> first | rfl | (dsimp only; omega)))))
    · skip
      refine dr_iload rfl rfl ?_
      refine di_if_lt rfl rfl (by omega) (by omega) (fun c17 => ?_) (fun c17 => ?_)
      · skip
        refine di_const rfl ?_
        refine dr_goto rfl rfl ?_
        refine di_const rfl ?_
        obtain ⟨⟨ni18, ni18c, ni18a, ni18b⟩, -⟩ := id hM6
        refine dr_virt rfl rfl rfl rfl ni18c (f_X8_refuse1 l hl hI4 hM6 (a2 := 2) (by omega) (by omega)) (by decide) (by decide) (by decide) (Nat.le_of_ble_eq_true rfl) kNQN (kNQ (fun h19 hI20 hF21 hM22 => ?_))
        have hF23 := FrM_tr hF7 hF21
        refine di_if_eq rfl rfl (by omega) (by omega) (fun c9 => by exfalso; omega) (fun _ => ?_)
        refine di_const rfl ?_
        exact dr_iret (ty := .int) rfl rfl rfl (by decide) (by decide) (QM_no (x := 0) hI20 hF23 hM22 (by omega) (by omega) (by omega) (by unfold spNear; (repeat' split) <;> first | rfl | (exfalso; omega) | (apply Prod.ext <;> first | rfl | (dsimp only; omega) | (apply Prod.ext <;> first | rfl | (dsimp only; omega)))))
      · skip
        refine dr_iload rfl rfl ?_
        refine di_const rfl ?_
        refine di_icmp_le rfl rfl (by omega) (by omega) (by omega) (by omega) (fun c24 => ?_) (fun c24 => ?_)
        · skip
          refine di_const rfl ?_
          refine di_const rfl ?_
          obtain ⟨⟨ni25, ni25c, ni25a, ni25b⟩, -⟩ := id hM6
          refine dr_virt rfl rfl rfl rfl ni25c (f_X8_refuse0 l hl hI4 hM6 (a2 := 2) (by omega) (by omega)) (by decide) (by decide) (by decide) (Nat.le_of_ble_eq_true rfl) kNQN (kNQ (fun h26 hI27 hF28 hM29 => ?_))
          have hF30 := FrM_tr hF7 hF28
          refine di_if_eq rfl rfl (by omega) (by omega) (fun _ => ?_) (fun c9 => by exfalso; omega)
          refine dr_iload rfl rfl ?_
          refine di_const rfl ?_
          refine di_icmp_ge rfl rfl (by omega) (by omega) (by omega) (by omega) (fun c31 => ?_) (fun c31 => ?_)
          · skip
            refine di_aload_n rfl rfl ?_
            refine dr_iload_n rfl rfl ?_
            refine di_aload_n rfl rfl ?_
            refine dr_iload_n rfl rfl ?_
            refine di_bipush rfl (by decide) ?_
            refine dr_iload_n rfl rfl ?_
            refine di_imul rfl ?_
            refine dr_iload_n rfl rfl ?_
            refine di_iadd rfl ?_
            refine dr_iload rfl rfl ?_
            refine di_const rfl ?_
            refine di_isub rfl ?_
            obtain ⟨⟨ni32, ni32c, ni32a, ni32b⟩, -⟩ := id hM29
            obtain ⟨r33, q34, u35, w36, us37, er38, eq39, hu40, hw41, au42, aw43, hs44, as45, hr46, sa47, sb48⟩ := MSt_bk hM29 (k := a1) (by omega) (by omega)
            have hz49 : zF (σ.1 a1) = cv us37 a1 := zF_eq hr46
            have mr50 : isCR r33 := isCR_of er38 (by omega) (by omega)
            have mq51 : isNR q34 := isNR_of eq39 (by omega) (by omega)
            refine dr_virt rfl rfl rfl rfl ni32c (n_X8_nearest l hl hI27 hM29 (a1 := a1) (by omega) (by omega) (a2 := ((100 * a3) + a2)) (by omega) (by omega) (a3 := (a4 - 3)) (by omega) (by omega) er38 eq39 hu40 hw41 au42 aw43 hs44 as45 hr46 sa47 sb48) (by decide) (by decide) (by decide) (Nat.le_of_ble_eq_true rfl) kNP (kIP (fun y52 y52f y52a y52b => ?_))
            obtain ⟨y52c, y52d, y52k⟩ := y52f
            obtain ⟨y52o, y52k⟩ := y52k
            refine dr_virt rfl rfl rfl rfl ni32c (n_X8_noteAt l hl hI27 hM29 (a1 := a1) (by omega) (by omega) (a2 := y52) (by omega) (by omega) er38 eq39 hu40 hw41 au42 aw43 hs44 as45 hr46 sa47 sb48) (by decide) (by decide) (by decide) (Nat.le_of_ble_eq_true rfl) kNP (kIP (fun y53 y53f y53a y53b => ?_))
            obtain ⟨y53c, y53d, y53n⟩ := y53f
            subst y53n
            clear y52o
            have e9 : anNear (σ.1 a1) a4 (100 * a3 + a2) = (σ.1 a1 y52) := by unfold anNear; rw [if_neg (by omega)]; by_cases q9 : (a4 - 3) < 2; (rw [if_pos q9, y52k.1 q9]); (rw [if_neg q9, y52k.2 q9])
            exact dr_iret (ty := .int) rfl rfl rfl (by decide) (by decide) (QM_ok hI27 hF30 hM29 (by omega) (by omega) (by unfold spNear; (try rw [e9]); (repeat' split) <;> first | rfl | (exfalso; omega) | (apply Prod.ext <;> first | rfl | (dsimp only; omega) | (apply Prod.ext <;> first | rfl | (dsimp only; omega)))))
          · skip
            refine di_aload_n rfl rfl ?_
            refine dr_iload_n rfl rfl ?_
            refine di_bipush rfl (by decide) ?_
            refine dr_iload_n rfl rfl ?_
            refine di_imul rfl ?_
            refine dr_iload_n rfl rfl ?_
            refine di_iadd rfl ?_
            refine dr_iload rfl rfl ?_
            obtain ⟨⟨ni54, ni54c, ni54a, ni54b⟩, -⟩ := id hM29
            obtain ⟨r55, q56, u57, w58, us59, er60, eq61, hu62, hw63, au64, aw65, hs66, as67, hr68, sa69, sb70⟩ := MSt_bk hM29 (k := a1) (by omega) (by omega)
            have hz71 : zF (σ.1 a1) = cv us59 a1 := zF_eq hr68
            have mr72 : isCR r55 := isCR_of er60 (by omega) (by omega)
            have mq73 : isNR q56 := isNR_of eq61 (by omega) (by omega)
            refine dr_virt rfl rfl rfl rfl ni54c (n_X8_nearest l hl hI27 hM29 (a1 := a1) (by omega) (by omega) (a2 := ((100 * a3) + a2)) (by omega) (by omega) (a3 := a4) (by omega) (by omega) er60 eq61 hu62 hw63 au64 aw65 hs66 as67 hr68 sa69 sb70) (by decide) (by decide) (by decide) (Nat.le_of_ble_eq_true rfl) kNP (kIP (fun y74 y74f y74a y74b => ?_))
            obtain ⟨y74c, y74d, y74k⟩ := y74f
            obtain ⟨y74o, y74k⟩ := y74k
            refine dr_goto rfl rfl ?_
            clear y74o
            have e9 : anNear (σ.1 a1) a4 (100 * a3 + a2) = y74 := by unfold anNear; rw [if_pos (by omega)]; by_cases q9 : a4 < 2; (rw [if_pos q9]; exact (y74k.1 q9).symm); (rw [if_neg q9]; exact (y74k.2 q9).symm)
            exact dr_iret (ty := .int) rfl rfl rfl (by decide) (by decide) (QM_ok hI27 hF30 hM29 (by omega) (by omega) (by unfold spNear; (try rw [e9]); (repeat' split) <;> first | rfl | (exfalso; omega) | (apply Prod.ext <;> first | rfl | (dsimp only; omega) | (apply Prod.ext <;> first | rfl | (dsimp only; omega)))))
        · skip
          refine di_const rfl ?_
          refine dr_goto rfl rfl ?_
          refine di_const rfl ?_
          obtain ⟨⟨ni75, ni75c, ni75a, ni75b⟩, -⟩ := id hM6
          refine dr_virt rfl rfl rfl rfl ni75c (f_X8_refuse1 l hl hI4 hM6 (a2 := 2) (by omega) (by omega)) (by decide) (by decide) (by decide) (Nat.le_of_ble_eq_true rfl) kNQN (kNQ (fun h76 hI77 hF78 hM79 => ?_))
          have hF80 := FrM_tr hF7 hF78
          refine di_if_eq rfl rfl (by omega) (by omega) (fun c9 => by exfalso; omega) (fun _ => ?_)
          refine di_const rfl ?_
          exact dr_iret (ty := .int) rfl rfl rfl (by decide) (by decide) (QM_no (x := 0) hI77 hF80 hM79 (by omega) (by omega) (by omega) (by unfold spNear; (repeat' split) <;> first | rfl | (exfalso; omega) | (apply Prod.ext <;> first | rfl | (dsimp only; omega) | (apply Prod.ext <;> first | rfl | (dsimp only; omega)))))
  · skip
    rw [ey2]
    refine dr_virt rfl rfl rfl rfl c26 (f_X8_start1 l hl hI hM (a2 := 1) (by omega) (by omega)) (by decide) (by decide) (by decide) (Nat.le_of_ble_eq_true rfl) kNQN (kNQ (fun h81 hI82 hF83 hM84 => ?_))
    have hF85 := FrM_tr FrM_rf hF83
    refine di_if_ne rfl rfl (by omega) (by omega) (fun _ => ?_) (fun c9 => by exfalso; omega)
    refine di_const rfl ?_
    exact dr_iret (ty := .int) rfl rfl rfl (by decide) (by decide) (QM_no (x := 0) hI82 hF85 hM84 (by omega) (by omega) (by omega) (by unfold spNear; (repeat' split) <;> first | rfl | (exfalso; omega) | (apply Prod.ext <;> first | rfl | (dsimp only; omega) | (apply Prod.ext <;> first | rfl | (dsimp only; omega)))))
set_option maxHeartbeats 4000000 in
set_option maxRecDepth 100000 in
/-- EarlyendsModel.many -/
theorem n_X8_many (l : Launch) (hl : l.stackTraces = false) {kc km : Int} {h : dm_H} (hI : Inv kc km h) {th : Int} {σ : St} (hM : MSt km th σ h) {a1 : Int} (h1a : -2147483648 ≤ a1) (h1b : a1 ≤ 2147483647) {a2 : Int} (h2a : -2147483648 ≤ a2) (h2b : a2 ≤ 2147483647) {a3 : Int} (h3a : -2147483648 ≤ a3) (h3b : a3 ≤ 2147483647) {a4 : Int} (h4a : -2147483648 ≤ a4) (h4b : a4 ≤ 2147483647) : dm_M l 180 8 0 0 [.ref 26, dI (a1), dI (a2), dI (a3), dI (a4)] h (QM9 kc km h (spMany σ a1 a2 a3 a4)) := by
  obtain ⟨⟨ni, c26, ni0, ni1⟩, ⟨⟨R1, R2⟩, ⟨R3, R4⟩, ⟨R5, R6⟩, ⟨R7, R8⟩, ⟨R9, R10⟩, ⟨R11, R12⟩, R13⟩, ⟨th0, th1⟩, -⟩ := id hM
  have R14 : σ.2.2.2.2.2.1 = -1 ∨ (0 ≤ σ.2.2.2.2.2.1 ∧ σ.2.2.2.2.2.1 ≤ 9999 ∧ σ.2.2.2.2.2.1 % 100 ≤ σ.2.2.2.2.2.1 / 100) := R13
  refine dm_M_of dk_180 hl rfl (Nat.le_of_ble_eq_true rfl) ?_
  show dm_W (fun _ _ _ => True) (dm_P (QM9 kc km h (spMany σ a1 a2 a3 a4)) 0 0) l 180 8 0 0 0 [some (.ref 26), some (dI (a1)), some (dI (a2)), some (dI (a3)), some (dI (a4)), none, none] [] h 0 0
  refine di_aload_n rfl rfl ?_
  refine dr_iload_n rfl rfl ?_
  refine dr_stat rfl rfl rfl rfl (f_X8_isNoBook l hl hI (a0 := a1) (by omega) (by omega)) (by decide) (by decide) (by decide) (Nat.le_of_ble_eq_true rfl) kNP (kIP (fun y1 y1f y1a y1b => ?_))
  have y1g : 0 ≤ y1 ∧ y1 ≤ 1 ∧ (y1 = 0 → 0 ≤ a1 ∧ a1 ≤ 2) ∧ (y1 = 1 → a1 < 0 ∨ 2 < a1) := y1f
  clear y1f
  refine di_const rfl ?_
  rcases (by omega : y1 = 0 ∨ y1 = 1) with ey2 | ey2
  · skip
    rw [ey2]
    refine dr_virt rfl rfl rfl rfl c26 (f_X8_start0 l hl hI hM (a2 := 1) (by omega) (by omega)) (by decide) (by decide) (by decide) (Nat.le_of_ble_eq_true rfl) kNQN (kNQ (fun h3 hI4 hF5 hM6 => ?_))
    have hF7 := FrM_tr FrM_rf hF5
    refine di_if_ne rfl rfl (by omega) (by omega) (fun c9 => by exfalso; omega) (fun _ => ?_)
    refine di_aload_n rfl rfl ?_
    refine dr_iload_n rfl rfl ?_
    refine dr_iload_n rfl rfl ?_
    refine dr_stat rfl rfl rfl rfl (f_X8_isNoSpan l hl hI4 (a0 := a2) (by omega) (by omega) (a1 := a3) (by omega) (by omega)) (by decide) (by decide) (by decide) (Nat.le_of_ble_eq_true rfl) kNP (kIP (fun y8 y8f y8a y8b => ?_))
    have y8g : 0 ≤ y8 ∧ y8 ≤ 1 ∧ (y8 = 0 → 0 ≤ a2 ∧ a2 ≤ a3 ∧ a3 ≤ 99) ∧ (y8 = 1 → a2 < 0 ∨ a3 < a2 ∨ 99 < a3) := y8f
    clear y8f
    refine di_if_ne rfl rfl (by omega) (by omega) (fun c10 => ?_) (fun c10 => ?_)
    · skip
      refine di_const rfl ?_
      refine dr_goto rfl rfl ?_
      refine di_const rfl ?_
      obtain ⟨⟨ni11, ni11c, ni11a, ni11b⟩, -⟩ := id hM6
      refine dr_virt rfl rfl rfl rfl ni11c (f_X8_refuse1 l hl hI4 hM6 (a2 := 2) (by omega) (by omega)) (by decide) (by decide) (by decide) (Nat.le_of_ble_eq_true rfl) kNQN (kNQ (fun h12 hI13 hF14 hM15 => ?_))
      have hF16 := FrM_tr hF7 hF14
      refine di_if_eq rfl rfl (by omega) (by omega) (fun c9 => by exfalso; omega) (fun _ => ?_)
      refine di_const rfl ?_
      exact dr_iret (ty := .int) rfl rfl rfl (by decide) (by decide) (QM_no (x := 0) hI13 hF16 hM15 (by omega) (by omega) (by omega) (by unfold spMany; (repeat' split) <;> first | rfl | (exfalso; omega) | (apply Prod.ext <;> first | rfl | (dsimp only; omega) | (apply Prod.ext <;> first | rfl | (dsimp only; omega)))))
    · skip
      refine dr_iload rfl rfl ?_
      refine di_if_lt rfl rfl (by omega) (by omega) (fun c17 => ?_) (fun c17 => ?_)
      · skip
        refine di_const rfl ?_
        refine dr_goto rfl rfl ?_
        refine di_const rfl ?_
        obtain ⟨⟨ni18, ni18c, ni18a, ni18b⟩, -⟩ := id hM6
        refine dr_virt rfl rfl rfl rfl ni18c (f_X8_refuse1 l hl hI4 hM6 (a2 := 2) (by omega) (by omega)) (by decide) (by decide) (by decide) (Nat.le_of_ble_eq_true rfl) kNQN (kNQ (fun h19 hI20 hF21 hM22 => ?_))
        have hF23 := FrM_tr hF7 hF21
        refine di_if_eq rfl rfl (by omega) (by omega) (fun c9 => by exfalso; omega) (fun _ => ?_)
        refine di_const rfl ?_
        exact dr_iret (ty := .int) rfl rfl rfl (by decide) (by decide) (QM_no (x := 0) hI20 hF23 hM22 (by omega) (by omega) (by omega) (by unfold spMany; (repeat' split) <;> first | rfl | (exfalso; omega) | (apply Prod.ext <;> first | rfl | (dsimp only; omega) | (apply Prod.ext <;> first | rfl | (dsimp only; omega)))))
      · skip
        refine dr_iload rfl rfl ?_
        refine di_const rfl ?_
        refine di_icmp_le rfl rfl (by omega) (by omega) (by omega) (by omega) (fun c24 => ?_) (fun c24 => ?_)
        · skip
          refine di_const rfl ?_
          refine di_const rfl ?_
          obtain ⟨⟨ni25, ni25c, ni25a, ni25b⟩, -⟩ := id hM6
          refine dr_virt rfl rfl rfl rfl ni25c (f_X8_refuse0 l hl hI4 hM6 (a2 := 2) (by omega) (by omega)) (by decide) (by decide) (by decide) (Nat.le_of_ble_eq_true rfl) kNQN (kNQ (fun h26 hI27 hF28 hM29 => ?_))
          have hF30 := FrM_tr hF7 hF28
          refine di_if_eq rfl rfl (by omega) (by omega) (fun _ => ?_) (fun c9 => by exfalso; omega)
          obtain ⟨r31, q32, u33, w34, us35, er36, eq37, hu38, hw39, au40, aw41, hs42, as43, hr44, sa45, sb46⟩ := MSt_bk hM29 (k := a1) (by omega) (by omega)
          have hz47 : zF (σ.1 a1) = cv us35 a1 := zF_eq hr44
          have mr48 : isCR r31 := isCR_of er36 (by omega) (by omega)
          have mq49 : isNR q32 := isNR_of eq37 (by omega) (by omega)
          refine di_const rfl ?_
          refine di_istore (ls2 := [some (.ref 26), some (dI (a1)), some (dI (a2)), some (dI (a3)), some (dI (a4)), some (dI (0)), none]) rfl rfl rfl ?_
          refine di_const rfl ?_
          refine di_istore (ls2 := [some (.ref 26), some (dI (a1)), some (dI (a2)), some (dI (a3)), some (dI (a4)), some (dI (0)), some (dI (0))]) rfl rfl rfl ?_
          have L52 : ∀ (n : Nat) (i50 : Int) (i51 : Int), (8 - i51).toNat < n → 0 ≤ i50 → i50 ≤ 8 → 0 ≤ i51 → i51 ≤ 8 → i51 ≤ cv us35 a1 → i50 ≤ i51 → cnP i50 (cv u33) (soP a4 (100 * a3 + a2)) i51 → dm_W (fun _ _ _ => True) (dm_P (QM9 kc km h (spMany σ a1 a2 a3 a4)) 0 0) l 180 8 0 0 52 [some (.ref 26), some (dI (a1)), some (dI (a2)), some (dI (a3)), some (dI (a4)), some (dI (i50)), some (dI (i51))] [] h26 0 0 := by
            intro n
            induction n with
            | zero => intro i50 i51 hm; exact absurd hm (Nat.not_lt_zero _)
            | succ n ih =>
              intro i50 i51 hm59 hb53 hb54 hb55 hb56 hx57 hx58 PC
              have ihL52 := ih
              clear ih
              refine dr_iload rfl rfl ?_
              refine di_aload_n rfl rfl ?_
              obtain ⟨⟨ni60, ni60c, ni60a, ni60b⟩, -⟩ := id hM29
              refine dr_getf rfl ni60c rfl ?_
              refine dr_iload_n rfl rfl ?_
              refine di_iald rfl hs42 as43 (by omega) (by omega) (fun x61 x61f x61a x61b x61v => ?_)
              have x61w : cv us35 a1 = x61 := cv_eq x61v x61a x61b
              have x61g : 0 ≤ x61 ∧ x61 ≤ 8 := x61f
              refine di_icmp_ge rfl rfl (by omega) (by omega) (by omega) (by omega) (fun c62 => ?_) (fun c62 => ?_)
              · skip
                refine dr_iload rfl rfl ?_
                have e9 : nF (σ.1 a1) (soP a4 (100 * a3 + a2)) = i50 := (cn_e PC hr44 (by omega)).symm
                exact dr_iret (ty := .int) rfl rfl rfl (by decide) (by decide) (QM_ok hI27 hF30 hM29 (by omega) (by omega) (by unfold spMany; (try rw [e9]); (repeat' split) <;> first | rfl | (exfalso; omega) | (apply Prod.ext <;> first | rfl | (dsimp only; omega) | (apply Prod.ext <;> first | rfl | (dsimp only; omega)))))
              · skip
                refine di_aload_n rfl rfl ?_
                refine dr_getf rfl ni60c rfl ?_
                refine dr_iload_n rfl rfl ?_
                have hc63 := I_mcs hI27
                refine paaE (k0 := 28) er36 rfl hc63 (by omega) (by omega) ?_
                refine dr_iload rfl rfl ?_
                refine di_iald rfl hu38 au40 (by omega) (by omega) (fun x64 x64f x64a x64b x64v => ?_)
                have x64w : cv u33 i51 = x64 := cv_eq x64v x64a x64b
                have x64g : 0 ≤ x64 ∧ x64 ≤ 9999 ∧ x64 % 100 ≤ x64 / 100 := x64f
                refine di_bipush rfl (by decide) ?_
                refine dr_iload_n rfl rfl ?_
                refine di_imul rfl ?_
                refine dr_iload_n rfl rfl ?_
                refine di_iadd rfl ?_
                refine dr_iload rfl rfl ?_
                refine dr_stat rfl rfl rfl rfl (f_X8_isSo l hl hI27 (a0 := x64) (by omega) (by omega) (a1 := ((100 * a3) + a2)) (by omega) (by omega) (a2 := a4) (by omega) (by omega)) (by decide) (by decide) (by decide) (Nat.le_of_ble_eq_true rfl) kNP (kIP (fun y65 y65f y65a y65b => ?_))
                have y65g : 0 ≤ y65 ∧ y65 ≤ 1 ∧ (y65 = 1 → (a4 = 0 ∧ x64 < ((100 * a3) + a2)) ∨ (a4 = 1 ∧ x64 ≤ ((100 * a3) + a2)) ∨ (a4 = 2 ∧ ((100 * a3) + a2) ≤ x64) ∨ ((a4 ≠ 0 ∧ a4 ≠ 1 ∧ a4 ≠ 2) ∧ ((100 * a3) + a2) < x64)) ∧ (y65 = 0 → ¬ ((a4 = 0 ∧ x64 < ((100 * a3) + a2)) ∨ (a4 = 1 ∧ x64 ≤ ((100 * a3) + a2)) ∨ (a4 = 2 ∧ ((100 * a3) + a2) ≤ x64) ∨ ((a4 ≠ 0 ∧ a4 ≠ 1 ∧ a4 ≠ 2) ∧ ((100 * a3) + a2) < x64))) := y65f
                clear y65f
                refine di_if_eq rfl rfl (by omega) (by omega) (fun c66 => ?_) (fun c66 => ?_)
                · skip
                  refine di_iinc (ls2 := [some (.ref 26), some (dI (a1)), some (dI (a2)), some (dI (a3)), some (dI (a4)), some (dI (i50)), some (dI ((i51 + 1)))]) rfl rfl rfl rfl ?_
                  refine dr_goto rfl rfl ?_
                  exact ihL52 (i50) ((i51 + 1)) (by omega) (by omega) (by omega) (by omega) (by omega) (by omega) (by omega)  (cn_n PC (by omega) x64w (soP_f (by omega)))
                · skip
                  refine di_iinc (ls2 := [some (.ref 26), some (dI (a1)), some (dI (a2)), some (dI (a3)), some (dI (a4)), some (dI ((i50 + 1))), some (dI (i51))]) rfl rfl rfl rfl ?_
                  refine di_iinc (ls2 := [some (.ref 26), some (dI (a1)), some (dI (a2)), some (dI (a3)), some (dI (a4)), some (dI ((i50 + 1))), some (dI ((i51 + 1)))]) rfl rfl rfl rfl ?_
                  refine dr_goto rfl rfl ?_
                  exact ihL52 ((i50 + 1)) ((i51 + 1)) (by omega) (by omega) (by omega) (by omega) (by omega) (by omega) (by omega)  (cn_y PC (by omega) x64w (soP_t (by omega)))
          exact L52 _ (0) (0) (Nat.lt_succ_self _) (by omega) (by omega) (by omega) (by omega) (by omega) (by omega)  cn_0
        · skip
          refine di_const rfl ?_
          refine dr_goto rfl rfl ?_
          refine di_const rfl ?_
          obtain ⟨⟨ni67, ni67c, ni67a, ni67b⟩, -⟩ := id hM6
          refine dr_virt rfl rfl rfl rfl ni67c (f_X8_refuse1 l hl hI4 hM6 (a2 := 2) (by omega) (by omega)) (by decide) (by decide) (by decide) (Nat.le_of_ble_eq_true rfl) kNQN (kNQ (fun h68 hI69 hF70 hM71 => ?_))
          have hF72 := FrM_tr hF7 hF70
          refine di_if_eq rfl rfl (by omega) (by omega) (fun c9 => by exfalso; omega) (fun _ => ?_)
          refine di_const rfl ?_
          exact dr_iret (ty := .int) rfl rfl rfl (by decide) (by decide) (QM_no (x := 0) hI69 hF72 hM71 (by omega) (by omega) (by omega) (by unfold spMany; (repeat' split) <;> first | rfl | (exfalso; omega) | (apply Prod.ext <;> first | rfl | (dsimp only; omega) | (apply Prod.ext <;> first | rfl | (dsimp only; omega)))))
  · skip
    rw [ey2]
    refine dr_virt rfl rfl rfl rfl c26 (f_X8_start1 l hl hI hM (a2 := 1) (by omega) (by omega)) (by decide) (by decide) (by decide) (Nat.le_of_ble_eq_true rfl) kNQN (kNQ (fun h73 hI74 hF75 hM76 => ?_))
    have hF77 := FrM_tr FrM_rf hF75
    refine di_if_ne rfl rfl (by omega) (by omega) (fun _ => ?_) (fun c9 => by exfalso; omega)
    refine di_const rfl ?_
    exact dr_iret (ty := .int) rfl rfl rfl (by decide) (by decide) (QM_no (x := 0) hI74 hF77 hM76 (by omega) (by omega) (by omega) (by unfold spMany; (repeat' split) <;> first | rfl | (exfalso; omega) | (apply Prod.ext <;> first | rfl | (dsimp only; omega) | (apply Prod.ext <;> first | rfl | (dsimp only; omega)))))
set_option maxHeartbeats 4000000 in
set_option maxRecDepth 100000 in
/-- EarlyendsModel.between -/
theorem n_X8_between (l : Launch) (hl : l.stackTraces = false) {kc km : Int} {h : dm_H} (hI : Inv kc km h) {th : Int} {σ : St} (hM : MSt km th σ h) {a1 : Int} (h1a : -2147483648 ≤ a1) (h1b : a1 ≤ 2147483647) {a2 : Int} (h2a : -2147483648 ≤ a2) (h2b : a2 ≤ 2147483647) {a3 : Int} (h3a : -2147483648 ≤ a3) (h3b : a3 ≤ 2147483647) {a4 : Int} (h4a : -2147483648 ≤ a4) (h4b : a4 ≤ 2147483647) {a5 : Int} (h5a : -2147483648 ≤ a5) (h5b : a5 ≤ 2147483647) : dm_M l 181 8 0 0 [.ref 26, dI (a1), dI (a2), dI (a3), dI (a4), dI (a5)] h (QM9 kc km h (spBetween σ a1 a2 a3 a4 a5)) := by
  obtain ⟨⟨ni, c26, ni0, ni1⟩, ⟨⟨R1, R2⟩, ⟨R3, R4⟩, ⟨R5, R6⟩, ⟨R7, R8⟩, ⟨R9, R10⟩, ⟨R11, R12⟩, R13⟩, ⟨th0, th1⟩, -⟩ := id hM
  have R14 : σ.2.2.2.2.2.1 = -1 ∨ (0 ≤ σ.2.2.2.2.2.1 ∧ σ.2.2.2.2.2.1 ≤ 9999 ∧ σ.2.2.2.2.2.1 % 100 ≤ σ.2.2.2.2.2.1 / 100) := R13
  refine dm_M_of dk_181 hl rfl (Nat.le_of_ble_eq_true rfl) ?_
  show dm_W (fun _ _ _ => True) (dm_P (QM9 kc km h (spBetween σ a1 a2 a3 a4 a5)) 0 0) l 181 8 0 0 0 [some (.ref 26), some (dI (a1)), some (dI (a2)), some (dI (a3)), some (dI (a4)), some (dI (a5)), none, none, none, none] [] h 0 0
  refine di_aload_n rfl rfl ?_
  refine dr_iload_n rfl rfl ?_
  refine dr_stat rfl rfl rfl rfl (f_X8_isNoBook l hl hI (a0 := a1) (by omega) (by omega)) (by decide) (by decide) (by decide) (Nat.le_of_ble_eq_true rfl) kNP (kIP (fun y1 y1f y1a y1b => ?_))
  have y1g : 0 ≤ y1 ∧ y1 ≤ 1 ∧ (y1 = 0 → 0 ≤ a1 ∧ a1 ≤ 2) ∧ (y1 = 1 → a1 < 0 ∨ 2 < a1) := y1f
  clear y1f
  refine di_const rfl ?_
  rcases (by omega : y1 = 0 ∨ y1 = 1) with ey2 | ey2
  · skip
    rw [ey2]
    refine dr_virt rfl rfl rfl rfl c26 (f_X8_start0 l hl hI hM (a2 := 1) (by omega) (by omega)) (by decide) (by decide) (by decide) (Nat.le_of_ble_eq_true rfl) kNQN (kNQ (fun h3 hI4 hF5 hM6 => ?_))
    have hF7 := FrM_tr FrM_rf hF5
    refine di_if_ne rfl rfl (by omega) (by omega) (fun c9 => by exfalso; omega) (fun _ => ?_)
    refine di_aload_n rfl rfl ?_
    refine dr_iload_n rfl rfl ?_
    refine dr_iload_n rfl rfl ?_
    refine dr_stat rfl rfl rfl rfl (f_X8_isNoSpan l hl hI4 (a0 := a2) (by omega) (by omega) (a1 := a3) (by omega) (by omega)) (by decide) (by decide) (by decide) (Nat.le_of_ble_eq_true rfl) kNP (kIP (fun y8 y8f y8a y8b => ?_))
    have y8g : 0 ≤ y8 ∧ y8 ≤ 1 ∧ (y8 = 0 → 0 ≤ a2 ∧ a2 ≤ a3 ∧ a3 ≤ 99) ∧ (y8 = 1 → a2 < 0 ∨ a3 < a2 ∨ 99 < a3) := y8f
    clear y8f
    refine di_if_ne rfl rfl (by omega) (by omega) (fun c10 => ?_) (fun c10 => ?_)
    · skip
      refine di_const rfl ?_
      refine dr_goto rfl rfl ?_
      refine di_const rfl ?_
      obtain ⟨⟨ni11, ni11c, ni11a, ni11b⟩, -⟩ := id hM6
      refine dr_virt rfl rfl rfl rfl ni11c (f_X8_refuse1 l hl hI4 hM6 (a2 := 2) (by omega) (by omega)) (by decide) (by decide) (by decide) (Nat.le_of_ble_eq_true rfl) kNQN (kNQ (fun h12 hI13 hF14 hM15 => ?_))
      have hF16 := FrM_tr hF7 hF14
      refine di_if_eq rfl rfl (by omega) (by omega) (fun c9 => by exfalso; omega) (fun _ => ?_)
      refine di_const rfl ?_
      exact dr_iret (ty := .int) rfl rfl rfl (by decide) (by decide) (QM_no (x := 0) hI13 hF16 hM15 (by omega) (by omega) (by omega) (by unfold spBetween; (repeat' split) <;> first | rfl | (exfalso; omega) | (apply Prod.ext <;> first | rfl | (dsimp only; omega) | (apply Prod.ext <;> first | rfl | (dsimp only; omega)))))
    · skip
      refine dr_iload rfl rfl ?_
      refine dr_iload rfl rfl ?_
      refine dr_stat rfl rfl rfl rfl (f_X8_isNoSpan l hl hI4 (a0 := a4) (by omega) (by omega) (a1 := a5) (by omega) (by omega)) (by decide) (by decide) (by decide) (Nat.le_of_ble_eq_true rfl) kNP (kIP (fun y17 y17f y17a y17b => ?_))
      have y17g : 0 ≤ y17 ∧ y17 ≤ 1 ∧ (y17 = 0 → 0 ≤ a4 ∧ a4 ≤ a5 ∧ a5 ≤ 99) ∧ (y17 = 1 → a4 < 0 ∨ a5 < a4 ∨ 99 < a5) := y17f
      clear y17f
      refine di_if_eq rfl rfl (by omega) (by omega) (fun c18 => ?_) (fun c18 => ?_)
      · skip
        refine di_const rfl ?_
        refine di_const rfl ?_
        obtain ⟨⟨ni19, ni19c, ni19a, ni19b⟩, -⟩ := id hM6
        refine dr_virt rfl rfl rfl rfl ni19c (f_X8_refuse0 l hl hI4 hM6 (a2 := 2) (by omega) (by omega)) (by decide) (by decide) (by decide) (Nat.le_of_ble_eq_true rfl) kNQN (kNQ (fun h20 hI21 hF22 hM23 => ?_))
        have hF24 := FrM_tr hF7 hF22
        refine di_if_eq rfl rfl (by omega) (by omega) (fun _ => ?_) (fun c9 => by exfalso; omega)
        refine di_bipush rfl (by decide) ?_
        refine dr_iload_n rfl rfl ?_
        refine di_imul rfl ?_
        refine dr_iload_n rfl rfl ?_
        refine di_iadd rfl ?_
        refine di_istore (ls2 := [some (.ref 26), some (dI (a1)), some (dI (a2)), some (dI (a3)), some (dI (a4)), some (dI (a5)), some (dI (((100 * a3) + a2))), none, none, none]) rfl rfl rfl ?_
        refine di_bipush rfl (by decide) ?_
        refine dr_iload rfl rfl ?_
        refine di_imul rfl ?_
        refine dr_iload rfl rfl ?_
        refine di_iadd rfl ?_
        refine di_istore (ls2 := [some (.ref 26), some (dI (a1)), some (dI (a2)), some (dI (a3)), some (dI (a4)), some (dI (a5)), some (dI (((100 * a3) + a2))), some (dI (((100 * a5) + a4))), none, none]) rfl rfl rfl ?_
        refine dr_iload rfl rfl ?_
        refine dr_iload rfl rfl ?_
        refine di_icmp_le rfl rfl (by omega) (by omega) (by omega) (by omega) (fun c25 => ?_) (fun c25 => ?_)
        · skip
          obtain ⟨r26, q27, u28, w29, us30, er31, eq32, hu33, hw34, au35, aw36, hs37, as38, hr39, sa40, sb41⟩ := MSt_bk hM23 (k := a1) (by omega) (by omega)
          have hz42 : zF (σ.1 a1) = cv us30 a1 := zF_eq hr39
          have mr43 : isCR r26 := isCR_of er31 (by omega) (by omega)
          have mq44 : isNR q27 := isNR_of eq32 (by omega) (by omega)
          refine di_const rfl ?_
          refine di_istore (ls2 := [some (.ref 26), some (dI (a1)), some (dI (a2)), some (dI (a3)), some (dI (a4)), some (dI (a5)), some (dI (((100 * a3) + a2))), some (dI (((100 * a5) + a4))), some (dI (0)), none]) rfl rfl rfl ?_
          refine di_const rfl ?_
          refine di_istore (ls2 := [some (.ref 26), some (dI (a1)), some (dI (a2)), some (dI (a3)), some (dI (a4)), some (dI (a5)), some (dI (((100 * a3) + a2))), some (dI (((100 * a5) + a4))), some (dI (0)), some (dI (0))]) rfl rfl rfl ?_
          have L47 : ∀ (n : Nat) (i45 : Int) (i46 : Int), (8 - i46).toNat < n → 0 ≤ i45 → i45 ≤ 8 → 0 ≤ i46 → i46 ≤ 8 → i46 ≤ cv us30 a1 → i45 ≤ i46 → cnP i45 (cv u28) (fun c => decide (100 * a3 + a2 ≤ c ∧ c ≤ 100 * a5 + a4)) i46 → dm_W (fun _ _ _ => True) (dm_P (QM9 kc km h (spBetween σ a1 a2 a3 a4 a5)) 0 0) l 181 8 0 0 81 [some (.ref 26), some (dI (a1)), some (dI (a2)), some (dI (a3)), some (dI (a4)), some (dI (a5)), some (dI (((100 * a3) + a2))), some (dI (((100 * a5) + a4))), some (dI (i45)), some (dI (i46))] [] h20 0 0 := by
            intro n
            induction n with
            | zero => intro i45 i46 hm; exact absurd hm (Nat.not_lt_zero _)
            | succ n ih =>
              intro i45 i46 hm54 hb48 hb49 hb50 hb51 hx52 hx53 PC
              have ihL47 := ih
              clear ih
              refine dr_iload rfl rfl ?_
              refine di_aload_n rfl rfl ?_
              obtain ⟨⟨ni55, ni55c, ni55a, ni55b⟩, -⟩ := id hM23
              refine dr_getf rfl ni55c rfl ?_
              refine dr_iload_n rfl rfl ?_
              refine di_iald rfl hs37 as38 (by omega) (by omega) (fun x56 x56f x56a x56b x56v => ?_)
              have x56w : cv us30 a1 = x56 := cv_eq x56v x56a x56b
              have x56g : 0 ≤ x56 ∧ x56 ≤ 8 := x56f
              refine di_icmp_ge rfl rfl (by omega) (by omega) (by omega) (by omega) (fun c57 => ?_) (fun c57 => ?_)
              · skip
                refine dr_iload rfl rfl ?_
                have e9 : nF (σ.1 a1) (fun c => decide (100 * a3 + a2 ≤ c ∧ c ≤ 100 * a5 + a4)) = i45 := (cn_e PC hr39 (by omega)).symm
                exact dr_iret (ty := .int) rfl rfl rfl (by decide) (by decide) (QM_ok hI21 hF24 hM23 (by omega) (by omega) (by unfold spBetween; (try rw [e9]); (repeat' split) <;> first | rfl | (exfalso; omega) | (apply Prod.ext <;> first | rfl | (dsimp only; omega) | (apply Prod.ext <;> first | rfl | (dsimp only; omega)))))
              · skip
                refine di_aload_n rfl rfl ?_
                refine dr_getf rfl ni55c rfl ?_
                refine dr_iload_n rfl rfl ?_
                have hc58 := I_mcs hI21
                refine paaE (k0 := 28) er31 rfl hc58 (by omega) (by omega) ?_
                refine dr_iload rfl rfl ?_
                refine di_iald rfl hu33 au35 (by omega) (by omega) (fun x59 x59f x59a x59b x59v => ?_)
                have x59w : cv u28 i46 = x59 := cv_eq x59v x59a x59b
                have x59g : 0 ≤ x59 ∧ x59 ≤ 9999 ∧ x59 % 100 ≤ x59 / 100 := x59f
                refine dr_iload rfl rfl ?_
                refine di_icmp_lt rfl rfl (by omega) (by omega) (by omega) (by omega) (fun c60 => ?_) (fun c60 => ?_)
                · skip
                  refine di_iinc (ls2 := [some (.ref 26), some (dI (a1)), some (dI (a2)), some (dI (a3)), some (dI (a4)), some (dI (a5)), some (dI (((100 * a3) + a2))), some (dI (((100 * a5) + a4))), some (dI (i45)), some (dI ((i46 + 1)))]) rfl rfl rfl rfl ?_
                  refine dr_goto rfl rfl ?_
                  exact ihL47 (i45) ((i46 + 1)) (by omega) (by omega) (by omega) (by omega) (by omega) (by omega) (by omega)  (cn_n PC (by omega) x59w (decide_eq_false (by omega)))
                · skip
                  refine di_aload_n rfl rfl ?_
                  refine dr_getf rfl ni55c rfl ?_
                  refine dr_iload_n rfl rfl ?_
                  refine paaE (k0 := 28) er31 rfl hc58 (by omega) (by omega) ?_
                  refine dr_iload rfl rfl ?_
                  refine di_iald rfl hu33 au35 (by omega) (by omega) (fun x61 x61f x61a x61b x61v => ?_)
                  have x61w : cv u28 i46 = x61 := cv_eq x61v x61a x61b
                  have x61g : 0 ≤ x61 ∧ x61 ≤ 9999 ∧ x61 % 100 ≤ x61 / 100 := x61f
                  refine dr_iload rfl rfl ?_
                  refine di_icmp_gt rfl rfl (by omega) (by omega) (by omega) (by omega) (fun c62 => ?_) (fun c62 => ?_)
                  · skip
                    refine di_iinc (ls2 := [some (.ref 26), some (dI (a1)), some (dI (a2)), some (dI (a3)), some (dI (a4)), some (dI (a5)), some (dI (((100 * a3) + a2))), some (dI (((100 * a5) + a4))), some (dI (i45)), some (dI ((i46 + 1)))]) rfl rfl rfl rfl ?_
                    refine dr_goto rfl rfl ?_
                    exact ihL47 (i45) ((i46 + 1)) (by omega) (by omega) (by omega) (by omega) (by omega) (by omega) (by omega)  (cn_n PC (by omega) x61w (decide_eq_false (by omega)))
                  · skip
                    refine di_iinc (ls2 := [some (.ref 26), some (dI (a1)), some (dI (a2)), some (dI (a3)), some (dI (a4)), some (dI (a5)), some (dI (((100 * a3) + a2))), some (dI (((100 * a5) + a4))), some (dI ((i45 + 1))), some (dI (i46))]) rfl rfl rfl rfl ?_
                    refine di_iinc (ls2 := [some (.ref 26), some (dI (a1)), some (dI (a2)), some (dI (a3)), some (dI (a4)), some (dI (a5)), some (dI (((100 * a3) + a2))), some (dI (((100 * a5) + a4))), some (dI ((i45 + 1))), some (dI ((i46 + 1)))]) rfl rfl rfl rfl ?_
                    refine dr_goto rfl rfl ?_
                    exact ihL47 ((i45 + 1)) ((i46 + 1)) (by omega) (by omega) (by omega) (by omega) (by omega) (by omega) (by omega)  (cn_y PC (by omega) x61w (decide_eq_true (by omega)))
          exact L47 _ (0) (0) (Nat.lt_succ_self _) (by omega) (by omega) (by omega) (by omega) (by omega) (by omega)  cn_0
        · skip
          refine di_aload_n rfl rfl ?_
          obtain ⟨⟨ni63, ni63c, ni63a, ni63b⟩, -⟩ := id hM23
          refine dr_virt rfl rfl rfl rfl ni63c (n_X8_nine l hl hI21 hM23) (by decide) (by decide) (by decide) (Nat.le_of_ble_eq_true rfl) kNQN (kNQ (fun h64 hI65 hF66 hM67 => ?_))
          have hF68 := FrM_tr hF24 hF66
          exact dr_iret (ty := .int) rfl rfl rfl (by decide) (by decide) (QM_ok hI65 hF68 hM67 (by omega) (by omega) (by unfold spBetween; (repeat' split) <;> first | rfl | (exfalso; omega) | (apply Prod.ext <;> first | rfl | (dsimp only; omega) | (apply Prod.ext <;> first | rfl | (dsimp only; omega)))))
      · skip
        refine di_const rfl ?_
        refine dr_goto rfl rfl ?_
        refine di_const rfl ?_
        obtain ⟨⟨ni69, ni69c, ni69a, ni69b⟩, -⟩ := id hM6
        refine dr_virt rfl rfl rfl rfl ni69c (f_X8_refuse1 l hl hI4 hM6 (a2 := 2) (by omega) (by omega)) (by decide) (by decide) (by decide) (Nat.le_of_ble_eq_true rfl) kNQN (kNQ (fun h70 hI71 hF72 hM73 => ?_))
        have hF74 := FrM_tr hF7 hF72
        refine di_if_eq rfl rfl (by omega) (by omega) (fun c9 => by exfalso; omega) (fun _ => ?_)
        refine di_const rfl ?_
        exact dr_iret (ty := .int) rfl rfl rfl (by decide) (by decide) (QM_no (x := 0) hI71 hF74 hM73 (by omega) (by omega) (by omega) (by unfold spBetween; (repeat' split) <;> first | rfl | (exfalso; omega) | (apply Prod.ext <;> first | rfl | (dsimp only; omega) | (apply Prod.ext <;> first | rfl | (dsimp only; omega)))))
  · skip
    rw [ey2]
    refine dr_virt rfl rfl rfl rfl c26 (f_X8_start1 l hl hI hM (a2 := 1) (by omega) (by omega)) (by decide) (by decide) (by decide) (Nat.le_of_ble_eq_true rfl) kNQN (kNQ (fun h75 hI76 hF77 hM78 => ?_))
    have hF79 := FrM_tr FrM_rf hF77
    refine di_if_ne rfl rfl (by omega) (by omega) (fun _ => ?_) (fun c9 => by exfalso; omega)
    refine di_const rfl ?_
    exact dr_iret (ty := .int) rfl rfl rfl (by decide) (by decide) (QM_no (x := 0) hI76 hF79 hM78 (by omega) (by omega) (by omega) (by unfold spBetween; (repeat' split) <;> first | rfl | (exfalso; omega) | (apply Prod.ext <;> first | rfl | (dsimp only; omega) | (apply Prod.ext <;> first | rfl | (dsimp only; omega)))))
set_option maxHeartbeats 4000000 in
set_option maxRecDepth 100000 in
/-- EarlyendsModel.hasNote -/
theorem n_X8_hasNote (l : Launch) (hl : l.stackTraces = false) {kc km : Int} {h : dm_H} (hI : Inv kc km h) {th : Int} {σ : St} (hM : MSt km th σ h) {a1 : Int} (h1a : -2147483648 ≤ a1) (h1b : a1 ≤ 2147483647) {a2 : Int} (h2a : -2147483648 ≤ a2) (h2b : a2 ≤ 2147483647) : dm_M l 176 8 0 0 [.ref 26, dI (a1), dI (a2)] h (QM9 kc km h (spHasNote σ a1 a2)) := by
  obtain ⟨⟨ni, c26, ni0, ni1⟩, ⟨⟨R1, R2⟩, ⟨R3, R4⟩, ⟨R5, R6⟩, ⟨R7, R8⟩, ⟨R9, R10⟩, ⟨R11, R12⟩, R13⟩, ⟨th0, th1⟩, -⟩ := id hM
  have R14 : σ.2.2.2.2.2.1 = -1 ∨ (0 ≤ σ.2.2.2.2.2.1 ∧ σ.2.2.2.2.2.1 ≤ 9999 ∧ σ.2.2.2.2.2.1 % 100 ≤ σ.2.2.2.2.2.1 / 100) := R13
  refine dm_M_of dk_176 hl rfl (Nat.le_of_ble_eq_true rfl) ?_
  show dm_W (fun _ _ _ => True) (dm_P (QM9 kc km h (spHasNote σ a1 a2)) 0 0) l 176 8 0 0 0 [some (.ref 26), some (dI (a1)), some (dI (a2)), none] [] h 0 0
  refine di_aload_n rfl rfl ?_
  refine dr_iload_n rfl rfl ?_
  refine dr_stat rfl rfl rfl rfl (f_X8_isNoBook l hl hI (a0 := a1) (by omega) (by omega)) (by decide) (by decide) (by decide) (Nat.le_of_ble_eq_true rfl) kNP (kIP (fun y1 y1f y1a y1b => ?_))
  have y1g : 0 ≤ y1 ∧ y1 ≤ 1 ∧ (y1 = 0 → 0 ≤ a1 ∧ a1 ≤ 2) ∧ (y1 = 1 → a1 < 0 ∨ 2 < a1) := y1f
  clear y1f
  refine di_const rfl ?_
  rcases (by omega : y1 = 0 ∨ y1 = 1) with ey2 | ey2
  · skip
    rw [ey2]
    refine dr_virt rfl rfl rfl rfl c26 (f_X8_start0 l hl hI hM (a2 := 1) (by omega) (by omega)) (by decide) (by decide) (by decide) (Nat.le_of_ble_eq_true rfl) kNQN (kNQ (fun h3 hI4 hF5 hM6 => ?_))
    have hF7 := FrM_tr FrM_rf hF5
    refine di_if_ne rfl rfl (by omega) (by omega) (fun c9 => by exfalso; omega) (fun _ => ?_)
    refine di_aload_n rfl rfl ?_
    refine dr_iload_n rfl rfl ?_
    refine dr_stat rfl rfl rfl rfl (f_X8_isNo99 l hl hI4 (a0 := a2) (by omega) (by omega)) (by decide) (by decide) (by decide) (Nat.le_of_ble_eq_true rfl) kNP (kIP (fun y8 y8f y8a y8b => ?_))
    have y8g : 0 ≤ y8 ∧ y8 ≤ 1 ∧ (y8 = 0 → 0 ≤ a2 ∧ a2 ≤ 99) ∧ (y8 = 1 → a2 < 0 ∨ 99 < a2) := y8f
    clear y8f
    refine di_const rfl ?_
    obtain ⟨⟨ni10, ni10c, ni10a, ni10b⟩, -⟩ := id hM6
    rcases (by omega : y8 = 0 ∨ y8 = 1) with ey11 | ey11
    · skip
      rw [ey11]
      refine dr_virt rfl rfl rfl rfl ni10c (f_X8_refuse0 l hl hI4 hM6 (a2 := 2) (by omega) (by omega)) (by decide) (by decide) (by decide) (Nat.le_of_ble_eq_true rfl) kNQN (kNQ (fun h12 hI13 hF14 hM15 => ?_))
      have hF16 := FrM_tr hF7 hF14
      refine di_if_eq rfl rfl (by omega) (by omega) (fun _ => ?_) (fun c9 => by exfalso; omega)
      obtain ⟨r17, q18, u19, w20, us21, er22, eq23, hu24, hw25, au26, aw27, hs28, as29, hr30, sa31, sb32⟩ := MSt_bk hM15 (k := a1) (by omega) (by omega)
      have hz33 : zF (σ.1 a1) = cv us21 a1 := zF_eq hr30
      have mr34 : isCR r17 := isCR_of er22 (by omega) (by omega)
      have mq35 : isNR q18 := isNR_of eq23 (by omega) (by omega)
      refine di_const rfl ?_
      refine di_istore_n (ls2 := [some (.ref 26), some (dI (a1)), some (dI (a2)), some (dI (0))]) rfl rfl rfl ?_
      have L37 : ∀ (n : Nat) (i36 : Int), (8 - i36).toNat < n → 0 ≤ i36 → i36 ≤ 8 → i36 ≤ cv us21 a1 → (∀ j9 : Int, 0 ≤ j9 → j9 < i36 → cv w20 j9 ≠ a2) → dm_W (fun _ _ _ => True) (dm_P (QM9 kc km h (spHasNote σ a1 a2)) 0 0) l 176 8 0 0 28 [some (.ref 26), some (dI (a1)), some (dI (a2)), some (dI (i36))] [] h12 0 0 := by
        intro n
        induction n with
        | zero => intro i36 hm; exact absurd hm (Nat.not_lt_zero _)
        | succ n ih =>
          intro i36 hm41 hb38 hb39 hx40 PN
          have ihL37 := ih
          clear ih
          refine dr_iload_n rfl rfl ?_
          refine di_aload_n rfl rfl ?_
          obtain ⟨⟨ni42, ni42c, ni42a, ni42b⟩, -⟩ := id hM15
          refine dr_getf rfl ni42c rfl ?_
          refine dr_iload_n rfl rfl ?_
          refine di_iald rfl hs28 as29 (by omega) (by omega) (fun x43 x43f x43a x43b x43v => ?_)
          have x43w : cv us21 a1 = x43 := cv_eq x43v x43a x43b
          have x43g : 0 ≤ x43 ∧ x43 ≤ 8 := x43f
          refine di_icmp_ge rfl rfl (by omega) (by omega) (by omega) (by omega) (fun c44 => ?_) (fun c44 => ?_)
          · skip
            refine di_const rfl ?_
            have hz9 := hn_no hr30 (x := a2) (fun j9 h1 h2 => PN j9 h1 (by omega))
            exact dr_iret (ty := .boolean) rfl rfl (nar_z (by omega) (by omega)) (by decide) (by decide) (QM_ok hI13 hF16 hM15 (by omega) (by omega) (by unfold spHasNote; (repeat' split) <;> first | rfl | (exfalso; omega) | (apply Prod.ext <;> first | rfl | (dsimp only; omega) | (apply Prod.ext <;> first | rfl | (dsimp only; omega)))))
          · skip
            refine di_aload_n rfl rfl ?_
            refine dr_getf rfl ni42c rfl ?_
            refine dr_iload_n rfl rfl ?_
            have hc45 := I_mns hI13
            refine paaE (k0 := 32) eq23 rfl hc45 (by omega) (by omega) ?_
            refine dr_iload_n rfl rfl ?_
            refine di_iald rfl hw25 aw27 (by omega) (by omega) (fun x46 x46f x46a x46b x46v => ?_)
            have x46w : cv w20 i36 = x46 := cv_eq x46v x46a x46b
            refine dr_iload_n rfl rfl ?_
            refine di_icmp_ne rfl rfl (by omega) (by omega) (by omega) (by omega) (fun c47 => ?_) (fun c47 => ?_)
            · skip
              refine di_iinc (ls2 := [some (.ref 26), some (dI (a1)), some (dI (a2)), some (dI ((i36 + 1)))]) rfl rfl rfl rfl ?_
              refine dr_goto rfl rfl ?_
              exact ihL37 ((i36 + 1)) (by omega) (by omega) (by omega) (by omega)  (fun j9 h1 h2 => (Int.lt_or_le j9 (i36)).elim (fun e9 => PN j9 h1 e9) (fun e9 => by rw [show j9 = i36 by omega]; omega))
            · skip
              refine di_const rfl ?_
              have hz9 := hn_yes hr30 (j := i36) (x := a2) (by omega) (by omega) (by omega)
              exact dr_iret (ty := .boolean) rfl rfl (nar_z (by omega) (by omega)) (by decide) (by decide) (QM_ok hI13 hF16 hM15 (by omega) (by omega) (by unfold spHasNote; (repeat' split) <;> first | rfl | (exfalso; omega) | (apply Prod.ext <;> first | rfl | (dsimp only; omega) | (apply Prod.ext <;> first | rfl | (dsimp only; omega)))))
      exact L37 _ (0) (Nat.lt_succ_self _) (by omega) (by omega) (by omega)  (fun j9 h1 h2 => absurd h2 (by omega))
    · skip
      rw [ey11]
      refine dr_virt rfl rfl rfl rfl ni10c (f_X8_refuse1 l hl hI4 hM6 (a2 := 2) (by omega) (by omega)) (by decide) (by decide) (by decide) (Nat.le_of_ble_eq_true rfl) kNQN (kNQ (fun h48 hI49 hF50 hM51 => ?_))
      have hF52 := FrM_tr hF7 hF50
      refine di_if_eq rfl rfl (by omega) (by omega) (fun c9 => by exfalso; omega) (fun _ => ?_)
      refine di_const rfl ?_
      exact dr_iret (ty := .boolean) rfl rfl (nar_z (by omega) (by omega)) (by decide) (by decide) (QM_no (x := 0) hI49 hF52 hM51 (by omega) (by omega) (by omega) (by unfold spHasNote; (repeat' split) <;> first | rfl | (exfalso; omega) | (apply Prod.ext <;> first | rfl | (dsimp only; omega) | (apply Prod.ext <;> first | rfl | (dsimp only; omega)))))
  · skip
    rw [ey2]
    refine dr_virt rfl rfl rfl rfl c26 (f_X8_start1 l hl hI hM (a2 := 1) (by omega) (by omega)) (by decide) (by decide) (by decide) (Nat.le_of_ble_eq_true rfl) kNQN (kNQ (fun h53 hI54 hF55 hM56 => ?_))
    have hF57 := FrM_tr FrM_rf hF55
    refine di_if_ne rfl rfl (by omega) (by omega) (fun _ => ?_) (fun c9 => by exfalso; omega)
    refine di_const rfl ?_
    exact dr_iret (ty := .boolean) rfl rfl (nar_z (by omega) (by omega)) (by decide) (by decide) (QM_no (x := 0) hI54 hF57 hM56 (by omega) (by omega) (by omega) (by unfold spHasNote; (repeat' split) <;> first | rfl | (exfalso; omega) | (apply Prod.ext <;> first | rfl | (dsimp only; omega) | (apply Prod.ext <;> first | rfl | (dsimp only; omega)))))
set_option maxHeartbeats 4000000 in
set_option maxRecDepth 100000 in
/-- EarlyendsModel.areSame -/
theorem n_X8_areSame (l : Launch) (hl : l.stackTraces = false) {kc km : Int} {h : dm_H} (hI : Inv kc km h) {th : Int} {σ : St} (hM : MSt km th σ h) {a1 : Int} (h1a : -2147483648 ≤ a1) (h1b : a1 ≤ 2147483647) {a2 : Int} (h2a : -2147483648 ≤ a2) (h2b : a2 ≤ 2147483647) : dm_M l 184 8 0 0 [.ref 26, dI (a1), dI (a2)] h (QM9 kc km h (spAreSame σ a1 a2)) := by
  obtain ⟨⟨ni, c26, ni0, ni1⟩, ⟨⟨R1, R2⟩, ⟨R3, R4⟩, ⟨R5, R6⟩, ⟨R7, R8⟩, ⟨R9, R10⟩, ⟨R11, R12⟩, R13⟩, ⟨th0, th1⟩, -⟩ := id hM
  have R14 : σ.2.2.2.2.2.1 = -1 ∨ (0 ≤ σ.2.2.2.2.2.1 ∧ σ.2.2.2.2.2.1 ≤ 9999 ∧ σ.2.2.2.2.2.1 % 100 ≤ σ.2.2.2.2.2.1 / 100) := R13
  refine dm_M_of dk_184 hl rfl (Nat.le_of_ble_eq_true rfl) ?_
  show dm_W (fun _ _ _ => True) (dm_P (QM9 kc km h (spAreSame σ a1 a2)) 0 0) l 184 8 0 0 0 [some (.ref 26), some (dI (a1)), some (dI (a2)), none] [] h 0 0
  refine di_aload_n rfl rfl ?_
  refine dr_iload_n rfl rfl ?_
  refine dr_stat rfl rfl rfl rfl (f_X8_isNoBook l hl hI (a0 := a1) (by omega) (by omega)) (by decide) (by decide) (by decide) (Nat.le_of_ble_eq_true rfl) kNP (kIP (fun y1 y1f y1a y1b => ?_))
  have y1g : 0 ≤ y1 ∧ y1 ≤ 1 ∧ (y1 = 0 → 0 ≤ a1 ∧ a1 ≤ 2) ∧ (y1 = 1 → a1 < 0 ∨ 2 < a1) := y1f
  clear y1f
  refine di_if_ne rfl rfl (by omega) (by omega) (fun c2 => ?_) (fun c2 => ?_)
  · skip
    refine di_const rfl ?_
    refine dr_goto rfl rfl ?_
    refine di_const rfl ?_
    refine dr_virt rfl rfl rfl rfl c26 (f_X8_start1 l hl hI hM (a2 := 1) (by omega) (by omega)) (by decide) (by decide) (by decide) (Nat.le_of_ble_eq_true rfl) kNQN (kNQ (fun h3 hI4 hF5 hM6 => ?_))
    have hF7 := FrM_tr FrM_rf hF5
    refine di_if_ne rfl rfl (by omega) (by omega) (fun _ => ?_) (fun c9 => by exfalso; omega)
    refine di_const rfl ?_
    exact dr_iret (ty := .boolean) rfl rfl (nar_z (by omega) (by omega)) (by decide) (by decide) (QM_no (x := 0) hI4 hF7 hM6 (by omega) (by omega) (by omega) (by unfold spAreSame; (repeat' split) <;> first | rfl | (exfalso; omega) | (apply Prod.ext <;> first | rfl | (dsimp only; omega) | (apply Prod.ext <;> first | rfl | (dsimp only; omega)))))
  · skip
    refine dr_iload_n rfl rfl ?_
    refine dr_stat rfl rfl rfl rfl (f_X8_isNoBook l hl hI (a0 := a2) (by omega) (by omega)) (by decide) (by decide) (by decide) (Nat.le_of_ble_eq_true rfl) kNP (kIP (fun y8 y8f y8a y8b => ?_))
    have y8g : 0 ≤ y8 ∧ y8 ≤ 1 ∧ (y8 = 0 → 0 ≤ a2 ∧ a2 ≤ 2) ∧ (y8 = 1 → a2 < 0 ∨ 2 < a2) := y8f
    clear y8f
    refine di_if_eq rfl rfl (by omega) (by omega) (fun c10 => ?_) (fun c10 => ?_)
    · skip
      refine di_const rfl ?_
      refine di_const rfl ?_
      refine dr_virt rfl rfl rfl rfl c26 (f_X8_start0 l hl hI hM (a2 := 1) (by omega) (by omega)) (by decide) (by decide) (by decide) (Nat.le_of_ble_eq_true rfl) kNQN (kNQ (fun h11 hI12 hF13 hM14 => ?_))
      have hF15 := FrM_tr FrM_rf hF13
      refine di_if_ne rfl rfl (by omega) (by omega) (fun c9 => by exfalso; omega) (fun _ => ?_)
      obtain ⟨r16, q17, u18, w19, us20, er21, eq22, hu23, hw24, au25, aw26, hs27, as28, hr29, sa30, sb31⟩ := MSt_bk hM14 (k := a1) (by omega) (by omega)
      have hz32 : zF (σ.1 a1) = cv us20 a1 := zF_eq hr29
      have mr33 : isCR r16 := isCR_of er21 (by omega) (by omega)
      have mq34 : isNR q17 := isNR_of eq22 (by omega) (by omega)
      obtain ⟨r35, q36, u37, w38, us39, er40, eq41, hu42, hw43, au44, aw45, hs46, as47, hr48, sa49, sb50⟩ := MSt_bk hM14 (k := a2) (by omega) (by omega)
      have es51 := some20 hs27 hs46
      subst es51
      have hz52 : zF (σ.1 a2) = cv us20 a2 := zF_eq hr48
      have mr53 : isCR r35 := isCR_of er40 (by omega) (by omega)
      have mq54 : isNR q36 := isNR_of eq41 (by omega) (by omega)
      refine di_aload_n rfl rfl ?_
      obtain ⟨⟨ni55, ni55c, ni55a, ni55b⟩, -⟩ := id hM14
      refine dr_getf rfl ni55c rfl ?_
      refine dr_iload_n rfl rfl ?_
      refine di_iald rfl hs46 as47 (by omega) (by omega) (fun x56 x56f x56a x56b x56v => ?_)
      have x56w : cv us20 a1 = x56 := cv_eq x56v x56a x56b
      have x56g : 0 ≤ x56 ∧ x56 ≤ 8 := x56f
      refine di_aload_n rfl rfl ?_
      refine dr_getf rfl ni55c rfl ?_
      refine dr_iload_n rfl rfl ?_
      refine di_iald rfl hs46 as47 (by omega) (by omega) (fun x57 x57f x57a x57b x57v => ?_)
      have x57w : cv us20 a2 = x57 := cv_eq x57v x57a x57b
      have x57g : 0 ≤ x57 ∧ x57 ≤ 8 := x57f
      refine di_icmp_eq rfl rfl (by omega) (by omega) (by omega) (by omega) (fun c58 => ?_) (fun c58 => ?_)
      · skip
        refine di_const rfl ?_
        refine di_istore_n (ls2 := [some (.ref 26), some (dI (a1)), some (dI (a2)), some (dI (0))]) rfl rfl rfl ?_
        have L60 : ∀ (n : Nat) (i59 : Int), (8 - i59).toNat < n → 0 ≤ i59 → i59 ≤ 8 → i59 ≤ cv us20 a1 → (∀ j9 : Int, 0 ≤ j9 → j9 < i59 → σ.1 a2 (cv u18 j9) = cv w19 j9) → dm_W (fun _ _ _ => True) (dm_P (QM9 kc km h (spAreSame σ a1 a2)) 0 0) l 184 8 0 0 46 [some (.ref 26), some (dI (a1)), some (dI (a2)), some (dI (i59))] [] h11 0 0 := by
          intro n
          induction n with
          | zero => intro i59 hm; exact absurd hm (Nat.not_lt_zero _)
          | succ n ih =>
            intro i59 hm64 hb61 hb62 hx63 PS
            have ihL60 := ih
            clear ih
            refine dr_iload_n rfl rfl ?_
            refine di_aload_n rfl rfl ?_
            refine dr_getf rfl ni55c rfl ?_
            refine dr_iload_n rfl rfl ?_
            refine di_iald rfl hs46 as47 (by omega) (by omega) (fun x65 x65f x65a x65b x65v => ?_)
            have x65w : cv us20 a1 = x65 := cv_eq x65v x65a x65b
            have x65g : 0 ≤ x65 ∧ x65 ≤ 8 := x65f
            refine di_icmp_ge rfl rfl (by omega) (by omega) (by omega) (by omega) (fun c66 => ?_) (fun c66 => ?_)
            · skip
              refine di_const rfl ?_
              have hz9 := sm_y hr29 hr48 (by omega) (fun j9 h1 h2 => PS j9 h1 (by omega))
              exact dr_iret (ty := .boolean) rfl rfl (nar_z (by omega) (by omega)) (by decide) (by decide) (QM_ok hI12 hF15 hM14 (by omega) (by omega) (by unfold spAreSame; (repeat' split) <;> first | rfl | (exfalso; omega) | (apply Prod.ext <;> first | rfl | (dsimp only; omega) | (apply Prod.ext <;> first | rfl | (dsimp only; omega)))))
            · skip
              refine di_aload_n rfl rfl ?_
              refine dr_iload_n rfl rfl ?_
              refine di_aload_n rfl rfl ?_
              refine dr_getf rfl ni55c rfl ?_
              refine dr_iload_n rfl rfl ?_
              have hc67 := I_mcs hI12
              refine paaE (k0 := 28) er21 rfl hc67 (by omega) (by omega) ?_
              refine dr_iload_n rfl rfl ?_
              refine di_iald rfl hu23 au25 (by omega) (by omega) (fun x68 x68f x68a x68b x68v => ?_)
              have x68w : cv u18 i59 = x68 := cv_eq x68v x68a x68b
              have x68g : 0 ≤ x68 ∧ x68 ≤ 9999 ∧ x68 % 100 ≤ x68 / 100 := x68f
              refine dr_virt rfl rfl rfl rfl ni55c (n_X8_noteAt l hl hI12 hM14 (a1 := a2) (by omega) (by omega) (a2 := x68) (by omega) (by omega) er40 eq41 hu42 hw43 au44 aw45 hs46 as47 hr48 sa49 sb50) (by decide) (by decide) (by decide) (Nat.le_of_ble_eq_true rfl) kNP (kIP (fun y69 y69f y69a y69b => ?_))
              obtain ⟨y69c, y69d, y69n⟩ := y69f
              subst y69n
              refine di_aload_n rfl rfl ?_
              refine dr_getf rfl ni55c rfl ?_
              refine dr_iload_n rfl rfl ?_
              have hc70 := I_mns hI12
              refine paaE (k0 := 32) eq22 rfl hc70 (by omega) (by omega) ?_
              refine dr_iload_n rfl rfl ?_
              refine di_iald rfl hw24 aw26 (by omega) (by omega) (fun x71 x71f x71a x71b x71v => ?_)
              have x71w : cv w19 i59 = x71 := cv_eq x71v x71a x71b
              refine di_icmp_eq rfl rfl (by omega) (by omega) (by omega) (by omega) (fun c72 => ?_) (fun c72 => ?_)
              · skip
                refine di_iinc (ls2 := [some (.ref 26), some (dI (a1)), some (dI (a2)), some (dI ((i59 + 1)))]) rfl rfl rfl rfl ?_
                refine dr_goto rfl rfl ?_
                exact ihL60 ((i59 + 1)) (by omega) (by omega) (by omega) (by omega)  (fun j9 h1 h2 => (Int.lt_or_le j9 (i59)).elim (fun e9 => PS j9 h1 e9) (fun e9 => by rw [show j9 = i59 by omega, x68w]; omega))
              · skip
                refine di_const rfl ?_
                have hz9 := sm_n (G := σ.1 a2) hr29 (j := i59) (by omega) (by omega) (fun q9 => by rw [x68w] at q9; omega)
                exact dr_iret (ty := .boolean) rfl rfl (nar_z (by omega) (by omega)) (by decide) (by decide) (QM_ok hI12 hF15 hM14 (by omega) (by omega) (by unfold spAreSame; (repeat' split) <;> first | rfl | (exfalso; omega) | (apply Prod.ext <;> first | rfl | (dsimp only; omega) | (apply Prod.ext <;> first | rfl | (dsimp only; omega)))))
        exact L60 _ (0) (Nat.lt_succ_self _) (by omega) (by omega) (by omega)  (fun j9 h1 h2 => absurd h2 (by omega))
      · skip
        refine di_const rfl ?_
        have hz9 := sm_z hr29 hr48 (by omega)
        exact dr_iret (ty := .boolean) rfl rfl (nar_z (by omega) (by omega)) (by decide) (by decide) (QM_ok hI12 hF15 hM14 (by omega) (by omega) (by unfold spAreSame; (repeat' split) <;> first | rfl | (exfalso; omega) | (apply Prod.ext <;> first | rfl | (dsimp only; omega) | (apply Prod.ext <;> first | rfl | (dsimp only; omega)))))
    · skip
      refine di_const rfl ?_
      refine dr_goto rfl rfl ?_
      refine di_const rfl ?_
      refine dr_virt rfl rfl rfl rfl c26 (f_X8_start1 l hl hI hM (a2 := 1) (by omega) (by omega)) (by decide) (by decide) (by decide) (Nat.le_of_ble_eq_true rfl) kNQN (kNQ (fun h73 hI74 hF75 hM76 => ?_))
      have hF77 := FrM_tr FrM_rf hF75
      refine di_if_ne rfl rfl (by omega) (by omega) (fun _ => ?_) (fun c9 => by exfalso; omega)
      refine di_const rfl ?_
      exact dr_iret (ty := .boolean) rfl rfl (nar_z (by omega) (by omega)) (by decide) (by decide) (QM_no (x := 0) hI74 hF77 hM76 (by omega) (by omega) (by omega) (by unfold spAreSame; (repeat' split) <;> first | rfl | (exfalso; omega) | (apply Prod.ext <;> first | rfl | (dsimp only; omega) | (apply Prod.ext <;> first | rfl | (dsimp only; omega)))))
