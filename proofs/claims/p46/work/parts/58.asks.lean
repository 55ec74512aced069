/-! ===== the deepest place ===== -/
theorem bb_cnt {S s : Int} {H : Int → Prop} {f : Int → Int} {P : Int → Bool} (h : hsP S s H) (s0 : 0 ≤ s) (s8 : s ≤ 8) (hP : ∀ r, P (f r) = true ↔ H r) : bb S 8 = cnt f P s.toNat := by
  have k : ∀ n : Nat, n ≤ 8 → bb S (n : Int) = cnt f P (if (n : Int) < s then n else s.toNat) := by
    intro n
    induction n with
    | zero => intro _; by_cases q : ((0 : Nat) : Int) < s
              · rw [if_pos q]; rfl
              · rw [if_neg q, show s.toNat = 0 by omega]; rfl
    | succ n ih =>
      intro hn
      have ih := ih (by omega)
      have hb := h.2 (n : Int) (by omega) (by omega)
      by_cases q : (n : Int) < s
      · rw [if_pos q] at ih
        have e : cnt f P (if ((n + 1 : Nat) : Int) < s then n + 1 else s.toNat) = cnt f P n + (if P (f (n : Int)) then 1 else 0) := by
          by_cases q2 : ((n + 1 : Nat) : Int) < s
          · rw [if_pos q2]; rfl
          · rw [if_neg q2, show s.toNat = n + 1 by omega]; rfl
        rw [e, show ((n + 1 : Nat) : Int) = (n : Int) + 1 by omega]
        rcases bb_s (S := S) (r := (n : Int)) (by omega) with ⟨e1, e2⟩ | ⟨e1, e2⟩
        · rw [if_pos ((hP _).mpr (hb.mp e2).2), e1, ih]
        · rw [if_neg (fun q3 => e2 (hb.mpr ⟨q, (hP _).mp q3⟩)), e1, ih]; omega
      · rw [if_neg q] at ih
        rw [if_neg (by omega), show ((n + 1 : Nat) : Int) = (n : Int) + 1 by omega]
        rcases bb_s (S := S) (r := (n : Int)) (by omega) with ⟨e1, e2⟩ | ⟨e1, e2⟩
        · exact absurd (hb.mp e2).1 q
        · rw [e1, ih]
  have := k 8 (by omega)
  rw [show ((8 : Nat) : Int) = 8 by rfl] at this
  rw [this]
  by_cases q : (8 : Int) < s
  · omega
  · rw [if_neg q]
noncomputable def dpF (F : Int → Int) (p : Int) : Int := nF F (hoP p)
def isDp (F : Int → Int) (p : Int) : Prop := (p = -1 ∧ ∀ c, F c = -1) ∨ ((0 ≤ p ∧ p ≤ 99) ∧ 0 < dpF F p ∧ (∀ q, 0 ≤ q → q ≤ 99 → dpF F q ≤ dpF F p) ∧ ∀ q, 0 ≤ q → q < p → dpF F q < dpF F p)
section DP
variable {F f g : Int → Int} {s p q i n b y1 y2 x : Int}
theorem dp_e (hr : Rep f g s F) : dpF F p = cnt f (hoP p) s.toNat := nF_eq _ hr
theorem dp_0 (h : ∀ c, F c = -1) (hr : Rep f g s F) : dpF F p = 0 := nF_no hr (fun c hc => absurd (h c) hc)
theorem isDp_uq (hr : Rep f g s F) (a : isDp F p) (b : isDp F q) : p = q := by
  rcases a with ⟨a0, a1⟩ | ⟨a0, a1, a2, a3⟩
  · rcases b with ⟨b0, b1⟩ | ⟨b0, b1, b2, b3⟩
    · omega
    · rw [dp_0 a1 hr] at b1; omega
  · rcases b with ⟨b0, b1⟩ | ⟨b0, b1, b2, b3⟩
    · rw [dp_0 b1 hr] at a1; omega
    · rcases Int.lt_trichotomy p q with k | k | k
      · have := b3 p a0.1 k; have := a2 q b0.1 b0.2; omega
      · exact k
      · have := a3 q b0.1 k; have := b2 p a0.1 a0.2; omega
noncomputable def anDeepP (F : Int → Int) : Int := Classical.epsilon (fun x : Int => isDp F x)
theorem deep_e (hr : Rep f g s F) (h : isDp F x) : anDeepP F = x := isDp_uq hr (Classical.epsilon_spec (p := fun x : Int => isDp F x) ⟨x, h⟩) h
noncomputable def anDeep (F : Int → Int) (z : Int) : Int := if z = 0 then dpF F (anDeepP F) else anDeepP F
theorem deep_1 (hr : Rep f g s F) (h : isDp F x) {z : Int} (hz : z ≠ 0) : anDeep F z = x := by unfold anDeep; rw [if_neg hz]; exact deep_e hr h
theorem deep_0 (hr : Rep f g s F) (h : isDp F x) {z : Int} (hz : z = 0) (e : y1 = cnt f (hoP x) s.toNat) : anDeep F z = y1 := by unfold anDeep; rw [if_pos hz, deep_e hr h, dp_e hr, e]
theorem cnt_pm {P Q : Int → Bool} : ∀ n : Nat, (∀ j : Int, 0 ≤ j → j < n → P (f j) = true → Q (f j) = true) → cnt f P n ≤ cnt f Q n
  | 0, _ => Int.le_refl _
  | n + 1, h => by
    have ih := cnt_pm n (fun j j0 j1 => h j j0 (by omega))
    show cnt f P n + (if P (f (n : Int)) then 1 else 0) ≤ cnt f Q n + (if Q (f (n : Int)) then 1 else 0)
    by_cases q : P (f (n : Int)) = true
    · rw [if_pos q, if_pos (h n (by omega) (by omega) q)]; omega
    · rw [if_neg q]; split <;> omega
theorem mx_from {q : Int} : ∀ n : Nat, (∃ j : Int, 0 ≤ j ∧ j < n ∧ hoP q (f j) = true) → ∃ j : Int, 0 ≤ j ∧ j < n ∧ hoP q (f j) = true ∧ ∀ i : Int, 0 ≤ i → i < n → hoP q (f i) = true → f i % 100 ≤ f j % 100
  | 0, ⟨j, j0, j1, _⟩ => by omega
  | n + 1, ⟨j, j0, j1, h⟩ => by
    by_cases hn : hoP q (f (n : Int)) = true
    · by_cases he : ∃ j : Int, 0 ≤ j ∧ j < n ∧ hoP q (f j) = true
      · obtain ⟨k, k0, k1, k2, k3⟩ := mx_from n he
        by_cases hc : f k % 100 ≤ f (n : Int) % 100
        · refine ⟨n, by omega, by omega, hn, fun i i0 i1 hi => ?_⟩
          by_cases e : i = n
          · rw [e]; exact Int.le_refl _
          · have := k3 i i0 (by omega) hi; omega
        · refine ⟨k, k0, by omega, k2, fun i i0 i1 hi => ?_⟩
          by_cases e : i = n
          · rw [e]; omega
          · exact k3 i i0 (by omega) hi
      · refine ⟨n, by omega, by omega, hn, fun i i0 i1 hi => ?_⟩
        by_cases e : i = n
        · rw [e]; exact Int.le_refl _
        · exact absurd ⟨i, i0, by omega, hi⟩ he
    · have hne : j ≠ n := fun e => hn (e ▸ h)
      obtain ⟨k, k0, k1, k2, k3⟩ := mx_from n ⟨j, j0, by omega, h⟩
      refine ⟨k, k0, by omega, k2, fun i i0 i1 hi => ?_⟩
      by_cases e : i = n
      · rw [e] at hi; exact absurd hi hn
      · exact k3 i i0 (by omega) hi
theorem dp_from (s0 : 0 ≤ s) (h : 0 < cnt f (hoP q) s.toNat) : ∃ j : Int, 0 ≤ j ∧ j < s ∧ f j % 100 ≤ q ∧ cnt f (hoP q) s.toNat ≤ cnt f (hoP (f j % 100)) s.toNat := by
  have he : ∃ j : Int, 0 ≤ j ∧ j < s.toNat ∧ hoP q (f j) = true := Classical.byContradiction fun hn => by
    have := cnt_no (f := f) (P := hoP q) s.toNat (fun j j0 j1 => by
      rcases hb : hoP q (f j) with _ | _
      · rfl
      · exact absurd ⟨j, j0, j1, hb⟩ hn)
    omega
  obtain ⟨j, j0, j1, h2, h3⟩ := mx_from s.toNat he
  have h2' := of_decide_eq_true h2
  refine ⟨j, j0, by omega, h2'.1, cnt_pm s.toNat (fun i i0 i1 hi => ?_)⟩
  have h4 := h3 i i0 i1 hi
  have hi := of_decide_eq_true hi
  exact hoP_t ⟨h4, by omega⟩
theorem dp_own (s0 : 0 ≤ s) (i0 : 0 ≤ i) (i1 : i < s) (hok : f i % 100 ≤ f i / 100) : 0 < cnt f (hoP (f i % 100)) s.toNat := cnt_ps i0 (by omega) (hoP_t ⟨Int.le_refl _, hok⟩)
/-- the best of the first i -/
def dqP (f : Int → Int) (s b i : Int) : Prop := ((b = -1 ∧ i = 0) ∨ 0 ≤ b ∧ 0 < cnt f (hoP b) s.toNat) ∧ ∀ j : Int, 0 ≤ j → j < i → cnt f (hoP (f j % 100)) s.toNat < cnt f (hoP b) s.toNat ∨ (cnt f (hoP (f j % 100)) s.toNat = cnt f (hoP b) s.toNat ∧ b ≤ f j % 100)
theorem dq_0 : dqP f s (-1) 0 := ⟨Or.inl ⟨rfl, rfl⟩, fun j j0 j1 => by omega⟩
theorem dq_y (h : dqP f s b i) (s0 : 0 ≤ s) (i0 : 0 ≤ i) (i1 : i < s) (hok : f i % 100 ≤ f i / 100) (ex : x = f i % 100) (e1 : y1 = cnt f (hoP x) s.toNat) (e2 : y2 = cnt f (hoP b) s.toNat) (c : y2 < y1 ∨ (y1 = y2 ∧ x < b)) : dqP f s x (i + 1) := by
  have hp := dp_own s0 i0 i1 hok
  rw [← ex, ← e1] at hp
  refine ⟨Or.inr ⟨by omega, by rw [← e1]; exact hp⟩, fun j j0 j1 => ?_⟩
  by_cases q : j = i
  · rw [q, ← ex]; exact Or.inr ⟨rfl, Int.le_refl _⟩
  · have := h.2 j j0 (by omega)
    rw [← e2] at this
    rw [← e1]
    omega
theorem dq_n (h : dqP f s b i) (s0 : 0 ≤ s) (i0 : 0 ≤ i) (i1 : i < s) (hok : f i % 100 ≤ f i / 100) (f0 : ∀ j : Int, 0 ≤ j → j < s → 0 ≤ f j) (ex : x = f i % 100) (e1 : y1 = cnt f (hoP x) s.toNat) (e2 : y2 = cnt f (hoP b) s.toNat) (c : ¬ (y2 < y1 ∨ (y1 = y2 ∧ x < b))) : dqP f s b (i + 1) := by
  have hp := dp_own s0 i0 i1 hok
  rw [← ex, ← e1] at hp
  refine ⟨?_, fun j j0 j1 => ?_⟩
  · rcases h.1 with ⟨e, e'⟩ | q
    · have hz : cnt f (hoP b) s.toNat = 0 := cnt_no s.toNat (fun j j0 j1 => hoP_f (fun q => by have := f0 j j0 (by omega); omega))
      omega
    · exact Or.inr q
  · by_cases q : j = i
    · rw [q, ← ex, ← e1, ← e2]; omega
    · exact h.2 j j0 (by omega)
theorem dq_e (h : dqP f s b i) (hr : Rep f g s F) (b1 : b ≤ 99) (e : i = s) : isDp F b := by
  subst e
  have s0 := hr.1.1
  rcases h.1 with ⟨e, e'⟩ | ⟨q0, q1⟩
  · refine Or.inl ⟨e, fun c => Classical.byContradiction fun hc => ?_⟩
    obtain ⟨j, j0, j1, -⟩ := Rep_ex hr hc
    omega
  · have k : ∀ q : Int, 0 ≤ q → dpF F q ≤ dpF F b ∧ (q < b → dpF F q < dpF F b) := fun q q2 => by
      rw [dp_e hr, dp_e hr]
      by_cases hz : 0 < cnt f (hoP q) i.toNat
      · obtain ⟨j, j0, j1, j2, j3⟩ := dp_from s0 hz
        have := h.2 j j0 j1
        omega
      · have := (cnt_b f (hoP q) i.toNat).1
        omega
    exact Or.inr ⟨⟨q0, b1⟩, by rw [dp_e hr]; exact q1, fun q q2 _ => (k q q2).1, fun q q2 q3 => (k q q2).2 q3⟩
end DP
noncomputable def spDeepest (σ : St) (b z : Int) : Int × Int × St := if b < 0 ∨ 2 < b then (1, 0, σ) else (0, anDeep (σ.1 b) z, σ)

set_option maxHeartbeats 4000000 in
set_option maxRecDepth 100000 in
/-- Earlyends$Book.depthAt -/
theorem f_X0_depthAt (l : Launch) (hl : l.stackTraces = false) {kc km : Int} {h : dm_H} (hI : Inv kc km h) {b0 : Nat} (hb0 : isBk b0) {s0 m0 : Int} {u0 w0 : List Value} (hC0 : CA b0 s0 m0 u0 w0 h) {a1 : Int} (h1a : -2147483648 ≤ a1) (h1b : a1 ≤ 2147483647) : dm_M l 25 3 0 0 [.ref b0, dI (a1)] h (QP h (RI (fun x => 0 ≤ x ∧ x ≤ 8 ∧ x = cnt (cv u0) (hoP a1) s0.toNat)) []) := by
  obtain ⟨hq0, hu0, hw0, hau0, haw0, hs0a, hs0b, hm0a, hm0b⟩ := id hC0
  refine dm_M_of dk_25 hl rfl (Nat.le_of_ble_eq_true rfl) ?_
  show dm_W (fun _ _ _ => True) (dm_P (QP h (RI (fun x => 0 ≤ x ∧ x ≤ 8 ∧ x = cnt (cv u0) (hoP a1) s0.toNat)) []) 0 0) l 25 3 0 0 0 [some (.ref b0), some (dI (a1))] [] h 0 0
  refine di_aload_n rfl rfl ?_
  refine dr_iload_n rfl rfl ?_
  refine dr_virt rfl rfl rfl rfl hq0 (f_X0_holding l hl hI (b0 := b0) hb0 (s0 := s0) (m0 := m0) (u0 := u0) (w0 := w0) ⟨hq0, hu0, hw0, hau0, haw0, by omega, by omega, by omega, by omega⟩ (a1 := a1) (by omega) (by omega)) (by decide) (by decide) (by decide) (Nat.le_of_ble_eq_true rfl) kNP (kIP (fun y1 y1f y1a y1b => ?_))
  have y1g : 0 ≤ y1 ∧ y1 ≤ 255 ∧ hsP y1 (s0) (fun r => cv u0 r % 100 ≤ (a1) ∧ (a1) ≤ cv u0 r / 100) := y1f
  clear y1f
  refine dr_stat rfl rfl rfl rfl (f_bitCount l hl (a0 := y1) (by omega) (by omega)) (by decide) (by decide) (by decide) (Nat.le_of_ble_eq_true rfl) kNP (kIP (fun y2 y2f y2a y2b => ?_))
  have y2f : y2 = bb y1 8 := y2f
  have y2c := bb_8 (s := y1) (by omega) (by omega)
  have y2d := bb_nn y1 8
  exact dr_iret (ty := .int) rfl rfl rfl (by decide) (by decide) ⟨rfl, y2, ⟨by omega, by omega, y2f.trans (bb_cnt y1g.2.2 (by omega) (by omega) (fun r9 => decide_eq_true_iff))⟩, by omega, by omega, rfl⟩
set_option maxHeartbeats 4000000 in
set_option maxRecDepth 100000 in
/-- Earlyends$Book.deepPlace -/
theorem f_X0_deepPlace (l : Launch) (hl : l.stackTraces = false) {kc km : Int} {h : dm_H} (hI : Inv kc km h) {b0 : Nat} (hb0 : isBk b0) {s0 m0 : Int} {u0 w0 : List Value} (hC0 : CA b0 s0 m0 u0 w0 h) {F : Int → Int} (hR : Rep (cv u0) (cv w0) s0 F) : dm_M l 26 4 0 0 [.ref b0] h (QP h (RI (fun x => -1 ≤ x ∧ x ≤ 99 ∧ isDp F x)) []) := by
  obtain ⟨hq0, hu0, hw0, hau0, haw0, hs0a, hs0b, hm0a, hm0b⟩ := id hC0
  have hok9 := (CA_arr hC0).1
  refine dm_M_of dk_26 hl rfl (Nat.le_of_ble_eq_true rfl) ?_
  show dm_W (fun _ _ _ => True) (dm_P (QP h (RI (fun x => -1 ≤ x ∧ x ≤ 99 ∧ isDp F x)) []) 0 0) l 26 4 0 0 0 [some (.ref b0), none, none, none, none] [] h 0 0
  refine di_const rfl ?_
  refine di_istore_n (ls2 := [some (.ref b0), some (dI ((-1))), none, none, none]) rfl rfl rfl ?_
  refine di_const rfl ?_
  refine di_istore_n (ls2 := [some (.ref b0), some (dI ((-1))), some (dI (0)), none, none]) rfl rfl rfl ?_
  have L3 : ∀ (n : Nat) (i1 : Int) (i2 : Int), (8 - i2).toNat < n → -1 ≤ i1 → i1 ≤ 99 → 0 ≤ i2 → i2 ≤ 8 → i2 ≤ s0 → dqP (cv u0) s0 i1 i2 → dm_W (fun _ _ _ => True) (dm_P (QP h (RI (fun x => -1 ≤ x ∧ x ≤ 99 ∧ isDp F x)) []) 0 0) l 26 4 0 0 4 [some (.ref b0), some (dI (i1)), some (dI (i2)), none, none] [] h 0 0 := by
    intro n
    induction n with
    | zero => intro i1 i2 hm; exact absurd hm (Nat.not_lt_zero _)
    | succ n ih =>
      intro i1 i2 hm10 hb4 hb5 hb6 hb7 hx8 PD
      have ihL3 := ih
      clear ih
      refine dr_iload_n rfl rfl ?_
      refine di_aload_n rfl rfl ?_
      refine dr_getf rfl hq0 rfl ?_
      refine di_icmp_ge rfl rfl (by omega) (by omega) (by omega) (by omega) (fun c11 => ?_) (fun c11 => ?_)
      · skip
        refine dr_iload_n rfl rfl ?_
        exact dr_iret (ty := .int) rfl rfl rfl (by decide) (by decide) ⟨rfl, i1, ⟨by omega, by omega, dq_e PD hR (by omega) (by omega)⟩, by omega, by omega, rfl⟩
      · skip
        refine di_aload_n rfl rfl ?_
        refine dr_iload_n rfl rfl ?_
        refine dr_virt rfl rfl rfl rfl hq0 (f_X0_fromAt l hl hI (b0 := b0) hb0 (s0 := s0) (m0 := m0) (u0 := u0) (w0 := w0) ⟨hq0, hu0, hw0, hau0, haw0, by omega, by omega, by omega, by omega⟩ (a1 := i2) (by omega) (by omega)) (by decide) (by decide) (by decide) (Nat.le_of_ble_eq_true rfl) kNP (kIP (fun y12 y12f y12a y12b => ?_))
        have y12g : -1 ≤ y12 ∧ y12 ≤ 99 ∧ (0 ≤ (i2) → (i2) < (s0) → y12 = cv u0 (i2) % 100) ∧ ((i2) < 0 → y12 = -1) ∧ ((s0) ≤ (i2) → y12 = -1) := y12f
        clear y12f
        refine di_istore_n (ls2 := [some (.ref b0), some (dI (i1)), some (dI (i2)), some (dI (y12)), none]) rfl rfl rfl ?_
        refine di_aload_n rfl rfl ?_
        refine dr_iload_n rfl rfl ?_
        refine dr_virt rfl rfl rfl rfl hq0 (f_X0_depthAt l hl hI (b0 := b0) hb0 (s0 := s0) (m0 := m0) (u0 := u0) (w0 := w0) ⟨hq0, hu0, hw0, hau0, haw0, by omega, by omega, by omega, by omega⟩ (a1 := y12) (by omega) (by omega)) (by decide) (by decide) (by decide) (Nat.le_of_ble_eq_true rfl) kNP (kIP (fun y13 y13f y13a y13b => ?_))
        have y13g : 0 ≤ y13 ∧ y13 ≤ 8 ∧ y13 = cnt (cv u0) (hoP (y12)) (s0).toNat := y13f
        clear y13f
        refine di_aload_n rfl rfl ?_
        refine dr_iload_n rfl rfl ?_
        refine dr_virt rfl rfl rfl rfl hq0 (f_X0_depthAt l hl hI (b0 := b0) hb0 (s0 := s0) (m0 := m0) (u0 := u0) (w0 := w0) ⟨hq0, hu0, hw0, hau0, haw0, by omega, by omega, by omega, by omega⟩ (a1 := i1) (by omega) (by omega)) (by decide) (by decide) (by decide) (Nat.le_of_ble_eq_true rfl) kNP (kIP (fun y14 y14f y14a y14b => ?_))
        have y14g : 0 ≤ y14 ∧ y14 ≤ 8 ∧ y14 = cnt (cv u0) (hoP (i1)) (s0).toNat := y14f
        clear y14f
        refine di_isub rfl ?_
        refine di_istore (ls2 := [some (.ref b0), some (dI (i1)), some (dI (i2)), some (dI (y12)), some (dI ((y13 - y14)))]) rfl rfl rfl ?_
        refine dr_iload rfl rfl ?_
        refine di_if_gt rfl rfl (by omega) (by omega) (fun c15 => ?_) (fun c15 => ?_)
        · skip
          refine dr_iload_n rfl rfl ?_
          refine di_istore_n (ls2 := [some (.ref b0), some (dI (y12)), some (dI (i2)), some (dI (y12)), some (dI ((y13 - y14)))]) rfl rfl rfl ?_
          refine di_iinc (ls2 := [some (.ref b0), some (dI (y12)), some (dI ((i2 + 1))), some (dI (y12)), some (dI ((y13 - y14)))]) rfl rfl rfl rfl ?_
          refine dr_goto rfl rfl ?_
          refine dm_wk (ls2 := [some (.ref b0), some (dI (y12)), some (dI ((i2 + 1))), none, none]) ⟨Or.inr rfl, Or.inr rfl, Or.inr rfl, Or.inl rfl, Or.inl rfl, trivial⟩ ?_
          exact ihL3 (y12) ((i2 + 1)) (by omega) (by omega) (by omega) (by omega) (by omega) (by omega)  (dq_y PD (by omega) (by omega) (by omega) (hok9 i2 (by omega) (by omega)) (by omega) y13g.2.2 y14g.2.2 (by omega))
        · skip
          refine dr_iload rfl rfl ?_
          refine di_if_ne rfl rfl (by omega) (by omega) (fun c16 => ?_) (fun c16 => ?_)
          · skip
            refine di_iinc (ls2 := [some (.ref b0), some (dI (i1)), some (dI ((i2 + 1))), some (dI (y12)), some (dI ((y13 - y14)))]) rfl rfl rfl rfl ?_
            refine dr_goto rfl rfl ?_
            refine dm_wk (ls2 := [some (.ref b0), some (dI (i1)), some (dI ((i2 + 1))), none, none]) ⟨Or.inr rfl, Or.inr rfl, Or.inr rfl, Or.inl rfl, Or.inl rfl, trivial⟩ ?_
            exact ihL3 (i1) ((i2 + 1)) (by omega) (by omega) (by omega) (by omega) (by omega) (by omega)  (dq_n PD (by omega) (by omega) (by omega) (hok9 i2 (by omega) (by omega)) (fun j9 h1 h2 => (Rep_at hR h1 h2).1.1) (by omega) y13g.2.2 y14g.2.2 (by omega))
          · skip
            refine dr_iload_n rfl rfl ?_
            refine dr_iload_n rfl rfl ?_
            refine di_icmp_ge rfl rfl (by omega) (by omega) (by omega) (by omega) (fun c17 => ?_) (fun c17 => ?_)
            · skip
              refine di_iinc (ls2 := [some (.ref b0), some (dI (i1)), some (dI ((i2 + 1))), some (dI (y12)), some (dI ((y13 - y14)))]) rfl rfl rfl rfl ?_
              refine dr_goto rfl rfl ?_
              refine dm_wk (ls2 := [some (.ref b0), some (dI (i1)), some (dI ((i2 + 1))), none, none]) ⟨Or.inr rfl, Or.inr rfl, Or.inr rfl, Or.inl rfl, Or.inl rfl, trivial⟩ ?_
              exact ihL3 (i1) ((i2 + 1)) (by omega) (by omega) (by omega) (by omega) (by omega) (by omega)  (dq_n PD (by omega) (by omega) (by omega) (hok9 i2 (by omega) (by omega)) (fun j9 h1 h2 => (Rep_at hR h1 h2).1.1) (by omega) y13g.2.2 y14g.2.2 (by omega))
            · skip
              refine dr_iload_n rfl rfl ?_
              refine di_istore_n (ls2 := [some (.ref b0), some (dI (y12)), some (dI (i2)), some (dI (y12)), some (dI ((y13 - y14)))]) rfl rfl rfl ?_
              refine di_iinc (ls2 := [some (.ref b0), some (dI (y12)), some (dI ((i2 + 1))), some (dI (y12)), some (dI ((y13 - y14)))]) rfl rfl rfl rfl ?_
              refine dr_goto rfl rfl ?_
              refine dm_wk (ls2 := [some (.ref b0), some (dI (y12)), some (dI ((i2 + 1))), none, none]) ⟨Or.inr rfl, Or.inr rfl, Or.inr rfl, Or.inl rfl, Or.inl rfl, trivial⟩ ?_
              exact ihL3 (y12) ((i2 + 1)) (by omega) (by omega) (by omega) (by omega) (by omega) (by omega)  (dq_y PD (by omega) (by omega) (by omega) (hok9 i2 (by omega) (by omega)) (by omega) y13g.2.2 y14g.2.2 (by omega))
  exact L3 _ ((-1)) (0) (Nat.lt_succ_self _) (by omega) (by omega) (by omega) (by omega) (by omega)  dq_0
set_option maxHeartbeats 4000000 in
set_option maxRecDepth 100000 in
/-- Earlyends.deepest -/
theorem c_X6_deepest (l : Launch) (hl : l.stackTraces = false) {kc km : Int} {h : dm_H} (hI : Inv kc km h) {B : Int} {σ : St} (hS : CSt B σ h) (hB : B ≤ 80000) {a1 : Int} (h1a : -2147483648 ≤ a1) (h1b : a1 ≤ 2147483647) {a2 : Int} (h2a : 0 ≤ a2) (h2b : a2 ≤ 1) : dm_M l 94 6 8 48 [.ref 0, dI (a1), dI (a2)] h (QX kc km h B XB XB (spDeepest σ a1 a2)) := by
  refine dm_M_of dk_94 hl rfl (Nat.le_of_ble_eq_true rfl) ?_
  show dm_W (fun _ _ _ => True) (dm_P (QX kc km h B XB XB (spDeepest σ a1 a2)) 8 48) l 94 6 8 48 0 [some (.ref 0), some (dI (a1)), some (dI (a2)), none, none] [] h 0 0
  refine di_aload_n rfl rfl ?_
  refine dr_iload_n rfl rfl ?_
  obtain ⟨r1, c2, c3, hc4⟩ := I_cls hI
  refine dr_virt rfl rfl rfl rfl hc4 (f_X6_bookAt l hl hI (a1 := a1) (by omega) (by omega)) (by decide) (by decide) (by decide) (Nat.le_of_ble_eq_true rfl) (fun Y h9 q9 => by obtain ⟨rfl, rfl, hC⟩ := q9; exact dr_out rfl (by decide) (by decide) (QX_1 (a := 0) hI FrC_rf hS (by omega) (by unfold spDeepest; (repeat' split) <;> first | rfl | (exfalso; omega) | (apply Prod.ext <;> first | rfl | (dsimp only; omega) | (apply Prod.ext <;> first | rfl | (dsimp only; omega)))))) (kPXR (fun r5 ⟨q6, q7, q8, q10⟩ => ?_))
  refine di_astore_n (ls2 := [some (.ref 0), some (dI (a1)), some (dI (a2)), some (.ref r5), none]) rfl rfl rfl ?_
  refine di_aload_n rfl rfl ?_
  obtain ⟨s11, m12, u13, w14, hc15, hr16, ht17, ma18, mb19⟩ := CSt_bk hS (k := a1) q8 q10 q7
  have sq20 : 0 ≤ s11 ∧ s11 ≤ 8 := ⟨hc15.2.2.2.2.2.1, hc15.2.2.2.2.2.2.1⟩
  have hz21 : zF (σ.1 a1) = s11 := zF_eq hr16
  refine dr_virt rfl rfl rfl rfl hc15.1 (f_X0_deepPlace l hl hI q6 hc15 hr16) (by decide) (by decide) (by decide) (Nat.le_of_ble_eq_true rfl) kNP (kIP (fun y22 y22f y22a y22b => ?_))
  obtain ⟨y22c, y22d, y22k⟩ := y22f
  refine di_istore (ls2 := [some (.ref 0), some (dI (a1)), some (dI (a2)), some (.ref r5), some (dI (y22))]) rfl rfl rfl ?_
  refine dr_iload_n rfl rfl ?_
  refine di_if_eq rfl rfl (by omega) (by omega) (fun c23 => ?_) (fun c23 => ?_)
  · skip
    refine di_aload_n rfl rfl ?_
    refine dr_iload rfl rfl ?_
    refine dr_virt rfl rfl rfl rfl hc15.1 (f_X0_depthAt l hl hI q6 hc15 (a1 := y22) (by omega) (by omega)) (by decide) (by decide) (by decide) (Nat.le_of_ble_eq_true rfl) kNP (kIP (fun y24 y24f y24a y24b => ?_))
    obtain ⟨y24c, y24d, y24k⟩ := y24f
    have e9 : anDeep (σ.1 a1) a2 = y24 := deep_0 hr16 y22k (by omega) y24k
    exact dr_iret (ty := .int) rfl rfl rfl (by decide) (by decide) (QX_ok hI FrC_rf hS (by omega) (by unfold spDeepest; (try rw [e9]); (repeat' split) <;> first | rfl | (exfalso; omega) | (apply Prod.ext <;> first | rfl | (dsimp only; omega) | (apply Prod.ext <;> first | rfl | (dsimp only; omega)))))
  · skip
    refine dr_iload rfl rfl ?_
    refine dr_goto rfl rfl ?_
    have e9 : anDeep (σ.1 a1) a2 = y22 := deep_1 hr16 y22k (by omega)
    exact dr_iret (ty := .int) rfl rfl rfl (by decide) (by decide) (QX_ok hI FrC_rf hS (by omega) (by unfold spDeepest; (try rw [e9]); (repeat' split) <;> first | rfl | (exfalso; omega) | (apply Prod.ext <;> first | rfl | (dsimp only; omega) | (apply Prod.ext <;> first | rfl | (dsimp only; omega)))))
