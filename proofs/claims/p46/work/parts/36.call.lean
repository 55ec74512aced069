/-! ===== draws, the part ===== -/
theorem tn_no {f g F : Int → Int} {s x : Int} (hr : Rep f g s F) (hn : ∀ j : Int, 0 ≤ j → j < s → g j ≠ x) : lst F (fun c => decide (F c = x)) = -1 := lst_no (fun c hc => by
  obtain ⟨j, j0, j1, e⟩ := hr.2.1 c hc
  have := (Rep_yes hr j0 j1 e).1
  exact decide_eq_false (by rw [this]; exact hn j j0 j1))
theorem tn_yes {f g F : Int → Int} {s x y : Int} (hr : Rep f g s F) (ht : Srt f s) (h0 : 0 ≤ y) (h1 : y < s) (hx : g y = x) (hn : ∀ j : Int, 0 ≤ j → j < y → g j ≠ x) : lst F (fun c => decide (F c = x)) = f y := lst_eq (by
  obtain ⟨q1, q2, -⟩ := Rep_yes hr h0 h1 rfl
  refine ⟨q2, decide_eq_true (q1.trans hx), fun c hc hP => ?_⟩
  obtain ⟨j, j0, j1, e⟩ := hr.2.1 c hc
  have a := (Rep_yes hr j0 j1 e).1
  have b : F c = x := of_decide_eq_true hP
  by_cases q : j < y
  · exact absurd (a.symm.trans b) (hn j j0 q)
  · by_cases q3 : j = y
    · rw [← e, q3]; exact Int.le_refl _
    · have := ht y j h0 (by omega) j1
      omega)
def rgP (f : Int → Int) (s a e : Int) (P : Int → Bool) : Prop := 0 ≤ a ∧ e ≤ s ∧ ∀ j : Int, 0 ≤ j → j < s → (P (f j) = true ↔ a ≤ j ∧ j < e)
theorem dw_no {f g F : Int → Int} {s a e : Int} {P : Int → Bool} (hr : Rep f g s F) (hP : rgP f s a e P) (h : e ≤ a) : lst F P = -1 ∧ grt F P = -1 := by
  have k : ∀ c, F c ≠ -1 → P c = false := fun c hc => by
    obtain ⟨j, j0, j1, e9⟩ := hr.2.1 c hc
    have := hP.2.2 j j0 j1
    rw [e9] at this
    cases hPc : P c with
    | false => rfl
    | true => have := this.mp hPc; omega
  exact ⟨lst_no k, grt_no k⟩
theorem dw_l {f g F : Int → Int} {s a e : Int} {P : Int → Bool} (hr : Rep f g s F) (ht : Srt f s) (hP : rgP f s a e P) (h : a < e) : lst F P = f a := by
  obtain ⟨p0, p1, p2⟩ := hP
  refine lst_eq ⟨(Rep_yes hr p0 (by omega) rfl).2.1, (p2 a p0 (by omega)).mpr ⟨Int.le_refl _, h⟩, fun c hc hPc => ?_⟩
  obtain ⟨j, j0, j1, e9⟩ := hr.2.1 c hc
  rw [← e9] at hPc
  have := (p2 j j0 j1).mp hPc
  by_cases q : j = a
  · rw [← e9, q]; exact Int.le_refl _
  · have := ht a j p0 (by omega) j1
    omega
theorem dw_g {f g F : Int → Int} {s a e : Int} {P : Int → Bool} (hr : Rep f g s F) (ht : Srt f s) (hP : rgP f s a e P) (h : a < e) : grt F P = f (e - 1) := by
  obtain ⟨p0, p1, p2⟩ := hP
  refine grt_eq ⟨(Rep_yes hr (by omega) (by omega) rfl).2.1, (p2 (e - 1) (by omega) (by omega)).mpr ⟨by omega, by omega⟩, fun c hc hPc => ?_⟩
  obtain ⟨j, j0, j1, e9⟩ := hr.2.1 c hc
  rw [← e9] at hPc
  have := (p2 j j0 j1).mp hPc
  by_cases q : j = e - 1
  · rw [← e9, q]; exact Int.le_refl _
  · have := ht j (e - 1) j0 (by omega) (by omega)
    omega
theorem cnt_rg {f : Int → Int} {P : Int → Bool} {a e : Int} : ∀ n : Nat, (∀ j : Int, 0 ≤ j → j < n → (P (f j) = true ↔ a ≤ j ∧ j < e)) → 0 ≤ a → a ≤ e → cnt f P n = (if (n : Int) ≤ a then 0 else if (n : Int) ≤ e then n - a else e - a)
  | 0, _, h0, _ => by rw [if_pos (by omega)]; rfl
  | n + 1, h, h0, h1 => by
    have ih := cnt_rg (f := f) (P := P) n (fun j j0 j1 => h j j0 (by omega)) h0 h1
    have hn := h n (by omega) (by omega)
    show cnt f P n + (if P (f (n : Int)) then 1 else 0) = _
    rw [ih]
    by_cases q : P (f (n : Int)) = true
    · have := hn.mp q
      rw [if_pos q]
      (repeat' split) <;> omega
    · have hq : ¬ (a ≤ (n : Int) ∧ (n : Int) < e) := fun z => q (hn.mpr z)
      rw [if_neg q, Int.add_zero]
      (repeat' split) <;> omega
def stb (f : Int → Int) (s lo x : Int) : Prop := 0 ≤ x ∧ x ≤ s ∧ ∀ j : Int, 0 ≤ j → j < s → (x ≤ j ↔ (lo = -1 ∨ lo ≤ f j / 100))
def enb (f : Int → Int) (s hi x : Int) : Prop := 0 ≤ x ∧ x ≤ s ∧ ∀ j : Int, 0 ≤ j → j < s → (j < x ↔ (hi = -1 ∨ f j / 100 ≤ hi))
theorem stb_0 {f : Int → Int} {s lo : Int} (hs : 0 ≤ s) (h : lo = -1) : stb f s lo 0 := ⟨Int.le_refl _, hs, fun j j0 j1 => ⟨fun _ => Or.inl h, fun _ => j0⟩⟩
theorem enb_0 {f : Int → Int} {s hi : Int} (hs : 0 ≤ s) (h : hi = -1) : enb f s hi s := ⟨hs, Int.le_refl _, fun j j0 j1 => ⟨fun _ => Or.inl h, fun _ => j1⟩⟩
theorem stb_1 {f : Int → Int} {s lo x : Int} (ht : Srt f s) (hb : blw f s (100 * lo) x) (h : 0 ≤ lo) : stb f s lo x := by
  have hg := blw_ge ht hb
  obtain ⟨b0, b1, b2, b3⟩ := hb
  refine ⟨b0, b1, fun j j0 j1 => ⟨fun q => Or.inr (by have := hg j q j1; omega), fun q => ?_⟩⟩
  by_cases q2 : x ≤ j
  · exact q2
  · have := b2 j j0 (by omega); omega
theorem enb_1 {f : Int → Int} {s hi x : Int} (ht : Srt f s) (hb : blw f s (100 * (hi + 1)) x) (h : 0 ≤ hi) : enb f s hi x := by
  have hg := blw_ge ht hb
  obtain ⟨b0, b1, b2, b3⟩ := hb
  refine ⟨b0, b1, fun j j0 j1 => ⟨fun q => Or.inr (by have := b2 j j0 q; omega), fun q => ?_⟩⟩
  by_cases q2 : j < x
  · exact q2
  · have := hg j (by omega) j1; omega
theorem rg_P {f : Int → Int} {s lo hi a e : Int} (ha : stb f s lo a) (he : enb f s hi e) : rgP f s a e (inP lo hi) := ⟨ha.1, he.2.1, fun j j0 j1 => by
  unfold inP
  rw [decide_eq_true_iff, ← ha.2.2 j j0 j1, ← he.2.2 j j0 j1]⟩
theorem rg_le {f : Int → Int} {s lo hi a e : Int} (ha : stb f s lo a) (he : enb f s hi e) (hlo : -1 ≤ lo) (hhi : -1 ≤ hi) (h : 0 ≤ lo → 0 ≤ hi → lo ≤ hi) : a ≤ e := by
  obtain ⟨a0, a1, a2⟩ := ha
  obtain ⟨e0, e1, e2⟩ := he
  by_cases q : a ≤ e
  · exact q
  · have x := a2 e e0 (by omega)
    have y := e2 e e0 (by omega)
    have x1 : ¬ (lo = -1 ∨ lo ≤ f e / 100) := fun z => absurd (x.mpr z) (by omega)
    have y1 : ¬ (hi = -1 ∨ f e / 100 ≤ hi) := fun z => absurd (y.mpr z) (by omega)
    omega
theorem ci_e {f g F : Int → Int} {s lo hi a e : Int} (hr : Rep f g s F) (ha : stb f s lo a) (he : enb f s hi e) (hlo : -1 ≤ lo) (hhi : -1 ≤ hi) (h : 0 ≤ lo → 0 ≤ hi → lo ≤ hi) : e - a = nF F (inP lo hi) := by
  have hle := rg_le ha he hlo hhi h
  obtain ⟨p0, p1, p2⟩ := rg_P ha he
  have hs := hr.1.1
  rw [nF_eq _ hr, cnt_rg s.toNat (fun j j0 j1 => p2 j j0 (by omega)) p0 hle]
  by_cases q : (s.toNat : Int) ≤ a
  · rw [if_pos q]; omega
  · rw [if_neg q]
    by_cases q2 : (s.toNat : Int) ≤ e
    · rw [if_pos q2]; omega
    · rw [if_neg q2]
theorem rg_all {f : Int → Int} {s : Int} : rgP f s 0 s (fun _ => true) := ⟨Int.le_refl _, Int.le_refl _, fun j j0 j1 => ⟨fun _ => ⟨j0, j1⟩, fun _ => rfl⟩⟩
set_option maxRecDepth 100000 in
theorem f_X6_bookOfPart (l : Launch) (hl : l.stackTraces = false) {kc km : Int} {h : dm_H} (hI : Inv kc km h) {B : Int} {σ : St} (hS : CSt B σ h) (_hB : B ≤ 100000) : dm_M l 114 1 1 6 [.ref 0] h (QPX h (fun v => ∃ x : Nat, v = some (.ref x) ∧ (isBk x ∧ (x : Int) = 17 + 3 * σ.2.1.1 ∧ 0 ≤ σ.2.1.1 ∧ σ.2.1.1 ≤ 2)) XS (σ.2.1.1 = -1)) := by
  refine dm_M_of dk_114 hl rfl (Nat.le_of_ble_eq_true rfl) ?_
  show dm_W (fun _ _ _ => True) (dm_P (QPX h (fun v => ∃ x : Nat, v = some (.ref x) ∧ (isBk x ∧ (x : Int) = 17 + 3 * σ.2.1.1 ∧ 0 ≤ σ.2.1.1 ∧ σ.2.1.1 ≤ 2)) XS (σ.2.1.1 = -1)) 1 6) l 114 1 1 6 0 [some (.ref 0)] [] h 0 0
  obtain ⟨r, c1, c2, hc⟩ := I_cls hI
  obtain ⟨p1, p2, p3, p4⟩ := hS.2
  refine di_aload_n rfl rfl ?_
  refine dr_getf rfl hc rfl ?_
  refine dr_getf rfl p1 rfl ?_
  refine dr_stat rfl rfl rfl rfl (s_X6_isBook l hl hI (a0 := σ.2.1.1) (by omega) (by omega)) (by decide) (by decide) (by decide) (Nat.le_of_ble_eq_true rfl) kNP (kIP (fun y yf ya yb => ?_))
  obtain ⟨y0, y1, y2, y3⟩ := yf
  refine di_if_ne rfl rfl (by omega) (by omega) (fun c => ?_) (fun c => ?_)
  · refine di_aload_n rfl rfl ?_
    refine dr_getf rfl hc rfl ?_
    refine di_aload_n rfl rfl ?_
    refine dr_getf rfl hc rfl ?_
    refine dr_getf rfl p1 rfl ?_
    refine paaB rfl (I_bks hI) (by omega) (by omega) (fun r9 hr9 hk9 => ?_)
    exact dr_aret rfl rfl (Or.inl ⟨_, rfl⟩) (Or.inl ⟨_, rfl⟩) (by decide) (by decide) ⟨rfl, r9, rfl, hr9, hk9, by omega, by omega⟩
  · exact dr_throw rfl (by decide) rfl (by decide) (by decide) (by decide) (Nat.le_of_ble_eq_true rfl) ⟨rfl, rfl, by omega⟩
set_option maxRecDepth 100000 in
theorem f_X6_bookOfHand (l : Launch) (hl : l.stackTraces = false) {kc km : Int} {h : dm_H} (hI : Inv kc km h) {B : Int} {σ : St} (hS : CSt B σ h) (_hB : B ≤ 100000) : dm_M l 115 1 1 6 [.ref 0] h (QPX h (fun v => ∃ x : Nat, v = some (.ref x) ∧ (isBk x ∧ (x : Int) = 17 + 3 * σ.2.2.1 ∧ 0 ≤ σ.2.2.1 ∧ σ.2.2.1 ≤ 2)) XS (σ.2.2.1 = -1)) := by
  refine dm_M_of dk_115 hl rfl (Nat.le_of_ble_eq_true rfl) ?_
  show dm_W (fun _ _ _ => True) (dm_P (QPX h (fun v => ∃ x : Nat, v = some (.ref x) ∧ (isBk x ∧ (x : Int) = 17 + 3 * σ.2.2.1 ∧ 0 ≤ σ.2.2.1 ∧ σ.2.2.1 ≤ 2)) XS (σ.2.2.1 = -1)) 1 6) l 115 1 1 6 0 [some (.ref 0)] [] h 0 0
  obtain ⟨r, c1, c2, hc⟩ := I_cls hI
  obtain ⟨⟨⟨mv, -, sn, nx, ho, p1, p2, -⟩, -⟩, -⟩ := hS
  refine di_aload_n rfl rfl ?_
  refine dr_getf rfl hc rfl ?_
  refine dr_getf rfl p1 rfl ?_
  refine dr_stat rfl rfl rfl rfl (s_X6_isBook l hl hI (a0 := σ.2.2.1) (by omega) (by omega)) (by decide) (by decide) (by decide) (Nat.le_of_ble_eq_true rfl) kNP (kIP (fun y yf ya yb => ?_))
  obtain ⟨y0, y1, y2, y3⟩ := yf
  refine di_if_ne rfl rfl (by omega) (by omega) (fun c => ?_) (fun c => ?_)
  · refine di_aload_n rfl rfl ?_
    refine dr_getf rfl hc rfl ?_
    refine di_aload_n rfl rfl ?_
    refine dr_getf rfl hc rfl ?_
    refine dr_getf rfl p1 rfl ?_
    refine paaB rfl (I_bks hI) (by omega) (by omega) (fun r9 hr9 hk9 => ?_)
    exact dr_aret rfl rfl (Or.inl ⟨_, rfl⟩) (Or.inl ⟨_, rfl⟩) (by decide) (by decide) ⟨rfl, r9, rfl, hr9, hk9, by omega, by omega⟩
  · exact dr_throw rfl (by decide) rfl (by decide) (by decide) (by decide) (Nat.le_of_ble_eq_true rfl) ⟨rfl, rfl, by omega⟩

set_option maxHeartbeats 4000000 in
set_option maxRecDepth 100000 in
/-- Earlyends$Part.isWithin -/
theorem f_X4_isWithin (l : Launch) (hl : l.stackTraces = false) {kc km : Int} {h : dm_H} (hI : Inv kc km h) {B : Int} {σ : St} (hS : CSt B σ h) (hB : B ≤ 90000) {a1 : Int} (h1a : -2147483648 ≤ a1) (h1b : a1 ≤ 2147483647) : dm_M l 42 0 0 0 [.ref 2, dI (a1)] h (QP h (RI (fun x => 0 ≤ x ∧ x ≤ 1 ∧ (x = 1 → (σ.2.1.2.1 = -1 ∨ σ.2.1.2.1 ≤ a1) ∧ (σ.2.1.2.2 = -1 ∨ a1 ≤ σ.2.1.2.2)) ∧ (x = 0 → (σ.2.1.2.1 ≠ -1 ∧ a1 < σ.2.1.2.1) ∨ (σ.2.1.2.2 ≠ -1 ∧ σ.2.1.2.2 < a1)))) []) := by
  refine dm_M_of dk_42 hl rfl (Nat.le_of_ble_eq_true rfl) ?_
  show dm_W (fun _ _ _ => True) (dm_P (QP h (RI (fun x => 0 ≤ x ∧ x ≤ 1 ∧ (x = 1 → (σ.2.1.2.1 = -1 ∨ σ.2.1.2.1 ≤ a1) ∧ (σ.2.1.2.2 = -1 ∨ a1 ≤ σ.2.1.2.2)) ∧ (x = 0 → (σ.2.1.2.1 ≠ -1 ∧ a1 < σ.2.1.2.1) ∨ (σ.2.1.2.2 ≠ -1 ∧ σ.2.1.2.2 < a1)))) []) 0 0) l 42 0 0 0 0 [some (.ref 2), some (dI (a1))] [] h 0 0
  refine di_aload_n rfl rfl ?_
  have pr1 := hS.2
  obtain ⟨pr1a, pr1b, pr1c, pr1d⟩ := pr1
  refine dr_getf rfl pr1a rfl ?_
  refine di_const rfl ?_
  refine di_icmp_eq rfl rfl (by omega) (by omega) (by omega) (by omega) (fun c2 => ?_) (fun c2 => ?_)
  · skip
    refine di_aload_n rfl rfl ?_
    refine dr_getf rfl pr1a rfl ?_
    refine di_const rfl ?_
    refine di_icmp_eq rfl rfl (by omega) (by omega) (by omega) (by omega) (fun c3 => ?_) (fun c3 => ?_)
    · skip
      refine di_const rfl ?_
      refine dr_goto rfl rfl ?_
      exact dr_iret (ty := .boolean) rfl rfl (nar_z (by omega) (by omega)) (by decide) (by decide) ⟨rfl, 1, (show 0 ≤ (1) ∧ (1) ≤ 1 ∧ ((1) = 1 → (σ.2.1.2.1 = -1 ∨ σ.2.1.2.1 ≤ a1) ∧ (σ.2.1.2.2 = -1 ∨ a1 ≤ σ.2.1.2.2)) ∧ ((1) = 0 → (σ.2.1.2.1 ≠ -1 ∧ a1 < σ.2.1.2.1) ∨ (σ.2.1.2.2 ≠ -1 ∧ σ.2.1.2.2 < a1)) by omega), by omega, by omega, rfl⟩
    · skip
      refine dr_iload_n rfl rfl ?_
      refine di_aload_n rfl rfl ?_
      refine dr_getf rfl pr1a rfl ?_
      refine di_icmp_gt rfl rfl (by omega) (by omega) (by omega) (by omega) (fun c4 => ?_) (fun c4 => ?_)
      · skip
        refine di_const rfl ?_
        exact dr_iret (ty := .boolean) rfl rfl (nar_z (by omega) (by omega)) (by decide) (by decide) ⟨rfl, 0, (show 0 ≤ (0) ∧ (0) ≤ 1 ∧ ((0) = 1 → (σ.2.1.2.1 = -1 ∨ σ.2.1.2.1 ≤ a1) ∧ (σ.2.1.2.2 = -1 ∨ a1 ≤ σ.2.1.2.2)) ∧ ((0) = 0 → (σ.2.1.2.1 ≠ -1 ∧ a1 < σ.2.1.2.1) ∨ (σ.2.1.2.2 ≠ -1 ∧ σ.2.1.2.2 < a1)) by omega), by omega, by omega, rfl⟩
      · skip
        refine di_const rfl ?_
        refine dr_goto rfl rfl ?_
        exact dr_iret (ty := .boolean) rfl rfl (nar_z (by omega) (by omega)) (by decide) (by decide) ⟨rfl, 1, (show 0 ≤ (1) ∧ (1) ≤ 1 ∧ ((1) = 1 → (σ.2.1.2.1 = -1 ∨ σ.2.1.2.1 ≤ a1) ∧ (σ.2.1.2.2 = -1 ∨ a1 ≤ σ.2.1.2.2)) ∧ ((1) = 0 → (σ.2.1.2.1 ≠ -1 ∧ a1 < σ.2.1.2.1) ∨ (σ.2.1.2.2 ≠ -1 ∧ σ.2.1.2.2 < a1)) by omega), by omega, by omega, rfl⟩
  · skip
    refine dr_iload_n rfl rfl ?_
    refine di_aload_n rfl rfl ?_
    refine dr_getf rfl pr1a rfl ?_
    refine di_icmp_lt rfl rfl (by omega) (by omega) (by omega) (by omega) (fun c5 => ?_) (fun c5 => ?_)
    · skip
      refine di_const rfl ?_
      exact dr_iret (ty := .boolean) rfl rfl (nar_z (by omega) (by omega)) (by decide) (by decide) ⟨rfl, 0, (show 0 ≤ (0) ∧ (0) ≤ 1 ∧ ((0) = 1 → (σ.2.1.2.1 = -1 ∨ σ.2.1.2.1 ≤ a1) ∧ (σ.2.1.2.2 = -1 ∨ a1 ≤ σ.2.1.2.2)) ∧ ((0) = 0 → (σ.2.1.2.1 ≠ -1 ∧ a1 < σ.2.1.2.1) ∨ (σ.2.1.2.2 ≠ -1 ∧ σ.2.1.2.2 < a1)) by omega), by omega, by omega, rfl⟩
    · skip
      refine di_aload_n rfl rfl ?_
      refine dr_getf rfl pr1a rfl ?_
      refine di_const rfl ?_
      refine di_icmp_eq rfl rfl (by omega) (by omega) (by omega) (by omega) (fun c6 => ?_) (fun c6 => ?_)
      · skip
        refine di_const rfl ?_
        refine dr_goto rfl rfl ?_
        exact dr_iret (ty := .boolean) rfl rfl (nar_z (by omega) (by omega)) (by decide) (by decide) ⟨rfl, 1, (show 0 ≤ (1) ∧ (1) ≤ 1 ∧ ((1) = 1 → (σ.2.1.2.1 = -1 ∨ σ.2.1.2.1 ≤ a1) ∧ (σ.2.1.2.2 = -1 ∨ a1 ≤ σ.2.1.2.2)) ∧ ((1) = 0 → (σ.2.1.2.1 ≠ -1 ∧ a1 < σ.2.1.2.1) ∨ (σ.2.1.2.2 ≠ -1 ∧ σ.2.1.2.2 < a1)) by omega), by omega, by omega, rfl⟩
      · skip
        refine dr_iload_n rfl rfl ?_
        refine di_aload_n rfl rfl ?_
        refine dr_getf rfl pr1a rfl ?_
        refine di_icmp_gt rfl rfl (by omega) (by omega) (by omega) (by omega) (fun c7 => ?_) (fun c7 => ?_)
        · skip
          refine di_const rfl ?_
          exact dr_iret (ty := .boolean) rfl rfl (nar_z (by omega) (by omega)) (by decide) (by decide) ⟨rfl, 0, (show 0 ≤ (0) ∧ (0) ≤ 1 ∧ ((0) = 1 → (σ.2.1.2.1 = -1 ∨ σ.2.1.2.1 ≤ a1) ∧ (σ.2.1.2.2 = -1 ∨ a1 ≤ σ.2.1.2.2)) ∧ ((0) = 0 → (σ.2.1.2.1 ≠ -1 ∧ a1 < σ.2.1.2.1) ∨ (σ.2.1.2.2 ≠ -1 ∧ σ.2.1.2.2 < a1)) by omega), by omega, by omega, rfl⟩
        · skip
          refine di_const rfl ?_
          refine dr_goto rfl rfl ?_
          exact dr_iret (ty := .boolean) rfl rfl (nar_z (by omega) (by omega)) (by decide) (by decide) ⟨rfl, 1, (show 0 ≤ (1) ∧ (1) ≤ 1 ∧ ((1) = 1 → (σ.2.1.2.1 = -1 ∨ σ.2.1.2.1 ≤ a1) ∧ (σ.2.1.2.2 = -1 ∨ a1 ≤ σ.2.1.2.2)) ∧ ((1) = 0 → (σ.2.1.2.1 ≠ -1 ∧ a1 < σ.2.1.2.1) ∨ (σ.2.1.2.2 ≠ -1 ∧ σ.2.1.2.2 < a1)) by omega), by omega, by omega, rfl⟩
set_option maxHeartbeats 4000000 in
set_option maxRecDepth 100000 in
/-- Earlyends$Part.startIn -/
theorem f_X4_startIn (l : Launch) (hl : l.stackTraces = false) {kc km : Int} {h : dm_H} (hI : Inv kc km h) {B : Int} {σ : St} (hS : CSt B σ h) (hB : B ≤ 90000) {b1 : Nat} {k1 : Int} (hb1 : isBk b1) (k10 : 0 ≤ k1) (k11 : k1 ≤ 2) (kb1 : (b1 : Int) = 17 + 3 * k1) {s m : Int} {u w : List Value} (hc : CA b1 s m u w h) (hr : Rep (cv u) (cv w) s (σ.1 k1)) (ht : Srt (cv u) s) (ma : 0 ≤ m) (mb : m ≤ B) : dm_M l 43 1 0 0 [.ref 2, .ref b1] h (QP h (RI (fun x => 0 ≤ x ∧ x ≤ 8 ∧ stb (cv u) s σ.2.1.2.1 x)) []) := by
  refine dm_M_of dk_43 hl rfl (Nat.le_of_ble_eq_true rfl) ?_
  show dm_W (fun _ _ _ => True) (dm_P (QP h (RI (fun x => 0 ≤ x ∧ x ≤ 8 ∧ stb (cv u) s σ.2.1.2.1 x)) []) 0 0) l 43 1 0 0 0 [some (.ref 2), some (.ref b1)] [] h 0 0
  have sq : 0 ≤ s ∧ s ≤ 8 := ⟨hc.2.2.2.2.2.1, hc.2.2.2.2.2.2.1⟩
  have hz : zF (σ.1 k1) = s := zF_eq hr
  refine di_aload_n rfl rfl ?_
  have pr1 := hS.2
  obtain ⟨pr1a, pr1b, pr1c, pr1d⟩ := pr1
  refine dr_getf rfl pr1a rfl ?_
  refine di_const rfl ?_
  refine di_icmp_ne rfl rfl (by omega) (by omega) (by omega) (by omega) (fun c2 => ?_) (fun c2 => ?_)
  · skip
    refine di_aload_n rfl rfl ?_
    refine di_bipush rfl (by decide) ?_
    refine di_aload_n rfl rfl ?_
    refine dr_getf rfl pr1a rfl ?_
    refine di_imul rfl ?_
    refine dr_virt rfl rfl rfl rfl hc.1 (f_X0_countBelow l hl hI hb1 hc (a1 := (100 * σ.2.1.2.1)) (by omega) (by omega)) (by decide) (by decide) (by decide) (Nat.le_of_ble_eq_true rfl) kNP (kIP (fun y3 y3f y3a y3b => ?_))
    obtain ⟨y3c, y3d, y3k⟩ := y3f
    have y3l : y3 ≤ s := y3k.2.1
    exact dr_iret (ty := .int) rfl rfl rfl (by decide) (by decide) ⟨rfl, y3, ⟨by omega, by omega, stb_1 ht y3k (by omega)⟩, by omega, by omega, rfl⟩
  · skip
    refine di_const rfl ?_
    refine dr_goto rfl rfl ?_
    exact dr_iret (ty := .int) rfl rfl rfl (by decide) (by decide) ⟨rfl, 0, ⟨by omega, by omega, stb_0 (by omega) (by omega)⟩, by omega, by omega, rfl⟩
set_option maxHeartbeats 4000000 in
set_option maxRecDepth 100000 in
/-- Earlyends$Part.endIn -/
theorem f_X4_endIn (l : Launch) (hl : l.stackTraces = false) {kc km : Int} {h : dm_H} (hI : Inv kc km h) {B : Int} {σ : St} (hS : CSt B σ h) (hB : B ≤ 90000) {b1 : Nat} {k1 : Int} (hb1 : isBk b1) (k10 : 0 ≤ k1) (k11 : k1 ≤ 2) (kb1 : (b1 : Int) = 17 + 3 * k1) {s m : Int} {u w : List Value} (hc : CA b1 s m u w h) (hr : Rep (cv u) (cv w) s (σ.1 k1)) (ht : Srt (cv u) s) (ma : 0 ≤ m) (mb : m ≤ B) : dm_M l 44 1 0 0 [.ref 2, .ref b1] h (QP h (RI (fun x => 0 ≤ x ∧ x ≤ 8 ∧ enb (cv u) s σ.2.1.2.2 x)) []) := by
  refine dm_M_of dk_44 hl rfl (Nat.le_of_ble_eq_true rfl) ?_
  show dm_W (fun _ _ _ => True) (dm_P (QP h (RI (fun x => 0 ≤ x ∧ x ≤ 8 ∧ enb (cv u) s σ.2.1.2.2 x)) []) 0 0) l 44 1 0 0 0 [some (.ref 2), some (.ref b1)] [] h 0 0
  have sq : 0 ≤ s ∧ s ≤ 8 := ⟨hc.2.2.2.2.2.1, hc.2.2.2.2.2.2.1⟩
  have hz : zF (σ.1 k1) = s := zF_eq hr
  refine di_aload_n rfl rfl ?_
  have pr1 := hS.2
  obtain ⟨pr1a, pr1b, pr1c, pr1d⟩ := pr1
  refine dr_getf rfl pr1a rfl ?_
  refine di_const rfl ?_
  refine di_icmp_ne rfl rfl (by omega) (by omega) (by omega) (by omega) (fun c2 => ?_) (fun c2 => ?_)
  · skip
    refine di_aload_n rfl rfl ?_
    refine di_bipush rfl (by decide) ?_
    refine di_aload_n rfl rfl ?_
    refine dr_getf rfl pr1a rfl ?_
    refine di_const rfl ?_
    refine di_iadd rfl ?_
    refine di_imul rfl ?_
    refine dr_virt rfl rfl rfl rfl hc.1 (f_X0_countBelow l hl hI hb1 hc (a1 := (100 * (σ.2.1.2.2 + 1))) (by omega) (by omega)) (by decide) (by decide) (by decide) (Nat.le_of_ble_eq_true rfl) kNP (kIP (fun y3 y3f y3a y3b => ?_))
    obtain ⟨y3c, y3d, y3k⟩ := y3f
    have y3l : y3 ≤ s := y3k.2.1
    exact dr_iret (ty := .int) rfl rfl rfl (by decide) (by decide) ⟨rfl, y3, ⟨by omega, by omega, enb_1 ht y3k (by omega)⟩, by omega, by omega, rfl⟩
  · skip
    refine di_aload_n rfl rfl ?_
    refine dr_virt rfl rfl rfl rfl hc.1 (f_X0_count l hl hI hb1 hc ) (by decide) (by decide) (by decide) (Nat.le_of_ble_eq_true rfl) kNP (kIP (fun y4 y4f y4a y4b => ?_))
    obtain ⟨y4c, y4d, y4e⟩ := y4f
    have y4e2 := y4e.symm
    subst y4e2
    refine dr_goto rfl rfl ?_
    exact dr_iret (ty := .int) rfl rfl rfl (by decide) (by decide) ⟨rfl, s, ⟨by omega, by omega, enb_0 (by omega) (by omega)⟩, by omega, by omega, rfl⟩
set_option maxHeartbeats 4000000 in
set_option maxRecDepth 100000 in
/-- Earlyends$Part.countIn -/
theorem f_X4_countIn (l : Launch) (hl : l.stackTraces = false) {kc km : Int} {h : dm_H} (hI : Inv kc km h) {B : Int} {σ : St} (hS : CSt B σ h) (hB : B ≤ 90000) {b1 : Nat} {k1 : Int} (hb1 : isBk b1) (k10 : 0 ≤ k1) (k11 : k1 ≤ 2) (kb1 : (b1 : Int) = 17 + 3 * k1) {s m : Int} {u w : List Value} (hc : CA b1 s m u w h) (hr : Rep (cv u) (cv w) s (σ.1 k1)) (ht : Srt (cv u) s) (ma : 0 ≤ m) (mb : m ≤ B) : dm_M l 45 2 0 0 [.ref 2, .ref b1] h (QP h (RI (fun x => 0 ≤ x ∧ x ≤ 8 ∧ x = nF (σ.1 k1) (inP σ.2.1.2.1 σ.2.1.2.2))) []) := by
  refine dm_M_of dk_45 hl rfl (Nat.le_of_ble_eq_true rfl) ?_
  show dm_W (fun _ _ _ => True) (dm_P (QP h (RI (fun x => 0 ≤ x ∧ x ≤ 8 ∧ x = nF (σ.1 k1) (inP σ.2.1.2.1 σ.2.1.2.2))) []) 0 0) l 45 2 0 0 0 [some (.ref 2), some (.ref b1)] [] h 0 0
  have sq : 0 ≤ s ∧ s ≤ 8 := ⟨hc.2.2.2.2.2.1, hc.2.2.2.2.2.2.1⟩
  have hz : zF (σ.1 k1) = s := zF_eq hr
  refine di_aload_n rfl rfl ?_
  refine di_aload_n rfl rfl ?_
  have pr1 := hS.2
  obtain ⟨pr1a, pr1b, pr1c, pr1d⟩ := pr1
  refine dr_virt rfl rfl rfl rfl pr1a (f_X4_endIn l hl hI hS (by omega) hb1 k10 k11 kb1 hc hr ht ma mb) (by decide) (by decide) (by decide) (Nat.le_of_ble_eq_true rfl) kNP (kIP (fun y2 y2f y2a y2b => ?_))
  obtain ⟨y2c, y2d, y2k⟩ := y2f
  have y2l : y2 ≤ s := y2k.2.1
  refine di_aload_n rfl rfl ?_
  refine di_aload_n rfl rfl ?_
  refine dr_virt rfl rfl rfl rfl pr1a (f_X4_startIn l hl hI hS (by omega) hb1 k10 k11 kb1 hc hr ht ma mb) (by decide) (by decide) (by decide) (Nat.le_of_ble_eq_true rfl) kNP (kIP (fun y3 y3f y3a y3b => ?_))
  obtain ⟨y3c, y3d, y3k⟩ := y3f
  have y3l : y3 ≤ s := y3k.2.1
  refine di_isub rfl ?_
  obtain ⟨zp1, zp2, zp3, zp4, zp5⟩ := hS.2
  have zle := rg_le y3k y2k (by omega) (by omega) zp5
  exact dr_iret (ty := .int) rfl rfl rfl (by decide) (by decide) ⟨rfl, (y2 - y3), ⟨by omega, by omega, ci_e hr y3k y2k (by omega) (by omega) zp5⟩, by omega, by omega, rfl⟩
set_option maxHeartbeats 4000000 in
set_option maxRecDepth 100000 in
/-- Earlyends.takeNote -/
theorem c_X6_takeNote (l : Launch) (hl : l.stackTraces = false) {kc km : Int} {h : dm_H} (hI : Inv kc km h) {B : Int} {σ : St} (hS : CSt B σ h) (hB : B ≤ 80000) {a1 : Int} (h1a : -2147483648 ≤ a1) (h1b : a1 ≤ 2147483647) {a2 : Int} (h2a : -2147483648 ≤ a2) (h2b : a2 ≤ 2147483647) : dm_M l 62 6 8 48 [.ref 0, dI (a1), dI (a2)] h (QX kc km h (B + 20) XB XA (spTakeNote σ a1 a2)) := by
  refine dm_M_of dk_62 hl rfl (Nat.le_of_ble_eq_true rfl) ?_
  show dm_W (fun _ _ _ => True) (dm_P (QX kc km h (B + 20) XB XA (spTakeNote σ a1 a2)) 8 48) l 62 6 8 48 0 [some (.ref 0), some (dI (a1)), some (dI (a2)), none, none] [] h 0 0
  refine di_aload_n rfl rfl ?_
  refine dr_iload_n rfl rfl ?_
  obtain ⟨r1, c2, c3, hc4⟩ := I_cls hI
  refine dr_virt rfl rfl rfl rfl hc4 (f_X6_bookAt l hl hI (a1 := a1) (by omega) (by omega)) (by decide) (by decide) (by decide) (Nat.le_of_ble_eq_true rfl) (fun Y h9 q9 => by obtain ⟨rfl, rfl, hC⟩ := q9; exact dr_out rfl (by decide) (by decide) (QX_1 (a := 0) hI FrC_rf hS (by omega) (by unfold spTakeNote; (repeat' split) <;> first | rfl | (exfalso; omega) | (apply Prod.ext <;> first | rfl | (dsimp only; omega) | (apply Prod.ext <;> first | rfl | (dsimp only; omega)))))) (kPXR (fun r5 ⟨q6, q7, q8, q10⟩ => ?_))
  refine di_astore_n (ls2 := [some (.ref 0), some (dI (a1)), some (dI (a2)), some (.ref r5), none]) rfl rfl rfl ?_
  refine dr_iload_n rfl rfl ?_
  refine dr_stat rfl rfl rfl rfl (f_X6_needNote l hl hI (a0 := a2) (by omega) (by omega)) (by decide) (by decide) (by decide) (Nat.le_of_ble_eq_true rfl) (fun Y h9 q9 => by obtain ⟨rfl, rfl, hC⟩ := q9; exact dr_out rfl (by decide) (by decide) (QX_2 (a := 0) hI FrC_rf hS (by omega) (by unfold spTakeNote; (repeat' split) <;> first | rfl | (exfalso; omega) | (apply Prod.ext <;> first | rfl | (dsimp only; omega) | (apply Prod.ext <;> first | rfl | (dsimp only; omega)))))) (kPXV (fun q11 => ?_))
  refine di_aload_n rfl rfl ?_
  refine dr_iload_n rfl rfl ?_
  obtain ⟨s12, m13, u14, w15, hc16, hr17, ht18, ma19, mb20⟩ := CSt_bk hS (k := a1) q8 q10 q7
  have sq21 : 0 ≤ s12 ∧ s12 ≤ 8 := ⟨hc16.2.2.2.2.2.1, hc16.2.2.2.2.2.2.1⟩
  have hz22 : zF (σ.1 a1) = s12 := zF_eq hr17
  refine dr_virt rfl rfl rfl rfl hc16.1 (f_X0_rankOfNote l hl hI q6 hc16 (a1 := a2) (by omega) (by omega)) (by decide) (by decide) (by decide) (Nat.le_of_ble_eq_true rfl) kNP (kIP (fun y23 y23f y23a y23b => ?_))
  obtain ⟨y23c, y23d, y23k⟩ := y23f
  refine di_istore (ls2 := [some (.ref 0), some (dI (a1)), some (dI (a2)), some (.ref r5), some (dI (y23))]) rfl rfl rfl ?_
  refine dr_iload rfl rfl ?_
  refine di_const rfl ?_
  refine di_icmp_ne rfl rfl (by omega) (by omega) (by omega) (by omega) (fun c24 => ?_) (fun c24 => ?_)
  · skip
    have rn9 : 0 ≤ y23 ∧ y23 < s12 ∧ cv w15 y23 = a2 ∧ ∀ j : Int, 0 ≤ j → j < y23 → cv w15 j ≠ a2 := by rcases y23k with q9 | q9; exact absurd q9.1 (by omega); exact q9
    have ll9 := tn_yes hr17 ht18 rn9.1 rn9.2.1 rn9.2.2.1 rn9.2.2.2
    have cc9 := (Rep_yes hr17 rn9.1 rn9.2.1 rfl).2.2
    obtain ⟨rn1, rn2, rn3, rn4⟩ := rn9
    clear rn4
    refine di_aload_n rfl rfl ?_
    refine dr_iload rfl rfl ?_
    refine dr_virt rfl rfl rfl rfl hc16.1 (c_rem hl hI hS (by omega) q8 q10 q7 q6 hc16 hr17 ht18 mb20 (r := y23) (c := (cv u14 y23)) rn1 rn2 rfl) (by decide) (by decide) (by decide) (Nat.le_of_ble_eq_true rfl) kQCVN (kQCV (fun h25 hI26 hF27 hS28 => ?_))
    have hF29 := hF27
    refine di_const rfl ?_
    exact dr_iret (ty := .int) rfl rfl rfl (by decide) (by decide) (QX_ok hI26 hF29 hS28 (by omega) (by unfold spTakeNote; (try rw [ll9]); (repeat' split) <;> first | rfl | (exfalso; omega) | (apply Prod.ext <;> first | rfl | (dsimp only; omega) | (apply Prod.ext <;> first | rfl | (dsimp only; omega)))))
  · skip
    have rn9 : ∀ j : Int, 0 ≤ j → j < s12 → cv w15 j ≠ a2 := by rcases y23k with q9 | q9; exact q9.2; exact absurd q9.1 (by omega)
    have ll9 := tn_no hr17 rn9
    clear rn9
    refine di_const rfl ?_
    exact dr_iret (ty := .int) rfl rfl rfl (by decide) (by decide) (QX_ok hI FrC_rf hS (by omega) (by unfold spTakeNote; (try rw [ll9]); (repeat' split) <;> first | rfl | (exfalso; omega) | (apply Prod.ext <;> first | rfl | (dsimp only; omega) | (apply Prod.ext <;> first | rfl | (dsimp only; omega)))))
set_option maxHeartbeats 4000000 in
set_option maxRecDepth 100000 in
/-- Earlyends.drawWithin -/
theorem c_X6_drawWithin (l : Launch) (hl : l.stackTraces = false) {kc km : Int} {h : dm_H} (hI : Inv kc km h) {B : Int} {σ : St} (hS : CSt B σ h) (hB : B ≤ 90000) {b0 : Nat} {k0 : Int} (hb0 : isBk b0) (k00 : 0 ≤ k0) (k01 : k0 ≤ 2) (kb0 : (b0 : Int) = 17 + 3 * k0) {a1 : Int} (h1a : 0 ≤ a1) (h1b : a1 ≤ 8) {a2 : Int} (h2a : 0 ≤ a2) (h2b : a2 ≤ 8) {a3 : Int} (h3a : 0 ≤ a3) (h3b : a3 ≤ 1) {s m : Int} {u w : List Value} (hc : CA b0 s m u w h) (hr : Rep (cv u) (cv w) s (σ.1 k0)) (ht : Srt (cv u) s) (ma : 0 ≤ m) (mb : m ≤ B) {P : Int → Bool} (hP : rgP (cv u) s a1 a2 P) : dm_M l 111 3 0 0 [.ref b0, dI (a1), dI (a2), dI (a3)] h (QC kc km h (B + 1) (sDraw σ k0 P a3).1 (sDraw σ k0 P a3).2) := by
  refine dm_M_of dk_111 hl rfl (Nat.le_of_ble_eq_true rfl) ?_
  show dm_W (fun _ _ _ => True) (dm_P (QC kc km h (B + 1) (sDraw σ k0 P a3).1 (sDraw σ k0 P a3).2) 0 0) l 111 3 0 0 0 [some (.ref b0), some (dI (a1)), some (dI (a2)), some (dI (a3)), none, none] [] h 0 0
  have sq : 0 ≤ s ∧ s ≤ 8 := ⟨hc.2.2.2.2.2.1, hc.2.2.2.2.2.2.1⟩
  have hz : zF (σ.1 k0) = s := zF_eq hr
  have hp9 : 0 ≤ a1 ∧ a2 ≤ s := ⟨hP.1, hP.2.1⟩
  refine dr_iload_n rfl rfl ?_
  refine dr_iload_n rfl rfl ?_
  refine di_icmp_lt rfl rfl (by omega) (by omega) (by omega) (by omega) (fun c1 => ?_) (fun c1 => ?_)
  · skip
    refine dr_iload_n rfl rfl ?_
    refine di_if_eq rfl rfl (by omega) (by omega) (fun c2 => ?_) (fun c2 => ?_)
    · skip
      refine dr_iload_n rfl rfl ?_
      refine di_istore (ls2 := [some (.ref b0), some (dI (a1)), some (dI (a2)), some (dI (a3)), some (dI (a1)), none]) rfl rfl rfl ?_
      refine di_aload_n rfl rfl ?_
      refine dr_iload rfl rfl ?_
      refine dr_virt rfl rfl rfl rfl hc.1 (f_X0_codeAt l hl hI hb0 hc (a1 := a1) (by omega) (by omega)) (by decide) (by decide) (by decide) (Nat.le_of_ble_eq_true rfl) kNP (kIP (fun y3 y3f y3a y3b => ?_))
      obtain ⟨y3c, y3d, y3k, y3k2, y3k3⟩ := y3f
      refine di_istore (ls2 := [some (.ref b0), some (dI (a1)), some (dI (a2)), some (dI (a3)), some (dI (a1)), some (dI (y3))]) rfl rfl rfl ?_
      have dl9 := dw_l hr ht hP (by omega)
      have dg9 := dw_g hr ht hP (by omega)
      have ey9 : y3 = cv u a1 := by omega
      have cy9 := (Rep_at hr (j := a1) (by omega) (by omega)).1
      subst ey9
      refine di_aload_n rfl rfl ?_
      refine dr_iload rfl rfl ?_
      refine dr_virt rfl rfl rfl rfl hc.1 (c_rem hl hI hS (by omega) k00 k01 kb0 hb0 hc hr ht mb (r := a1) (c := (cv u a1)) (by omega) (by omega) rfl) (by decide) (by decide) (by decide) (Nat.le_of_ble_eq_true rfl) kQCVN (kQCV (fun h4 hI5 hF6 hS7 => ?_))
      have hF8 := hF6
      refine dr_iload rfl rfl ?_
      exact dr_iret (ty := .int) rfl rfl rfl (by decide) (by decide) (QC_eq hI5 hF8 hS7 (by omega) (by unfold sDraw; (try rw [dl9]); (try rw [dg9]); (repeat' split) <;> first | rfl | (exfalso; omega) | (apply Prod.ext <;> first | rfl | (dsimp only; omega) | (apply Prod.ext <;> first | rfl | (dsimp only; omega)))))
    · skip
      refine dr_iload_n rfl rfl ?_
      refine di_const rfl ?_
      refine di_isub rfl ?_
      refine dr_goto rfl rfl ?_
      refine di_istore (ls2 := [some (.ref b0), some (dI (a1)), some (dI (a2)), some (dI (a3)), some (dI ((a2 - 1))), none]) rfl rfl rfl ?_
      refine di_aload_n rfl rfl ?_
      refine dr_iload rfl rfl ?_
      refine dr_virt rfl rfl rfl rfl hc.1 (f_X0_codeAt l hl hI hb0 hc (a1 := (a2 - 1)) (by omega) (by omega)) (by decide) (by decide) (by decide) (Nat.le_of_ble_eq_true rfl) kNP (kIP (fun y10 y10f y10a y10b => ?_))
      obtain ⟨y10c, y10d, y10k, y10k2, y10k3⟩ := y10f
      refine di_istore (ls2 := [some (.ref b0), some (dI (a1)), some (dI (a2)), some (dI (a3)), some (dI ((a2 - 1))), some (dI (y10))]) rfl rfl rfl ?_
      have dl9 := dw_l hr ht hP (by omega)
      have dg9 := dw_g hr ht hP (by omega)
      have ey9 : y10 = cv u (a2 - 1) := by omega
      have cy9 := (Rep_at hr (j := (a2 - 1)) (by omega) (by omega)).1
      subst ey9
      refine di_aload_n rfl rfl ?_
      refine dr_iload rfl rfl ?_
      refine dr_virt rfl rfl rfl rfl hc.1 (c_rem hl hI hS (by omega) k00 k01 kb0 hb0 hc hr ht mb (r := (a2 - 1)) (c := (cv u (a2 - 1))) (by omega) (by omega) rfl) (by decide) (by decide) (by decide) (Nat.le_of_ble_eq_true rfl) kQCVN (kQCV (fun h11 hI12 hF13 hS14 => ?_))
      have hF15 := hF13
      refine dr_iload rfl rfl ?_
      exact dr_iret (ty := .int) rfl rfl rfl (by decide) (by decide) (QC_eq hI12 hF15 hS14 (by omega) (by unfold sDraw; (try rw [dl9]); (try rw [dg9]); (repeat' split) <;> first | rfl | (exfalso; omega) | (apply Prod.ext <;> first | rfl | (dsimp only; omega) | (apply Prod.ext <;> first | rfl | (dsimp only; omega)))))
  · skip
    have dn9 := dw_no hr hP (by omega)
    obtain ⟨dl9, dg9⟩ := dn9
    refine di_const rfl ?_
    exact dr_iret (ty := .int) rfl rfl rfl (by decide) (by decide) (QC_eq hI FrC_rf hS (by omega) (by unfold sDraw; (try rw [dl9]); (try rw [dg9]); (repeat' split) <;> first | rfl | (exfalso; omega) | (apply Prod.ext <;> first | rfl | (dsimp only; omega) | (apply Prod.ext <;> first | rfl | (dsimp only; omega)))))
set_option maxHeartbeats 4000000 in
set_option maxRecDepth 100000 in
/-- Earlyends.draw -/
theorem c_X6_draw (l : Launch) (hl : l.stackTraces = false) {kc km : Int} {h : dm_H} (hI : Inv kc km h) {B : Int} {σ : St} (hS : CSt B σ h) (hB : B ≤ 80000) {a1 : Int} (h1a : -2147483648 ≤ a1) (h1b : a1 ≤ 2147483647) {a2 : Int} (h2a : 0 ≤ a2) (h2b : a2 ≤ 1) : dm_M l 63 6 8 48 [.ref 0, dI (a1), dI (a2)] h (QX kc km h (B + 20) XB XA (spDraw σ a1 a2)) := by
  refine dm_M_of dk_63 hl rfl (Nat.le_of_ble_eq_true rfl) ?_
  show dm_W (fun _ _ _ => True) (dm_P (QX kc km h (B + 20) XB XA (spDraw σ a1 a2)) 8 48) l 63 6 8 48 0 [some (.ref 0), some (dI (a1)), some (dI (a2)), none] [] h 0 0
  refine di_aload_n rfl rfl ?_
  refine dr_iload_n rfl rfl ?_
  obtain ⟨r1, c2, c3, hc4⟩ := I_cls hI
  refine dr_virt rfl rfl rfl rfl hc4 (f_X6_bookAt l hl hI (a1 := a1) (by omega) (by omega)) (by decide) (by decide) (by decide) (Nat.le_of_ble_eq_true rfl) (fun Y h9 q9 => by obtain ⟨rfl, rfl, hC⟩ := q9; exact dr_out rfl (by decide) (by decide) (QX_1 (a := 0) hI FrC_rf hS (by omega) (by unfold spDraw; (repeat' split) <;> first | rfl | (exfalso; omega) | (apply Prod.ext <;> first | rfl | (dsimp only; omega) | (apply Prod.ext <;> first | rfl | (dsimp only; omega)))))) (kPXR (fun r5 ⟨q6, q7, q8, q10⟩ => ?_))
  refine di_astore_n (ls2 := [some (.ref 0), some (dI (a1)), some (dI (a2)), some (.ref r5)]) rfl rfl rfl ?_
  refine di_aload_n rfl rfl ?_
  refine di_const rfl ?_
  refine di_aload_n rfl rfl ?_
  obtain ⟨s11, m12, u13, w14, hc15, hr16, ht17, ma18, mb19⟩ := CSt_bk hS (k := a1) q8 q10 q7
  have sq20 : 0 ≤ s11 ∧ s11 ≤ 8 := ⟨hc15.2.2.2.2.2.1, hc15.2.2.2.2.2.2.1⟩
  have hz21 : zF (σ.1 a1) = s11 := zF_eq hr16
  refine dr_virt rfl rfl rfl rfl hc15.1 (f_X0_count l hl hI q6 hc15 ) (by decide) (by decide) (by decide) (Nat.le_of_ble_eq_true rfl) kNP (kIP (fun y22 y22f y22a y22b => ?_))
  obtain ⟨y22c, y22d, y22e⟩ := y22f
  have y22e2 := y22e.symm
  subst y22e2
  refine dr_iload_n rfl rfl ?_
  refine dr_stat rfl rfl rfl rfl (c_X6_drawWithin l hl hI hS (by omega) q6 q8 q10 q7 (a1 := 0) (by omega) (by omega) (a2 := s11) (by omega) (by omega) (a3 := a2) (by omega) (by omega) hc15 hr16 ht17 ma18 mb19 (P := (fun _ => true)) rg_all) (by decide) (by decide) (by decide) (Nat.le_of_ble_eq_true rfl) kQCN (kQC (fun h23 hI24 hF25 hS26 => ?_))
  have hF27 := hF25
  exact dr_iret (ty := .int) rfl rfl rfl (by decide) (by decide) (QX_ok hI24 hF27 hS26 (by omega) (by unfold spDraw; (repeat' split) <;> first | rfl | (exfalso; omega) | (apply Prod.ext <;> first | rfl | (dsimp only; omega) | (apply Prod.ext <;> first | rfl | (dsimp only; omega)))))
set_option maxHeartbeats 4000000 in
set_option maxRecDepth 100000 in
/-- Earlyends.partPut -/
theorem c_X6_partPut (l : Launch) (hl : l.stackTraces = false) {kc km : Int} {h : dm_H} (hI : Inv kc km h) {B : Int} {σ : St} (hS : CSt B σ h) (hB : B ≤ 80000) {a1 : Int} (h1a : -2147483648 ≤ a1) (h1b : a1 ≤ 2147483647) {a2 : Int} (h2a : -2147483648 ≤ a2) (h2b : a2 ≤ 2147483647) {a3 : Int} (h3a : -2147483648 ≤ a3) (h3b : a3 ≤ 2147483647) : dm_M l 70 6 8 48 [.ref 0, dI (a1), dI (a2), dI (a3)] h (QX kc km h (B + 20) XA XS (spPartPut σ a1 a2 a3)) := by
  refine dm_M_of dk_70 hl rfl (Nat.le_of_ble_eq_true rfl) ?_
  show dm_W (fun _ _ _ => True) (dm_P (QX kc km h (B + 20) XA XS (spPartPut σ a1 a2 a3)) 8 48) l 70 6 8 48 0 [some (.ref 0), some (dI (a1)), some (dI (a2)), some (dI (a3)), none, none] [] h 0 0
  refine dr_iload_n rfl rfl ?_
  refine dr_iload_n rfl rfl ?_
  refine dr_stat rfl rfl rfl rfl (f_X6_codeOfSpan l hl hI (a0 := a1) (by omega) (by omega) (a1 := a2) (by omega) (by omega)) (by decide) (by decide) (by decide) (Nat.le_of_ble_eq_true rfl) (fun Y h9 q9 => by obtain ⟨rfl, rfl, hC⟩ := q9; exact dr_out rfl (by decide) (by decide) (QX_1 (a := 0) hI FrC_rf hS (by omega) (by unfold spPartPut; (repeat' split) <;> first | rfl | (exfalso; omega) | (apply Prod.ext <;> first | rfl | (dsimp only; omega) | (apply Prod.ext <;> first | rfl | (dsimp only; omega)))))) (kPXI (fun y1 ⟨q2, q3, q4, q5⟩ => ?_))
  subst q2
  refine di_istore (ls2 := [some (.ref 0), some (dI (a1)), some (dI (a2)), some (dI (a3)), some (dI ((100 * a2 + a1))), none]) rfl rfl rfl ?_
  refine dr_iload_n rfl rfl ?_
  refine dr_stat rfl rfl rfl rfl (f_X6_needNote l hl hI (a0 := a3) (by omega) (by omega)) (by decide) (by decide) (by decide) (Nat.le_of_ble_eq_true rfl) (fun Y h9 q9 => by obtain ⟨rfl, rfl, hC⟩ := q9; exact dr_out rfl (by decide) (by decide) (QX_1 (a := 0) hI FrC_rf hS (by omega) (by unfold spPartPut; (repeat' split) <;> first | rfl | (exfalso; omega) | (apply Prod.ext <;> first | rfl | (dsimp only; omega) | (apply Prod.ext <;> first | rfl | (dsimp only; omega)))))) (kPXV (fun q6 => ?_))
  refine di_aload_n rfl rfl ?_
  obtain ⟨r7, c8, c10, hc11⟩ := I_cls hI
  refine dr_virt rfl rfl rfl rfl hc11 (f_X6_bookOfPart l hl hI hS (by omega)) (by decide) (by decide) (by decide) (Nat.le_of_ble_eq_true rfl) (fun Y h9 q9 => by obtain ⟨rfl, rfl, hC⟩ := q9; exact dr_out rfl (by decide) (by decide) (QX_2 (a := 0) hI FrC_rf hS (by omega) (by unfold spPartPut; (repeat' split) <;> first | rfl | (exfalso; omega) | (apply Prod.ext <;> first | rfl | (dsimp only; omega) | (apply Prod.ext <;> first | rfl | (dsimp only; omega)))))) (kPXR (fun r12 ⟨q13, q14, q15, q16⟩ => ?_))
  refine di_astore (ls2 := [some (.ref 0), some (dI (a1)), some (dI (a2)), some (dI (a3)), some (dI ((100 * a2 + a1))), some (.ref r12)]) rfl rfl rfl ?_
  refine di_aload_n rfl rfl ?_
  refine dr_getf rfl hc11 rfl ?_
  refine dr_iload_n rfl rfl ?_
  have pr17 := hS.2
  obtain ⟨pr17a, pr17b, pr17c, pr17d⟩ := pr17
  refine dr_virt rfl rfl rfl rfl pr17a (f_X4_isWithin l hl hI hS (by omega) (a1 := a2) (by omega) (by omega)) (by decide) (by decide) (by decide) (Nat.le_of_ble_eq_true rfl) kNP (kIP (fun y18 y18f y18a y18b => ?_))
  obtain ⟨y18c, y18d, y18e, y18g⟩ := y18f
  refine di_if_eq rfl rfl (by omega) (by omega) (fun c19 => ?_) (fun c19 => ?_)
  · skip
    refine di_aload_n rfl rfl ?_
    refine dr_virt rfl rfl rfl rfl hc11 (c_X6_refuse l hl hI hS (by omega)) (by decide) (by decide) (by decide) (Nat.le_of_ble_eq_true rfl) kQCN (kQC (fun h20 hI21 hF22 hS23 => ?_))
    have hF24 := hF22
    exact dr_iret (ty := .int) rfl rfl rfl (by decide) (by decide) (QX_ok hI21 hF24 hS23 (by omega) (by unfold spPartPut; (repeat' split) <;> first | rfl | (exfalso; omega) | (apply Prod.ext <;> first | rfl | (dsimp only; omega) | (apply Prod.ext <;> first | rfl | (dsimp only; omega)))))
  · skip
    refine di_aload_n rfl rfl ?_
    refine di_aload rfl rfl ?_
    refine dr_iload rfl rfl ?_
    refine dr_iload_n rfl rfl ?_
    obtain ⟨s25, m26, u27, w28, hc29, hr30, ht31, ma32, mb33⟩ := CSt_bk hS (k := σ.2.1.1) q15 q16 q14
    have sq34 : 0 ≤ s25 ∧ s25 ≤ 8 := ⟨hc29.2.2.2.2.2.1, hc29.2.2.2.2.2.2.1⟩
    have hz35 : zF (σ.1 σ.2.1.1) = s25 := zF_eq hr30
    refine dr_virt rfl rfl rfl rfl hc11 (c_X6_setOrBring l hl hI hS (by omega) q13 q15 q16 q14 (a2 := (100 * a2 + a1)) (by omega) (by omega) (a3 := a3) (by omega) (by omega) (by omega)) (by decide) (by decide) (by decide) (Nat.le_of_ble_eq_true rfl) kQCN (kQC (fun h36 hI37 hF38 hS39 => ?_))
    have hF40 := hF38
    refine dr_goto rfl rfl ?_
    exact dr_iret (ty := .int) rfl rfl rfl (by decide) (by decide) (QX_ok hI37 hF40 hS39 (by omega) (by unfold spPartPut; (repeat' split) <;> first | rfl | (exfalso; omega) | (apply Prod.ext <;> first | rfl | (dsimp only; omega) | (apply Prod.ext <;> first | rfl | (dsimp only; omega)))))
set_option maxHeartbeats 4000000 in
set_option maxRecDepth 100000 in
/-- Earlyends.partTake -/
theorem c_X6_partTake (l : Launch) (hl : l.stackTraces = false) {kc km : Int} {h : dm_H} (hI : Inv kc km h) {B : Int} {σ : St} (hS : CSt B σ h) (hB : B ≤ 80000) {a1 : Int} (h1a : -2147483648 ≤ a1) (h1b : a1 ≤ 2147483647) {a2 : Int} (h2a : -2147483648 ≤ a2) (h2b : a2 ≤ 2147483647) : dm_M l 71 6 8 48 [.ref 0, dI (a1), dI (a2)] h (QX kc km h (B + 20) XA XS (spPartTake σ a1 a2)) := by
  refine dm_M_of dk_71 hl rfl (Nat.le_of_ble_eq_true rfl) ?_
  show dm_W (fun _ _ _ => True) (dm_P (QX kc km h (B + 20) XA XS (spPartTake σ a1 a2)) 8 48) l 71 6 8 48 0 [some (.ref 0), some (dI (a1)), some (dI (a2)), none, none] [] h 0 0
  refine dr_iload_n rfl rfl ?_
  refine dr_iload_n rfl rfl ?_
  refine dr_stat rfl rfl rfl rfl (f_X6_codeOfSpan l hl hI (a0 := a1) (by omega) (by omega) (a1 := a2) (by omega) (by omega)) (by decide) (by decide) (by decide) (Nat.le_of_ble_eq_true rfl) (fun Y h9 q9 => by obtain ⟨rfl, rfl, hC⟩ := q9; exact dr_out rfl (by decide) (by decide) (QX_1 (a := 0) hI FrC_rf hS (by omega) (by unfold spPartTake; (repeat' split) <;> first | rfl | (exfalso; omega) | (apply Prod.ext <;> first | rfl | (dsimp only; omega) | (apply Prod.ext <;> first | rfl | (dsimp only; omega)))))) (kPXI (fun y1 ⟨q2, q3, q4, q5⟩ => ?_))
  subst q2
  refine di_istore_n (ls2 := [some (.ref 0), some (dI (a1)), some (dI (a2)), some (dI ((100 * a2 + a1))), none]) rfl rfl rfl ?_
  refine di_aload_n rfl rfl ?_
  obtain ⟨r6, c7, c8, hc10⟩ := I_cls hI
  refine dr_virt rfl rfl rfl rfl hc10 (f_X6_bookOfPart l hl hI hS (by omega)) (by decide) (by decide) (by decide) (Nat.le_of_ble_eq_true rfl) (fun Y h9 q9 => by obtain ⟨rfl, rfl, hC⟩ := q9; exact dr_out rfl (by decide) (by decide) (QX_2 (a := 0) hI FrC_rf hS (by omega) (by unfold spPartTake; (repeat' split) <;> first | rfl | (exfalso; omega) | (apply Prod.ext <;> first | rfl | (dsimp only; omega) | (apply Prod.ext <;> first | rfl | (dsimp only; omega)))))) (kPXR (fun r11 ⟨q12, q13, q14, q15⟩ => ?_))
  refine di_astore (ls2 := [some (.ref 0), some (dI (a1)), some (dI (a2)), some (dI ((100 * a2 + a1))), some (.ref r11)]) rfl rfl rfl ?_
  refine di_aload_n rfl rfl ?_
  refine dr_getf rfl hc10 rfl ?_
  refine dr_iload_n rfl rfl ?_
  have pr16 := hS.2
  obtain ⟨pr16a, pr16b, pr16c, pr16d⟩ := pr16
  refine dr_virt rfl rfl rfl rfl pr16a (f_X4_isWithin l hl hI hS (by omega) (a1 := a2) (by omega) (by omega)) (by decide) (by decide) (by decide) (Nat.le_of_ble_eq_true rfl) kNP (kIP (fun y17 y17f y17a y17b => ?_))
  obtain ⟨y17c, y17d, y17e, y17g⟩ := y17f
  refine di_if_eq rfl rfl (by omega) (by omega) (fun c18 => ?_) (fun c18 => ?_)
  · skip
    refine di_const rfl ?_
    exact dr_iret (ty := .int) rfl rfl rfl (by decide) (by decide) (QX_ok hI FrC_rf hS (by omega) (by unfold spPartTake; (repeat' split) <;> first | rfl | (exfalso; omega) | (apply Prod.ext <;> first | rfl | (dsimp only; omega) | (apply Prod.ext <;> first | rfl | (dsimp only; omega)))))
  · skip
    refine di_aload rfl rfl ?_
    refine di_aload rfl rfl ?_
    refine dr_iload_n rfl rfl ?_
    obtain ⟨s19, m20, u21, w22, hc23, hr24, ht25, ma26, mb27⟩ := CSt_bk hS (k := σ.2.1.1) q14 q15 q13
    have sq28 : 0 ≤ s19 ∧ s19 ≤ 8 := ⟨hc23.2.2.2.2.2.1, hc23.2.2.2.2.2.2.1⟩
    have hz29 : zF (σ.1 σ.2.1.1) = s19 := zF_eq hr24
    refine dr_virt rfl rfl rfl rfl hc23.1 (f_X0_rankOf l hl hI q12 hc23 (a1 := (100 * a2 + a1)) (by omega) (by omega) hr24 ht25) (by decide) (by decide) (by decide) (Nat.le_of_ble_eq_true rfl) kNP (kIP (fun y30 y30f y30a y30b => ?_))
    obtain ⟨y30c, y30d, y30k⟩ := y30f
    refine dr_stat rfl rfl rfl rfl (c_X6_removeTold l hl hI hS (by omega) q12 q14 q15 q13 (a1 := y30) (by omega) (by omega) hc23 hr24 ht25 ma26 mb27 y30k) (by decide) (by decide) (by decide) (Nat.le_of_ble_eq_true rfl) kQCN (kQC (fun h31 hI32 hF33 hS34 => ?_))
    have hF35 := hF33
    refine dr_goto rfl rfl ?_
    exact dr_iret (ty := .int) rfl rfl rfl (by decide) (by decide) (QX_ok hI32 hF35 hS34 (by omega) (by unfold spPartTake; (repeat' split) <;> first | rfl | (exfalso; omega) | (apply Prod.ext <;> first | rfl | (dsimp only; omega) | (apply Prod.ext <;> first | rfl | (dsimp only; omega)))))
set_option maxHeartbeats 4000000 in
set_option maxRecDepth 100000 in
/-- Earlyends.partDraw -/
theorem c_X6_partDraw (l : Launch) (hl : l.stackTraces = false) {kc km : Int} {h : dm_H} (hI : Inv kc km h) {B : Int} {σ : St} (hS : CSt B σ h) (hB : B ≤ 80000) {a1 : Int} (h1a : 0 ≤ a1) (h1b : a1 ≤ 1) : dm_M l 72 6 8 48 [.ref 0, dI (a1)] h (QX kc km h (B + 20) XS XA (spPartDraw σ a1)) := by
  refine dm_M_of dk_72 hl rfl (Nat.le_of_ble_eq_true rfl) ?_
  show dm_W (fun _ _ _ => True) (dm_P (QX kc km h (B + 20) XS XA (spPartDraw σ a1)) 8 48) l 72 6 8 48 0 [some (.ref 0), some (dI (a1)), none] [] h 0 0
  refine di_aload_n rfl rfl ?_
  obtain ⟨r1, c2, c3, hc4⟩ := I_cls hI
  refine dr_virt rfl rfl rfl rfl hc4 (f_X6_bookOfPart l hl hI hS (by omega)) (by decide) (by decide) (by decide) (Nat.le_of_ble_eq_true rfl) (fun Y h9 q9 => by obtain ⟨rfl, rfl, hC⟩ := q9; exact dr_out rfl (by decide) (by decide) (QX_1 (a := 0) hI FrC_rf hS (by omega) (by unfold spPartDraw; (repeat' split) <;> first | rfl | (exfalso; omega) | (apply Prod.ext <;> first | rfl | (dsimp only; omega) | (apply Prod.ext <;> first | rfl | (dsimp only; omega)))))) (kPXR (fun r5 ⟨q6, q7, q8, q10⟩ => ?_))
  refine di_astore_n (ls2 := [some (.ref 0), some (dI (a1)), some (.ref r5)]) rfl rfl rfl ?_
  refine di_aload_n rfl rfl ?_
  refine di_aload_n rfl rfl ?_
  refine dr_getf rfl hc4 rfl ?_
  refine di_aload_n rfl rfl ?_
  have pr11 := hS.2
  obtain ⟨pr11a, pr11b, pr11c, pr11d⟩ := pr11
  obtain ⟨s12, m13, u14, w15, hc16, hr17, ht18, ma19, mb20⟩ := CSt_bk hS (k := σ.2.1.1) q8 q10 q7
  have sq21 : 0 ≤ s12 ∧ s12 ≤ 8 := ⟨hc16.2.2.2.2.2.1, hc16.2.2.2.2.2.2.1⟩
  have hz22 : zF (σ.1 σ.2.1.1) = s12 := zF_eq hr17
  refine dr_virt rfl rfl rfl rfl pr11a (f_X4_startIn l hl hI hS (by omega) q6 q8 q10 q7 hc16 hr17 ht18 ma19 mb20) (by decide) (by decide) (by decide) (Nat.le_of_ble_eq_true rfl) kNP (kIP (fun y23 y23f y23a y23b => ?_))
  obtain ⟨y23c, y23d, y23k⟩ := y23f
  have y23l : y23 ≤ s12 := y23k.2.1
  refine di_aload_n rfl rfl ?_
  refine dr_getf rfl hc4 rfl ?_
  refine di_aload_n rfl rfl ?_
  refine dr_virt rfl rfl rfl rfl pr11a (f_X4_endIn l hl hI hS (by omega) q6 q8 q10 q7 hc16 hr17 ht18 ma19 mb20) (by decide) (by decide) (by decide) (Nat.le_of_ble_eq_true rfl) kNP (kIP (fun y24 y24f y24a y24b => ?_))
  obtain ⟨y24c, y24d, y24k⟩ := y24f
  have y24l : y24 ≤ s12 := y24k.2.1
  refine dr_iload_n rfl rfl ?_
  refine dr_stat rfl rfl rfl rfl (c_X6_drawWithin l hl hI hS (by omega) q6 q8 q10 q7 (a1 := y23) (by omega) (by omega) (a2 := y24) (by omega) (by omega) (a3 := a1) (by omega) (by omega) hc16 hr17 ht18 ma19 mb20 (P := (inP σ.2.1.2.1 σ.2.1.2.2)) (rg_P y23k y24k)) (by decide) (by decide) (by decide) (Nat.le_of_ble_eq_true rfl) kQCN (kQC (fun h25 hI26 hF27 hS28 => ?_))
  have hF29 := hF27
  exact dr_iret (ty := .int) rfl rfl rfl (by decide) (by decide) (QX_ok hI26 hF29 hS28 (by omega) (by unfold spPartDraw; (repeat' split) <;> first | rfl | (exfalso; omega) | (apply Prod.ext <;> first | rfl | (dsimp only; omega) | (apply Prod.ext <;> first | rfl | (dsimp only; omega)))))
