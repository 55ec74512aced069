/-! ===== the calls that take by rank, by note, or many ===== -/
theorem cnt_dl {f : Int → Int} {P : Int → Bool} {r : Int} (r0 : 0 ≤ r) : ∀ n : Nat, ((n : Int) ≤ r → cnt (delf f r) P n = cnt f P n) ∧ (r ≤ (n : Int) → cnt (delf f r) P n + (if P (f r) then 1 else 0) = cnt f P (n + 1))
  | 0 => ⟨fun _ => rfl, fun h => by
    have e : r = ((0 : Nat) : Int) := by omega
    rw [e]; rfl⟩
  | n + 1 => by
    obtain ⟨i1, i2⟩ := cnt_dl (f := f) (P := P) r0 n
    have e1 : (n : Int) < r → cnt (delf f r) P (n + 1) = cnt f P (n + 1) := fun h => by
      show cnt (delf f r) P n + (if P (delf f r (n : Int)) then 1 else 0) = cnt f P n + (if P (f (n : Int)) then 1 else 0)
      rw [i1 (by omega), show delf f r (n : Int) = f (n : Int) from if_pos h]
    refine ⟨fun h => e1 (by omega), fun h => ?_⟩
    by_cases q : r = ((n + 1 : Nat) : Int)
    · rw [e1 (by omega), q]; rfl
    · have := i2 (by omega)
      show cnt (delf f r) P n + (if P (delf f r (n : Int)) then 1 else 0) + (if P (f r) then 1 else 0) = cnt f P (n + 1) + (if P (f ((n + 1 : Nat) : Int)) then 1 else 0)
      rw [show delf f r (n : Int) = f ((n + 1 : Nat) : Int) from if_neg (by omega), ← this]
      omega
theorem nF_del {f g F : Int → Int} {s c : Int} {P : Int → Bool} (hr : Rep f g s F) (hc : F c ≠ -1) : nF (up F c (-1)) P = nF F P - (if P c then 1 else 0) := by
  obtain ⟨j, h0, h1, e⟩ := Rep_ex hr hc
  subst e
  rw [nF_eq P (Rep_del hr h0 h1), nF_eq P hr]
  have := (cnt_dl (f := f) (P := P) h0 (s - 1).toNat).2 (by omega)
  rw [show (s - 1).toNat + 1 = s.toNat by omega] at this
  omega
theorem cnt_no {f : Int → Int} {P : Int → Bool} : ∀ n : Nat, (∀ j : Int, 0 ≤ j → j < n → P (f j) = false) → cnt f P n = 0
  | 0, _ => rfl
  | n + 1, h => by
    show cnt f P n + (if P (f (n : Int)) then 1 else 0) = 0
    rw [cnt_no n (fun j h0 h1 => h j h0 (by omega)), h n (by omega) (by omega)]; rfl
theorem cnt_z {f : Int → Int} {P : Int → Bool} : ∀ n : Nat, cnt f P n = 0 → ∀ j : Int, 0 ≤ j → j < n → P (f j) = false
  | 0, _ => fun j h0 h1 => absurd h1 (by omega)
  | n + 1, h => fun j h0 h1 => by
    have h' : cnt f P n + (if P (f (n : Int)) then 1 else 0) = 0 := h
    have hb := (cnt_b f P n).1
    by_cases q : j = n
    · rw [q]
      cases e : P (f (n : Int)) with
      | false => rfl
      | true => rw [e, if_pos rfl] at h'; omega
    · refine cnt_z n ?_ j h0 (by omega)
      by_cases e : P (f (n : Int)) = true
      · rw [if_pos e] at h'; omega
      · rw [if_neg e] at h'; omega
theorem nF_no {f g F : Int → Int} {s : Int} {P : Int → Bool} (hr : Rep f g s F) (h : ∀ c, F c ≠ -1 → P c = false) : nF F P = 0 := by
  rw [nF_eq P hr]
  exact cnt_no _ (fun j h0 h1 => h _ (Rep_yes hr h0 (by omega) rfl).2.1)
theorem nF_z {f g F : Int → Int} {s : Int} {P : Int → Bool} (hr : Rep f g s F) (h : nF F P = 0) : ∀ c, F c ≠ -1 → P c = false := fun c hc => by
  rw [nF_eq P hr] at h
  obtain ⟨j, h0, h1, e⟩ := Rep_ex hr hc
  rw [← e]; exact cnt_z _ h j h0 (by omega)
theorem eb_ex {z : Prop} {f g F : Int → Int} {s : Int} {P : Int → Bool} (hr : Rep f g s F) : ∀ n : Nat, (n : Int) ≤ s → ∃ b : Int, ebP z b f P n
  | 0, _ => ⟨-1, eb_0⟩
  | n + 1, h => by
    obtain ⟨b, hb⟩ := eb_ex (z := z) (P := P) hr n (by omega)
    have hx := (Rep_at hr (j := (n : Int)) (by omega) (by omega)).1
    show ∃ b, ebP z b f P ((n : Int) + 1)
    cases e : P (f (n : Int)) with
    | false => exact ⟨b, eb_n hb rfl e⟩
    | true =>
      by_cases q : b = -1
      · exact ⟨f n, eb_t hb (by omega) rfl e hx.1 (fun h => absurd q h) (fun h => absurd q h)⟩
      · by_cases hz : z
        · by_cases q2 : f n ≤ b
          · exact ⟨b, eb_k hb q rfl (fun _ => q2) (fun h => absurd hz h)⟩
          · exact ⟨f n, eb_t hb (by omega) rfl e hx.1 (fun _ _ => by omega) (fun _ h => absurd hz h)⟩
        · by_cases q2 : b ≤ f n
          · exact ⟨b, eb_k hb q rfl (fun h => absurd h hz) (fun _ => q2)⟩
          · exact ⟨f n, eb_t hb (by omega) rfl e hx.1 (fun _ h => absurd h hz) (fun _ _ => by omega)⟩
theorem lst_d {f g F : Int → Int} {s : Int} {P : Int → Bool} (hr : Rep f g s F) : (lst F P = -1 ∧ ∀ c, F c ≠ -1 → P c = false) ∨ (lst F P ≠ -1 ∧ F (lst F P) ≠ -1 ∧ P (lst F P) = true) := by
  obtain ⟨b, hb⟩ := eb_ex (z := False) (P := P) hr s.toNat (by have := Rep_s0 hr; omega)
  have e := (eb_e hb hr (by have := Rep_s0 hr; omega)).2 (fun h => h)
  rcases hb with ⟨h1, h2⟩ | ⟨h1, ⟨j9, k0, k1, k2⟩, h3, -⟩
  · refine Or.inl ⟨e.symm.trans h1, fun c hc => ?_⟩
    obtain ⟨j, j0, j1, e⟩ := Rep_ex hr hc
    rw [← e]; exact h2 j j0 (by omega)
  · rw [← e]; exact Or.inr ⟨h1, (Rep_yes hr k0 (by omega) k2).2.1, h3⟩
theorem grt_d {f g F : Int → Int} {s : Int} {P : Int → Bool} (hr : Rep f g s F) : (grt F P = -1 ∧ ∀ c, F c ≠ -1 → P c = false) ∨ (grt F P ≠ -1 ∧ F (grt F P) ≠ -1 ∧ P (grt F P) = true) := by
  obtain ⟨b, hb⟩ := eb_ex (z := True) (P := P) hr s.toNat (by have := Rep_s0 hr; omega)
  have e := (eb_e hb hr (by have := Rep_s0 hr; omega)).1 trivial
  rcases hb with ⟨h1, h2⟩ | ⟨h1, ⟨j9, k0, k1, k2⟩, h3, -⟩
  · refine Or.inl ⟨e.symm.trans h1, fun c hc => ?_⟩
    obtain ⟨j, j0, j1, e⟩ := Rep_ex hr hc
    rw [← e]; exact h2 j j0 (by omega)
  · rw [← e]; exact Or.inr ⟨h1, (Rep_yes hr k0 (by omega) k2).2.1, h3⟩
def yIn (F : Int → Int) (y : Int) : Prop := (y = -1 ∧ F y = -1) ∨ (y ≠ -1 ∧ F y ≠ -1)
theorem yIn_pe {z : Prop} {f g F : Int → Int} {s y : Int} {P : Int → Bool} (hr : Rep f g s F) (h : (z → y = grt F P) ∧ (¬ z → y = lst F P)) : yIn F y := by
  by_cases hz : z
  · rw [h.1 hz]
    rcases grt_d (P := P) hr with q | q
    · rw [q.1]; exact Or.inl ⟨rfl, Rep_neg hr (by decide)⟩
    · exact Or.inr ⟨q.1, q.2.1⟩
  · rw [h.2 hz]
    rcases lst_d (P := P) hr with q | q
    · rw [q.1]; exact Or.inl ⟨rfl, Rep_neg hr (by decide)⟩
    · exact Or.inr ⟨q.1, q.2.1⟩
theorem yIn_rk {f g F : Int → Int} {s r y : Int} (hr : Rep f g s F) (h : rkC F r y) : yIn F y := by
  rcases h with ⟨h1, -⟩ | ⟨h1, -⟩
  · rw [h1]; exact Or.inl ⟨rfl, Rep_neg hr (by decide)⟩
  · refine Or.inr ⟨fun e => h1 ?_, h1⟩
    rw [e]; exact Rep_neg hr (by decide)
theorem sDraw_e {σ : St} {k z y : Int} {P : Int → Bool} (h1 : z = 1 → grt (σ.1 k) P = y) (h0 : ¬ z = 1 → lst (σ.1 k) P = y) (hy : yIn (σ.1 k) y) : sDraw σ k P z = (y, (sTake σ k y).2) := by
  unfold sDraw
  by_cases q : z = 1
  · rw [if_pos q, h1 q]
    rcases hy with ⟨a, b⟩ | ⟨a, b⟩
    · rw [if_pos a, sTake_n b, a]
    · rw [if_neg a, sTake_y b]
  · rw [if_neg q, h0 q]
    rcases hy with ⟨a, b⟩ | ⟨a, b⟩
    · rw [if_pos a, sTake_n b, a]
    · rw [if_neg a, sTake_y b]
theorem dr_l {f g F : Int → Int} {s y : Int} (h : rkC F 0 y) (hr : Rep f g s F) (ht : Srt f s) : lst F (fun _ => true) = y := by
  have q := rkC_s h hr ht
  by_cases hs : 0 < s
  · rw [q.1 (by omega) hs]
    refine lst_eq ⟨(Rep_yes hr (by omega) hs rfl).2.1, rfl, fun c hc _ => ?_⟩
    obtain ⟨j, j0, j1, e⟩ := Rep_ex hr hc
    subst e
    by_cases q2 : j = 0
    · rw [q2]; exact Int.le_refl _
    · exact Int.le_of_lt (ht 0 j (by omega) (by omega) j1)
  · rw [q.2 (Or.inr (by omega))]
    exact lst_no (fun c hc => by
      obtain ⟨j, j0, j1, e⟩ := Rep_ex hr hc
      omega)
theorem dr_g {f g F : Int → Int} {s r y : Int} (h : rkC F r y) (hr : Rep f g s F) (ht : Srt f s) (er : r = s - 1) : grt F (fun _ => true) = y := by
  have q := rkC_s h hr ht
  by_cases hs : 0 < s
  · rw [q.1 (by omega) (by omega)]
    refine grt_eq ⟨(Rep_yes hr (j := r) (by omega) (by omega) rfl).2.1, rfl, fun c hc _ => ?_⟩
    obtain ⟨j, j0, j1, e⟩ := Rep_ex hr hc
    subst e
    by_cases q2 : j = r
    · rw [q2]; exact Int.le_refl _
    · exact Int.le_of_lt (ht j r j0 (by omega) (by omega))
  · rw [q.2 (Or.inl (by omega))]
    exact grt_no (fun c hc => by
      obtain ⟨j, j0, j1, e⟩ := Rep_ex hr hc
      omega)
def tnP (g : Int → Int) (x i : Int) : Prop := ∀ j : Int, 0 ≤ j → j < i → g j ≠ x
theorem tnP_0 {g : Int → Int} {x : Int} : tnP g x 0 := fun j h0 h1 => by omega
theorem tnP_s {f g F : Int → Int} {s x i y : Int} (h : tnP g x i) (hr : Rep f g s F) (ht : Srt f s) (h0 : 0 ≤ i) (h1 : i < s) (hk : rkC F i y) (hy : F y ≠ x) : tnP g x (i + 1) := fun j j0 j1 => by
  by_cases q : j = i
  · rw [q]
    have := (rkC_s hk hr ht).1 h0 h1
    rw [this, (Rep_at hr h0 h1).2.2] at hy
    exact hy
  · exact h j j0 (by omega)
def clP (σ τ : St) (k n : Int) : Prop := (zF (τ.1 k) = n ∧ τ = σ) ∨ (zF (τ.1 k) < n ∧ ∃ G, τ = stM σ k G)
theorem cl_0 {σ : St} {k n : Int} (h : zF (σ.1 k) = n) : clP σ σ k n := Or.inl ⟨h, rfl⟩
theorem cl_s {σ τ : St} {k n z : Int} {F : Int → Int} (h : clP σ τ k n) (hz : zF (τ.1 k) = z) (hF : zF F = z - 1) : clP σ (stM τ k F) k n := by
  rcases h with ⟨h1, rfl⟩ | ⟨h1, G, rfl⟩
  · refine Or.inr ⟨?_, F, rfl⟩
    rw [stM_1]; omega
  · refine Or.inr ⟨?_, F, stM_M⟩
    rw [stM_1]; omega
theorem cl_e {σ τ : St} {k n : Int} {f g : Int → Int} {s : Int} (h : clP σ τ k n) (hr : Rep f g s (τ.1 k)) (hs : s = 0) : sWipe σ k (fun _ => -1) n = (n, τ) := by
  have hz := zF_eq hr
  unfold sWipe
  rcases h with ⟨h1, rfl⟩ | ⟨h1, G, rfl⟩
  · rw [if_pos (by omega)]
    rw [show n = 0 by omega]
  · rw [if_neg (by omega)]
    rw [stM_1] at hr
    have : G = fun _ => -1 := funext fun c => Rep_no hr (fun j h0 h1 => by omega)
    rw [this]
def pcP (σ τ : St) (k : Int) (P : Int → Bool) (i : Int) : Prop := nF (τ.1 k) P = nF (σ.1 k) P - i ∧ (∀ c, P c = false → τ.1 k c = σ.1 k c) ∧ ((i = 0 ∧ τ = σ) ∨ (0 < i ∧ ∃ G, τ = stM σ k G))
theorem pc_0 {σ : St} {k : Int} {P : Int → Bool} : pcP σ σ k P 0 := ⟨by omega, fun _ _ => rfl, Or.inl ⟨rfl, rfl⟩⟩
theorem pc_s {σ τ : St} {k i y : Int} {P : Int → Bool} {f g : Int → Int} {s : Int} (h : pcP σ τ k P i) (hr : Rep f g s (τ.1 k)) (h0 : 0 ≤ i) (hy : τ.1 k y ≠ -1) (hp : P y = true) : pcP σ (stM τ k (up (τ.1 k) y (-1))) k P (i + 1) := by
  obtain ⟨h1, h2, h3⟩ := h
  refine ⟨?_, fun c hc => ?_, Or.inr ⟨by omega, ?_⟩⟩
  · rw [stM_1, nF_del hr hy, if_pos hp]; omega
  · rw [stM_1]
    have : c ≠ y := fun e => by rw [e, hp] at hc; cases hc
    rw [up_n this]; exact h2 c hc
  · rcases h3 with ⟨-, e⟩ | ⟨-, G, e⟩
    · subst e; exact ⟨_, rfl⟩
    · refine ⟨up (τ.1 k) y (-1), ?_⟩
      generalize up (τ.1 k) y (-1) = F9
      rw [e]; exact stM_M
theorem pc_e {σ τ : St} {k i : Int} {P : Int → Bool} {f g : Int → Int} {s : Int} (h : pcP σ τ k P i) (hr : Rep f g s (τ.1 k)) (hi : i = nF (σ.1 k) P) : sWipe σ k (fun c => if P c = true then -1 else σ.1 k c) i = (i, τ) := by
  obtain ⟨h1, h2, h3⟩ := h
  unfold sWipe
  rcases h3 with ⟨h4, h5⟩ | ⟨h4, G, h5⟩
  · rw [if_pos h4, h4, h5]
  · rw [if_neg (by omega)]
    have hz := nF_z hr (by omega : nF (τ.1 k) P = 0)
    subst h5
    rw [stM_1] at hz h2
    have : G = fun c => if P c = true then -1 else σ.1 k c := funext fun c => by
      cases e : P c with
      | true =>
        rw [if_pos rfl]
        exact Classical.byContradiction fun q => by have := hz c q; rw [e] at this; cases this
      | false => rw [if_neg (by decide)]; exact h2 c e
    rw [this]

set_option maxHeartbeats 4000000 in
set_option maxRecDepth 100000 in
/-- EarlyendsModel.draw -/
theorem n_X8_draw (l : Launch) (hl : l.stackTraces = false) {kc km : Int} {h : dm_H} (hI : Inv kc km h) {th : Int} {σ : St} (hM : MSt km th σ h) {a1 : Int} (h1a : -2147483648 ≤ a1) (h1b : a1 ≤ 2147483647) {a2 : Int} (h2a : 0 ≤ a2) (h2b : a2 ≤ 1) (hT : sSt σ) : dm_M l 151 8 0 0 [.ref 26, dI (a1), dI (a2)] h (QM9 kc km h (spDraw σ a1 a2)) := by
  obtain ⟨⟨ni, c26, ni0, ni1⟩, ⟨⟨R1, R2⟩, ⟨R3, R4⟩, ⟨R5, R6⟩, ⟨R7, R8⟩, ⟨R9, R10⟩, ⟨R11, R12⟩, R13⟩, ⟨th0, th1⟩, -⟩ := id hM
  have R14 : σ.2.2.2.2.2.1 = -1 ∨ (0 ≤ σ.2.2.2.2.2.1 ∧ σ.2.2.2.2.2.1 ≤ 9999 ∧ σ.2.2.2.2.2.1 % 100 ≤ σ.2.2.2.2.2.1 / 100) := R13
  refine dm_M_of dk_151 hl rfl (Nat.le_of_ble_eq_true rfl) ?_
  show dm_W (fun _ _ _ => True) (dm_P (QM9 kc km h (spDraw σ a1 a2)) 0 0) l 151 8 0 0 0 [some (.ref 26), some (dI (a1)), some (dI (a2)), none] [] h 0 0
  refine di_aload_n rfl rfl ?_
  refine dr_iload_n rfl rfl ?_
  refine dr_stat rfl rfl rfl rfl (f_X8_isNoBook l hl hI (a0 := a1) (by omega) (by omega)) (by decide) (by decide) (by decide) (Nat.le_of_ble_eq_true rfl) kNP (kIP (fun y1 y1f y1a y1b => ?_))
  have y1g : 0 ≤ y1 ∧ y1 ≤ 1 ∧ (y1 = 0 → 0 ≤ a1 ∧ a1 ≤ 2) ∧ (y1 = 1 → a1 < 0 ∨ 2 < a1) := y1f
  clear y1f
  refine di_const rfl ?_
  rcases (by omega : y1 = 0 ∨ y1 = 1) with ey2 | ey2
  · skip
    rw [ey2]
    refine dr_virt rfl rfl rfl rfl c26 (f_X8_start0 l hl hI hM (a2 := 1) (by omega) (by omega)) (by decide) (by decide) (by decide) (Nat.le_of_ble_eq_true rfl) kNQN (kNQ (fun h3 hI4 hF5 hM6 => ?_))
    have hF7 := FrM_tr FrM_rf hF5
    refine di_if_eq rfl rfl (by omega) (by omega) (fun _ => ?_) (fun c9 => by exfalso; omega)
    obtain ⟨r8, q10, u11, w12, us13, er14, eq15, hu16, hw17, au18, aw19, hs20, as21, hr22, sa23, sb24⟩ := MSt_bk hM6 (k := a1) (by omega) (by omega)
    have hz25 : zF (σ.1 a1) = cv us13 a1 := zF_eq hr22
    have mr26 : isCR r8 := isCR_of er14 (by omega) (by omega)
    have mq27 : isNR q10 := isNR_of eq15 (by omega) (by omega)
    refine di_aload_n rfl rfl ?_
    refine dr_iload_n rfl rfl ?_
    refine dr_iload_n rfl rfl ?_
    refine di_if_eq rfl rfl (by omega) (by omega) (fun c28 => ?_) (fun c28 => ?_)
    · skip
      refine di_const rfl ?_
      obtain ⟨⟨ni29, ni29c, ni29a, ni29b⟩, -⟩ := id hM6
      refine dr_virt rfl rfl rfl rfl ni29c (n_X8_codeAt l hl hI4 hM6 (a1 := a1) (by omega) (by omega) (a2 := 0) (by omega) (by omega) er14 eq15 hu16 hw17 au18 aw19 hs20 as21 hr22 sa23 sb24) (by decide) (by decide) (by decide) (Nat.le_of_ble_eq_true rfl) kNP (kIP (fun y30 y30f y30a y30b => ?_))
      obtain ⟨y30c, y30d, y30k⟩ := y30f
      obtain ⟨fs9, gs9, ss9, hrs9, hts9⟩ := hT a1 (by omega) (by omega)
      have hzs9 : zF (σ.1 a1) = ss9 := zF_eq hrs9
      have hin9 := yIn_rk hrs9 y30k
      have hl9 : lst (σ.1 a1) (fun _ => true) = y30 := dr_l y30k hrs9 hts9
      refine di_istore_n (ls2 := [some (.ref 26), some (dI (a1)), some (dI (a2)), some (dI (y30))]) rfl rfl rfl ?_
      refine di_aload_n rfl rfl ?_
      refine dr_iload_n rfl rfl ?_
      refine dr_iload_n rfl rfl ?_
      have pb31 := sTake_b (c := y30) hr22
      refine dr_virt rfl rfl rfl rfl ni29c (n_X8_takeIn l hl hI4 hM6 (a1 := a1) (by omega) (by omega) (a2 := y30) (by omega) (by omega) er14 eq15 hu16 hw17 au18 aw19 hs20 as21 hr22 sa23 sb24) (by decide) (by decide) (by decide) (Nat.le_of_ble_eq_true rfl) kNQN (kNQ (fun h32 hI33 hF34 hM35 => ?_))
      have hF36 := FrM_tr hF7 hF34
      refine dr_pop rfl rfl ?_
      refine dr_iload_n rfl rfl ?_
      exact dr_iret (ty := .int) rfl rfl rfl (by decide) (by decide) (QM_ok hI33 hF36 hM35 (by omega) (by omega) (by unfold spDraw s0; rw [if_neg (by omega), sDraw_e (y := y30) (fun q => by omega) (fun _ => hl9) hin9]))
    · skip
      refine di_aload_n rfl rfl ?_
      obtain ⟨⟨ni37, ni37c, ni37a, ni37b⟩, -⟩ := id hM6
      refine dr_getf rfl ni37c rfl ?_
      refine dr_iload_n rfl rfl ?_
      refine di_iald rfl hs20 as21 (by omega) (by omega) (fun x38 x38f x38a x38b x38v => ?_)
      have x38w : cv us13 a1 = x38 := cv_eq x38v x38a x38b
      have x38g : 0 ≤ x38 ∧ x38 ≤ 8 := x38f
      refine di_const rfl ?_
      refine di_isub rfl ?_
      refine dr_goto rfl rfl ?_
      refine dr_virt rfl rfl rfl rfl ni37c (n_X8_codeAt l hl hI4 hM6 (a1 := a1) (by omega) (by omega) (a2 := (x38 - 1)) (by omega) (by omega) er14 eq15 hu16 hw17 au18 aw19 hs20 as21 hr22 sa23 sb24) (by decide) (by decide) (by decide) (Nat.le_of_ble_eq_true rfl) kNP (kIP (fun y39 y39f y39a y39b => ?_))
      obtain ⟨y39c, y39d, y39k⟩ := y39f
      obtain ⟨fs9, gs9, ss9, hrs9, hts9⟩ := hT a1 (by omega) (by omega)
      have hzs9 : zF (σ.1 a1) = ss9 := zF_eq hrs9
      have hin9 := yIn_rk hrs9 y39k
      have hg9 : grt (σ.1 a1) (fun _ => true) = y39 := dr_g y39k hrs9 hts9 (by omega)
      refine di_istore_n (ls2 := [some (.ref 26), some (dI (a1)), some (dI (a2)), some (dI (y39))]) rfl rfl rfl ?_
      refine di_aload_n rfl rfl ?_
      refine dr_iload_n rfl rfl ?_
      refine dr_iload_n rfl rfl ?_
      have pb40 := sTake_b (c := y39) hr22
      refine dr_virt rfl rfl rfl rfl ni37c (n_X8_takeIn l hl hI4 hM6 (a1 := a1) (by omega) (by omega) (a2 := y39) (by omega) (by omega) er14 eq15 hu16 hw17 au18 aw19 hs20 as21 hr22 sa23 sb24) (by decide) (by decide) (by decide) (Nat.le_of_ble_eq_true rfl) kNQN (kNQ (fun h41 hI42 hF43 hM44 => ?_))
      have hF45 := FrM_tr hF7 hF43
      refine dr_pop rfl rfl ?_
      refine dr_iload_n rfl rfl ?_
      exact dr_iret (ty := .int) rfl rfl rfl (by decide) (by decide) (QM_ok hI42 hF45 hM44 (by omega) (by omega) (by unfold spDraw s0; rw [if_neg (by omega), sDraw_e (y := y39) (fun _ => hg9) (fun q => absurd (by omega) q) hin9]))
  · skip
    rw [ey2]
    refine dr_virt rfl rfl rfl rfl c26 (f_X8_start1 l hl hI hM (a2 := 1) (by omega) (by omega)) (by decide) (by decide) (by decide) (Nat.le_of_ble_eq_true rfl) kNQN (kNQ (fun h46 hI47 hF48 hM49 => ?_))
    have hF50 := FrM_tr FrM_rf hF48
    refine di_if_eq rfl rfl (by omega) (by omega) (fun c9 => by exfalso; omega) (fun _ => ?_)
    refine di_const rfl ?_
    exact dr_iret (ty := .int) rfl rfl rfl (by decide) (by decide) (QM_no (x := 0) hI47 hF50 hM49 (by omega) (by omega) (by omega) (by unfold spDraw; (repeat' split) <;> first | rfl | (exfalso; omega) | (apply Prod.ext <;> first | rfl | (dsimp only; omega) | (apply Prod.ext <;> first | rfl | (dsimp only; omega)))))
set_option maxHeartbeats 4000000 in
set_option maxRecDepth 100000 in
/-- EarlyendsModel.partDraw -/
theorem n_X8_partDraw (l : Launch) (hl : l.stackTraces = false) {kc km : Int} {h : dm_H} (hI : Inv kc km h) {th : Int} {σ : St} (hM : MSt km th σ h) {a1 : Int} (h1a : 0 ≤ a1) (h1b : a1 ≤ 1) : dm_M l 163 8 0 0 [.ref 26, dI (a1)] h (QM9 kc km h (spPartDraw σ a1)) := by
  obtain ⟨⟨ni, c26, ni0, ni1⟩, ⟨⟨R1, R2⟩, ⟨R3, R4⟩, ⟨R5, R6⟩, ⟨R7, R8⟩, ⟨R9, R10⟩, ⟨R11, R12⟩, R13⟩, ⟨th0, th1⟩, -⟩ := id hM
  have R14 : σ.2.2.2.2.2.1 = -1 ∨ (0 ≤ σ.2.2.2.2.2.1 ∧ σ.2.2.2.2.2.1 ≤ 9999 ∧ σ.2.2.2.2.2.1 % 100 ≤ σ.2.2.2.2.2.1 / 100) := R13
  refine dm_M_of dk_163 hl rfl (Nat.le_of_ble_eq_true rfl) ?_
  show dm_W (fun _ _ _ => True) (dm_P (QM9 kc km h (spPartDraw σ a1)) 0 0) l 163 8 0 0 0 [some (.ref 26), some (dI (a1)), none] [] h 0 0
  refine di_aload_n rfl rfl ?_
  refine di_aload_n rfl rfl ?_
  refine dr_getf rfl c26 rfl ?_
  refine di_const rfl ?_
  refine di_icmp_ne rfl rfl (by omega) (by omega) (by omega) (by omega) (fun c1 => ?_) (fun c1 => ?_)
  · skip
    refine di_const rfl ?_
    refine di_const rfl ?_
    refine dr_virt rfl rfl rfl rfl c26 (f_X8_start0 l hl hI hM (a2 := 1) (by omega) (by omega)) (by decide) (by decide) (by decide) (Nat.le_of_ble_eq_true rfl) kNQN (kNQ (fun h2 hI3 hF4 hM5 => ?_))
    have hF6 := FrM_tr FrM_rf hF4
    refine di_if_eq rfl rfl (by omega) (by omega) (fun _ => ?_) (fun c9 => by exfalso; omega)
    refine di_aload_n rfl rfl ?_
    refine dr_iload_n rfl rfl ?_
    obtain ⟨⟨ni7, ni7c, ni7a, ni7b⟩, -⟩ := id hM5
    refine dr_virt rfl rfl rfl rfl ni7c (n_X8_partEnd l hl hI3 hM5 (a1 := a1) (by omega) (by omega) (show (0 : Int) ≤ σ.2.1.1 by omega)) (by decide) (by decide) (by decide) (Nat.le_of_ble_eq_true rfl) kNP (kIP (fun y8 y8f y8a y8b => ?_))
    obtain ⟨y8c, y8d, y8k⟩ := y8f
    obtain ⟨y8o, y8k⟩ := y8k
    obtain ⟨r10, q11, u12, w13, us14, er15, eq16, hu17, hw18, au19, aw20, hs21, as22, hr23, sa24, sb25⟩ := MSt_bk hM5 (k := σ.2.1.1) (by omega) (by omega)
    have hz26 : zF (σ.1 σ.2.1.1) = cv us14 σ.2.1.1 := zF_eq hr23
    have mr27 : isCR r10 := isCR_of er15 (by omega) (by omega)
    have mq28 : isNR q11 := isNR_of eq16 (by omega) (by omega)
    have hin9 := yIn_pe hr23 y8k
    refine di_istore_n (ls2 := [some (.ref 26), some (dI (a1)), some (dI (y8))]) rfl rfl rfl ?_
    refine di_aload_n rfl rfl ?_
    refine di_aload_n rfl rfl ?_
    refine dr_getf rfl ni7c rfl ?_
    refine dr_iload_n rfl rfl ?_
    have pb29 := sTake_b (c := y8) hr23
    refine dr_virt rfl rfl rfl rfl ni7c (n_X8_takeIn l hl hI3 hM5 (a1 := σ.2.1.1) (by omega) (by omega) (a2 := y8) (by omega) (by omega) er15 eq16 hu17 hw18 au19 aw20 hs21 as22 hr23 sa24 sb25) (by decide) (by decide) (by decide) (Nat.le_of_ble_eq_true rfl) kNQN (kNQ (fun h30 hI31 hF32 hM33 => ?_))
    have hF34 := FrM_tr hF6 hF32
    refine dr_pop rfl rfl ?_
    refine dr_iload_n rfl rfl ?_
    exact dr_iret (ty := .int) rfl rfl rfl (by decide) (by decide) (QM_ok hI31 hF34 hM33 (by omega) (by omega) (by unfold spPartDraw s0; rw [if_neg (by omega), sDraw_e (y := y8) (fun q => (y8k.1 q).symm) (fun q => (y8k.2 q).symm) hin9]))
  · skip
    refine di_const rfl ?_
    refine dr_goto rfl rfl ?_
    refine di_const rfl ?_
    refine dr_virt rfl rfl rfl rfl c26 (f_X8_start1 l hl hI hM (a2 := 1) (by omega) (by omega)) (by decide) (by decide) (by decide) (Nat.le_of_ble_eq_true rfl) kNQN (kNQ (fun h35 hI36 hF37 hM38 => ?_))
    have hF39 := FrM_tr FrM_rf hF37
    refine di_if_eq rfl rfl (by omega) (by omega) (fun c9 => by exfalso; omega) (fun _ => ?_)
    refine di_const rfl ?_
    exact dr_iret (ty := .int) rfl rfl rfl (by decide) (by decide) (QM_no (x := 0) hI36 hF39 hM38 (by omega) (by omega) (by omega) (by unfold spPartDraw; (repeat' split) <;> first | rfl | (exfalso; omega) | (apply Prod.ext <;> first | rfl | (dsimp only; omega) | (apply Prod.ext <;> first | rfl | (dsimp only; omega)))))
set_option maxHeartbeats 4000000 in
set_option maxRecDepth 100000 in
/-- EarlyendsModel.takeNote -/
theorem n_X8_takeNote (l : Launch) (hl : l.stackTraces = false) {kc km : Int} {h : dm_H} (hI : Inv kc km h) {th : Int} {σ : St} (hM : MSt km th σ h) {a1 : Int} (h1a : -2147483648 ≤ a1) (h1b : a1 ≤ 2147483647) {a2 : Int} (h2a : -2147483648 ≤ a2) (h2b : a2 ≤ 2147483647) (hT : sSt σ) : dm_M l 150 8 0 0 [.ref 26, dI (a1), dI (a2)] h (QM9 kc km h (spTakeNote σ a1 a2)) := by
  obtain ⟨⟨ni, c26, ni0, ni1⟩, ⟨⟨R1, R2⟩, ⟨R3, R4⟩, ⟨R5, R6⟩, ⟨R7, R8⟩, ⟨R9, R10⟩, ⟨R11, R12⟩, R13⟩, ⟨th0, th1⟩, -⟩ := id hM
  have R14 : σ.2.2.2.2.2.1 = -1 ∨ (0 ≤ σ.2.2.2.2.2.1 ∧ σ.2.2.2.2.2.1 ≤ 9999 ∧ σ.2.2.2.2.2.1 % 100 ≤ σ.2.2.2.2.2.1 / 100) := R13
  refine dm_M_of dk_150 hl rfl (Nat.le_of_ble_eq_true rfl) ?_
  show dm_W (fun _ _ _ => True) (dm_P (QM9 kc km h (spTakeNote σ a1 a2)) 0 0) l 150 8 0 0 0 [some (.ref 26), some (dI (a1)), some (dI (a2)), none, none] [] h 0 0
  refine di_aload_n rfl rfl ?_
  refine dr_iload_n rfl rfl ?_
  refine dr_stat rfl rfl rfl rfl (f_X8_isNoBook l hl hI (a0 := a1) (by omega) (by omega)) (by decide) (by decide) (by decide) (Nat.le_of_ble_eq_true rfl) kNP (kIP (fun y1 y1f y1a y1b => ?_))
  have y1g : 0 ≤ y1 ∧ y1 ≤ 1 ∧ (y1 = 0 → 0 ≤ a1 ∧ a1 ≤ 2) ∧ (y1 = 1 → a1 < 0 ∨ 2 < a1) := y1f
  clear y1f
  refine di_const rfl ?_
  rcases (by omega : y1 = 0 ∨ y1 = 1) with ey2 | ey2
  · skip
    rw [ey2]
    refine dr_virt rfl rfl rfl rfl c26 (f_X8_start0 l hl hI hM (a2 := 1) (by omega) (by omega)) (by decide) (by decide) (by decide) (Nat.le_of_ble_eq_true rfl) kNQN (kNQ (fun h3 hI4 hF5 hM6 => ?_))
    have hF7 := FrM_tr FrM_rf hF5
    refine di_if_ne rfl rfl (by omega) (by omega) (fun c9 => by exfalso; omega) (fun _ => ?_)
    refine di_aload_n rfl rfl ?_
    refine dr_iload_n rfl rfl ?_
    refine dr_stat rfl rfl rfl rfl (f_X8_isNo99 l hl hI4 (a0 := a2) (by omega) (by omega)) (by decide) (by decide) (by decide) (Nat.le_of_ble_eq_true rfl) kNP (kIP (fun y8 y8f y8a y8b => ?_))
    have y8g : 0 ≤ y8 ∧ y8 ≤ 1 ∧ (y8 = 0 → 0 ≤ a2 ∧ a2 ≤ 99) ∧ (y8 = 1 → a2 < 0 ∨ 99 < a2) := y8f
    clear y8f
    refine di_const rfl ?_
    obtain ⟨⟨ni10, ni10c, ni10a, ni10b⟩, -⟩ := id hM6
    rcases (by omega : y8 = 0 ∨ y8 = 1) with ey11 | ey11
    · skip
      rw [ey11]
      refine dr_virt rfl rfl rfl rfl ni10c (f_X8_refuse0 l hl hI4 hM6 (a2 := 2) (by omega) (by omega)) (by decide) (by decide) (by decide) (Nat.le_of_ble_eq_true rfl) kNQN (kNQ (fun h12 hI13 hF14 hM15 => ?_))
      have hF16 := FrM_tr hF7 hF14
      refine di_if_eq rfl rfl (by omega) (by omega) (fun _ => ?_) (fun c9 => by exfalso; omega)
      obtain ⟨r17, q18, u19, w20, us21, er22, eq23, hu24, hw25, au26, aw27, hs28, as29, hr30, sa31, sb32⟩ := MSt_bk hM15 (k := a1) (by omega) (by omega)
      have hz33 : zF (σ.1 a1) = cv us21 a1 := zF_eq hr30
      have mr34 : isCR r17 := isCR_of er22 (by omega) (by omega)
      have mq35 : isNR q18 := isNR_of eq23 (by omega) (by omega)
      obtain ⟨fs9, gs9, ss9, hrs9, hts9⟩ := hT a1 (by omega) (by omega)
      have hzs9 : zF (σ.1 a1) = ss9 := zF_eq hrs9
      refine di_const rfl ?_
      refine di_istore_n (ls2 := [some (.ref 26), some (dI (a1)), some (dI (a2)), some (dI (0)), none]) rfl rfl rfl ?_
      have L37 : ∀ (n : Nat) (i36 : Int), (8 - i36).toNat < n → 0 ≤ i36 → i36 ≤ 8 → i36 ≤ ss9 → tnP gs9 a2 i36 → dm_W (fun _ _ _ => True) (dm_P (QM9 kc km h (spTakeNote σ a1 a2)) 0 0) l 150 8 0 0 28 [some (.ref 26), some (dI (a1)), some (dI (a2)), some (dI (i36)), none] [] h12 0 0 := by
        intro n
        induction n with
        | zero => intro i36 hm; exact absurd hm (Nat.not_lt_zero _)
        | succ n ih =>
          intro i36 hm41 hb38 hb39 hx40 PT
          have ihL37 := ih
          clear ih
          refine dr_iload_n rfl rfl ?_
          refine di_aload_n rfl rfl ?_
          obtain ⟨⟨ni42, ni42c, ni42a, ni42b⟩, -⟩ := id hM15
          refine dr_getf rfl ni42c rfl ?_
          refine dr_iload_n rfl rfl ?_
          refine di_iald rfl hs28 as29 (by omega) (by omega) (fun x43 x43f x43a x43b x43v => ?_)
          have x43w : cv us21 a1 = x43 := cv_eq x43v x43a x43b
          have x43g : 0 ≤ x43 ∧ x43 ≤ 8 := x43f
          refine di_icmp_ge rfl rfl (by omega) (by omega) (by omega) (by omega) (fun c44 => ?_) (fun c44 => ?_)
          · skip
            refine di_const rfl ?_
            exact dr_iret (ty := .int) rfl rfl rfl (by decide) (by decide) (QM_ok hI13 hF16 hM15 (by omega) (by omega) (by unfold spTakeNote; rw [if_neg (by omega), if_neg (by omega), tn_no hrs9 (fun j h0 h1 => PT j h0 (by omega)), if_pos rfl]))
          · skip
            refine di_aload_n rfl rfl ?_
            refine dr_iload_n rfl rfl ?_
            refine dr_iload_n rfl rfl ?_
            refine dr_virt rfl rfl rfl rfl ni42c (n_X8_codeAt l hl hI13 hM15 (a1 := a1) (by omega) (by omega) (a2 := i36) (by omega) (by omega) er22 eq23 hu24 hw25 au26 aw27 hs28 as29 hr30 sa31 sb32) (by decide) (by decide) (by decide) (Nat.le_of_ble_eq_true rfl) kNP (kIP (fun y45 y45f y45a y45b => ?_))
            obtain ⟨y45c, y45d, y45k⟩ := y45f
            refine di_istore (ls2 := [some (.ref 26), some (dI (a1)), some (dI (a2)), some (dI (i36)), some (dI (y45))]) rfl rfl rfl ?_
            refine di_aload_n rfl rfl ?_
            refine dr_iload_n rfl rfl ?_
            refine dr_iload rfl rfl ?_
            refine dr_virt rfl rfl rfl rfl ni42c (n_X8_noteAt l hl hI13 hM15 (a1 := a1) (by omega) (by omega) (a2 := y45) (by omega) (by omega) er22 eq23 hu24 hw25 au26 aw27 hs28 as29 hr30 sa31 sb32) (by decide) (by decide) (by decide) (Nat.le_of_ble_eq_true rfl) kNP (kIP (fun y46 y46f y46a y46b => ?_))
            obtain ⟨y46c, y46d, y46n⟩ := y46f
            subst y46n
            refine dr_iload_n rfl rfl ?_
            refine di_icmp_eq rfl rfl (by omega) (by omega) (by omega) (by omega) (fun c47 => ?_) (fun c47 => ?_)
            · skip
              have ye9 : y45 = fs9 i36 := (rkC_s y45k hrs9 hts9).1 (by omega) (by omega)
              have gy9 : gs9 i36 = a2 := by have q9 := (Rep_yes hrs9 (j := i36) (by omega) (by omega) ye9.symm).1; omega
              have hl9 : lst (σ.1 a1) (fun c => decide (σ.1 a1 c = a2)) = y45 := (tn_yes hrs9 hts9 (by omega) (by omega) gy9 PT).trans ye9.symm
              have hy9 : σ.1 a1 y45 ≠ -1 := by omega
              have yq9 : y45 ≠ -1 := by have q9 := (Rep_at hrs9 (j := i36) (by omega) (by omega)).1; omega
              refine di_aload_n rfl rfl ?_
              refine dr_iload_n rfl rfl ?_
              refine dr_iload rfl rfl ?_
              have pb48 := sTake_b (c := y45) hr30
              refine dr_virt rfl rfl rfl rfl ni42c (n_X8_takeIn l hl hI13 hM15 (a1 := a1) (by omega) (by omega) (a2 := y45) (by omega) (by omega) er22 eq23 hu24 hw25 au26 aw27 hs28 as29 hr30 sa31 sb32) (by decide) (by decide) (by decide) (Nat.le_of_ble_eq_true rfl) kNQN (kNQ (fun h49 hI50 hF51 hM52 => ?_))
              have hF53 := FrM_tr hF16 hF51
              refine dr_pop rfl rfl ?_
              refine di_const rfl ?_
              exact dr_iret (ty := .int) rfl rfl rfl (by decide) (by decide) (QM_ok hI50 hF53 hM52 (by omega) (by omega) (by unfold spTakeNote; rw [if_neg (by omega), if_neg (by omega), hl9, if_neg (by omega), sTake_y hy9]))
            · skip
              refine dr_goto rfl rfl ?_
              refine di_iinc (ls2 := [some (.ref 26), some (dI (a1)), some (dI (a2)), some (dI ((i36 + 1))), some (dI (y45))]) rfl rfl rfl rfl ?_
              refine dr_goto rfl rfl ?_
              refine dm_wk (ls2 := [some (.ref 26), some (dI (a1)), some (dI (a2)), some (dI ((i36 + 1))), none]) ⟨Or.inr rfl, Or.inr rfl, Or.inr rfl, Or.inr rfl, Or.inl rfl, trivial⟩ ?_
              exact ihL37 ((i36 + 1)) (by omega) (by omega) (by omega) (by omega)  (tnP_s PT hrs9 hts9 (by omega) (by omega) y45k (by omega))
      exact L37 _ (0) (Nat.lt_succ_self _) (by omega) (by omega) (by omega)  tnP_0
    · skip
      rw [ey11]
      refine dr_virt rfl rfl rfl rfl ni10c (f_X8_refuse1 l hl hI4 hM6 (a2 := 2) (by omega) (by omega)) (by decide) (by decide) (by decide) (Nat.le_of_ble_eq_true rfl) kNQN (kNQ (fun h54 hI55 hF56 hM57 => ?_))
      have hF58 := FrM_tr hF7 hF56
      refine di_if_eq rfl rfl (by omega) (by omega) (fun c9 => by exfalso; omega) (fun _ => ?_)
      refine di_const rfl ?_
      exact dr_iret (ty := .int) rfl rfl rfl (by decide) (by decide) (QM_no (x := 0) hI55 hF58 hM57 (by omega) (by omega) (by omega) (by unfold spTakeNote; (repeat' split) <;> first | rfl | (exfalso; omega) | (apply Prod.ext <;> first | rfl | (dsimp only; omega) | (apply Prod.ext <;> first | rfl | (dsimp only; omega)))))
  · skip
    rw [ey2]
    refine dr_virt rfl rfl rfl rfl c26 (f_X8_start1 l hl hI hM (a2 := 1) (by omega) (by omega)) (by decide) (by decide) (by decide) (Nat.le_of_ble_eq_true rfl) kNQN (kNQ (fun h59 hI60 hF61 hM62 => ?_))
    have hF63 := FrM_tr FrM_rf hF61
    refine di_if_ne rfl rfl (by omega) (by omega) (fun _ => ?_) (fun c9 => by exfalso; omega)
    refine di_const rfl ?_
    exact dr_iret (ty := .int) rfl rfl rfl (by decide) (by decide) (QM_no (x := 0) hI60 hF63 hM62 (by omega) (by omega) (by omega) (by unfold spTakeNote; (repeat' split) <;> first | rfl | (exfalso; omega) | (apply Prod.ext <;> first | rfl | (dsimp only; omega) | (apply Prod.ext <;> first | rfl | (dsimp only; omega)))))
set_option maxHeartbeats 4000000 in
set_option maxRecDepth 100000 in
/-- EarlyendsModel.clear -/
theorem n_X8_clear (l : Launch) (hl : l.stackTraces = false) {kc km : Int} {h : dm_H} (hI : Inv kc km h) {th : Int} {σ : St} (hM : MSt km th σ h) {a1 : Int} (h1a : -2147483648 ≤ a1) (h1b : a1 ≤ 2147483647) : dm_M l 152 8 0 0 [.ref 26, dI (a1)] h (QM9 kc km h (spClear σ a1)) := by
  obtain ⟨⟨ni, c26, ni0, ni1⟩, ⟨⟨R1, R2⟩, ⟨R3, R4⟩, ⟨R5, R6⟩, ⟨R7, R8⟩, ⟨R9, R10⟩, ⟨R11, R12⟩, R13⟩, ⟨th0, th1⟩, -⟩ := id hM
  have R14 : σ.2.2.2.2.2.1 = -1 ∨ (0 ≤ σ.2.2.2.2.2.1 ∧ σ.2.2.2.2.2.1 ≤ 9999 ∧ σ.2.2.2.2.2.1 % 100 ≤ σ.2.2.2.2.2.1 / 100) := R13
  refine dm_M_of dk_152 hl rfl (Nat.le_of_ble_eq_true rfl) ?_
  show dm_W (fun _ _ _ => True) (dm_P (QM9 kc km h (spClear σ a1)) 0 0) l 152 8 0 0 0 [some (.ref 26), some (dI (a1)), none] [] h 0 0
  refine di_aload_n rfl rfl ?_
  refine dr_iload_n rfl rfl ?_
  refine dr_stat rfl rfl rfl rfl (f_X8_isNoBook l hl hI (a0 := a1) (by omega) (by omega)) (by decide) (by decide) (by decide) (Nat.le_of_ble_eq_true rfl) kNP (kIP (fun y1 y1f y1a y1b => ?_))
  have y1g : 0 ≤ y1 ∧ y1 ≤ 1 ∧ (y1 = 0 → 0 ≤ a1 ∧ a1 ≤ 2) ∧ (y1 = 1 → a1 < 0 ∨ 2 < a1) := y1f
  clear y1f
  refine di_const rfl ?_
  rcases (by omega : y1 = 0 ∨ y1 = 1) with ey2 | ey2
  · skip
    rw [ey2]
    refine dr_virt rfl rfl rfl rfl c26 (f_X8_start0 l hl hI hM (a2 := 1) (by omega) (by omega)) (by decide) (by decide) (by decide) (Nat.le_of_ble_eq_true rfl) kNQN (kNQ (fun h3 hI4 hF5 hM6 => ?_))
    have hF7 := FrM_tr FrM_rf hF5
    refine di_if_eq rfl rfl (by omega) (by omega) (fun _ => ?_) (fun c9 => by exfalso; omega)
    obtain ⟨r8, q10, u11, w12, us13, er14, eq15, hu16, hw17, au18, aw19, hs20, as21, hr22, sa23, sb24⟩ := MSt_bk hM6 (k := a1) (by omega) (by omega)
    have hz25 : zF (σ.1 a1) = cv us13 a1 := zF_eq hr22
    have mr26 : isCR r8 := isCR_of er14 (by omega) (by omega)
    have mq27 : isNR q10 := isNR_of eq15 (by omega) (by omega)
    refine di_aload_n rfl rfl ?_
    obtain ⟨⟨ni28, ni28c, ni28a, ni28b⟩, -⟩ := id hM6
    refine dr_getf rfl ni28c rfl ?_
    refine dr_iload_n rfl rfl ?_
    refine di_iald rfl hs20 as21 (by omega) (by omega) (fun x29 x29f x29a x29b x29v => ?_)
    have x29w : cv us13 a1 = x29 := cv_eq x29v x29a x29b
    have x29g : 0 ≤ x29 ∧ x29 ≤ 8 := x29f
    refine di_istore_n (ls2 := [some (.ref 26), some (dI (a1)), some (dI (x29))]) rfl rfl rfl ?_
    have L35 : ∀ (n : Nat) (h30 : dm_H) (τ31 : St), (zF (τ31.1 a1)).toNat < n → Inv kc km h30 → FrM h h30 → MSt km 0 τ31 h30 → clP σ τ31 a1 x29 → dm_W (fun _ _ _ => True) (dm_P (QM9 kc km h (spClear σ a1)) 0 0) l 152 8 0 0 21 [some (.ref 26), some (dI (a1)), some (dI (x29))] [] h30 0 0 := by
      intro n
      induction n with
      | zero => intro h30 τ31 hm; exact absurd hm (Nat.not_lt_zero _)
      | succ n ih =>
        intro h30 τ31 hm36 hI32 hF33 hM34 PL
        have ihL35 := ih
        clear ih
        obtain ⟨r37, q38, u39, w40, us41, er42, eq43, hu44, hw45, au46, aw47, hs48, as49, hr50, sa51, sb52⟩ := MSt_bk hM34 (k := a1) (by omega) (by omega)
        have hz53 : zF (τ31.1 a1) = cv us41 a1 := zF_eq hr50
        have mr54 : isCR r37 := isCR_of er42 (by omega) (by omega)
        have mq55 : isNR q38 := isNR_of eq43 (by omega) (by omega)
        refine di_aload_n rfl rfl ?_
        obtain ⟨⟨ni56, ni56c, ni56a, ni56b⟩, -⟩ := id hM34
        have sr57 : sR τ31 := hM34.2.1
        have sr58 : -1 ≤ τ31.2.1.1 ∧ τ31.2.1.1 ≤ 2 := sr57.1
        have sr59 : -1 ≤ τ31.2.1.2.1 ∧ τ31.2.1.2.1 ≤ 99 := sr57.2.1
        have sr60 : -1 ≤ τ31.2.1.2.2 ∧ τ31.2.1.2.2 ≤ 99 := sr57.2.2.1
        have sr61 : -1 ≤ τ31.2.2.1 ∧ τ31.2.2.1 ≤ 2 := sr57.2.2.2.1
        have sr62 : 0 ≤ τ31.2.2.2.1 ∧ τ31.2.2.2.1 ≤ 1 := sr57.2.2.2.2.1
        have sr63 : -1 ≤ τ31.2.2.2.2.1 ∧ τ31.2.2.2.2.1 ≤ 9999 := sr57.2.2.2.2.2.1
        have sr64 : τ31.2.2.2.2.2.1 = -1 ∨ okC τ31.2.2.2.2.2.1 := sr57.2.2.2.2.2.2
        have hc65 : h30[26]? = some (10, [.ref 27, .ref 31, .ref 35, dI 0, dI ni56, dI km, dI τ31.2.1.1, dI τ31.2.1.2.1, dI τ31.2.1.2.2, dI τ31.2.2.1, dI τ31.2.2.2.1, dI τ31.2.2.2.2.1, dI τ31.2.2.2.2.2.1]) := ni56c
        refine dr_getf rfl hc65 rfl ?_
        refine dr_iload_n rfl rfl ?_
        refine di_iald rfl hs48 as49 (by omega) (by omega) (fun x66 x66f x66a x66b x66v => ?_)
        have x66w : cv us41 a1 = x66 := cv_eq x66v x66a x66b
        have x66g : 0 ≤ x66 ∧ x66 ≤ 8 := x66f
        refine di_if_le rfl rfl (by omega) (by omega) (fun c67 => ?_) (fun c67 => ?_)
        · skip
          refine dr_iload_n rfl rfl ?_
          exact dr_iret (ty := .int) rfl rfl rfl (by decide) (by decide) (QM_ok hI32 hF33 hM34 (by omega) (by omega) (by unfold spClear s0; rw [if_neg (by omega), show zF (σ.1 a1) = x29 by omega, cl_e PL hr50 (by omega)]))
        · skip
          refine di_aload_n rfl rfl ?_
          refine dr_iload_n rfl rfl ?_
          refine di_const rfl ?_
          have zd68 : zF (up (τ31.1 a1) (cv u39 0) (-1)) = cv us41 a1 - 1 := zF_eq (Rep_del hr50 (r := 0) (by omega) (by omega))
          have zq69 : zF ((stM τ31 a1 (up (τ31.1 a1) (cv u39 0) (-1))).1 a1) = cv us41 a1 - 1 := by rw [stM_1]; exact zd68
          refine dr_virt rfl rfl rfl rfl hc65 (n_X8_go l hl hI32 hM34 (a1 := a1) (by omega) (by omega) (a2 := 0) (by omega) (by omega) er42 eq43 hu44 hw45 au46 aw47 hs48 as49 hr50 sa51 sb52 (c := (cv u39 0)) (by omega) rfl) (by decide) (by decide) (by decide) (Nat.le_of_ble_eq_true rfl) kNQVN (kNQV (fun h70 hI71 hF72 hM73 => ?_))
          have hF74 := FrM_tr hF33 hF72
          refine dr_goto rfl rfl ?_
          exact ihL35   h70 (stM τ31 a1 (up (τ31.1 a1) (cv u39 0) (-1))) (by omega) hI71 hF74 hM73 (cl_s PL hz53 zd68)
    exact L35 _   h3 σ (Nat.lt_succ_self _) hI4 hF7 hM6 (cl_0 (by omega))
  · skip
    rw [ey2]
    refine dr_virt rfl rfl rfl rfl c26 (f_X8_start1 l hl hI hM (a2 := 1) (by omega) (by omega)) (by decide) (by decide) (by decide) (Nat.le_of_ble_eq_true rfl) kNQN (kNQ (fun h75 hI76 hF77 hM78 => ?_))
    have hF79 := FrM_tr FrM_rf hF77
    refine di_if_eq rfl rfl (by omega) (by omega) (fun c9 => by exfalso; omega) (fun _ => ?_)
    refine di_const rfl ?_
    exact dr_iret (ty := .int) rfl rfl rfl (by decide) (by decide) (QM_no (x := 0) hI76 hF79 hM78 (by omega) (by omega) (by omega) (by unfold spClear; (repeat' split) <;> first | rfl | (exfalso; omega) | (apply Prod.ext <;> first | rfl | (dsimp only; omega) | (apply Prod.ext <;> first | rfl | (dsimp only; omega)))))
set_option maxHeartbeats 4000000 in
set_option maxRecDepth 100000 in
/-- EarlyendsModel.partClear -/
theorem n_X8_partClear (l : Launch) (hl : l.stackTraces = false) {kc km : Int} {h : dm_H} (hI : Inv kc km h) {th : Int} {σ : St} (hM : MSt km th σ h)  : dm_M l 164 8 0 0 [.ref 26] h (QM9 kc km h (spPartClear σ)) := by
  obtain ⟨⟨ni, c26, ni0, ni1⟩, ⟨⟨R1, R2⟩, ⟨R3, R4⟩, ⟨R5, R6⟩, ⟨R7, R8⟩, ⟨R9, R10⟩, ⟨R11, R12⟩, R13⟩, ⟨th0, th1⟩, -⟩ := id hM
  have R14 : σ.2.2.2.2.2.1 = -1 ∨ (0 ≤ σ.2.2.2.2.2.1 ∧ σ.2.2.2.2.2.1 ≤ 9999 ∧ σ.2.2.2.2.2.1 % 100 ≤ σ.2.2.2.2.2.1 / 100) := R13
  refine dm_M_of dk_164 hl rfl (Nat.le_of_ble_eq_true rfl) ?_
  show dm_W (fun _ _ _ => True) (dm_P (QM9 kc km h (spPartClear σ)) 0 0) l 164 8 0 0 0 [some (.ref 26), none, none] [] h 0 0
  refine di_aload_n rfl rfl ?_
  refine di_aload_n rfl rfl ?_
  refine dr_getf rfl c26 rfl ?_
  refine di_const rfl ?_
  refine di_icmp_ne rfl rfl (by omega) (by omega) (by omega) (by omega) (fun c1 => ?_) (fun c1 => ?_)
  · skip
    refine di_const rfl ?_
    refine di_const rfl ?_
    refine dr_virt rfl rfl rfl rfl c26 (f_X8_start0 l hl hI hM (a2 := 1) (by omega) (by omega)) (by decide) (by decide) (by decide) (Nat.le_of_ble_eq_true rfl) kNQN (kNQ (fun h2 hI3 hF4 hM5 => ?_))
    have hF6 := FrM_tr FrM_rf hF4
    refine di_if_eq rfl rfl (by omega) (by omega) (fun _ => ?_) (fun c9 => by exfalso; omega)
    refine di_aload_n rfl rfl ?_
    obtain ⟨⟨ni7, ni7c, ni7a, ni7b⟩, -⟩ := id hM5
    refine dr_virt rfl rfl rfl rfl ni7c (n_X8_partSize l hl hI3 hM5  (show (0 : Int) ≤ σ.2.1.1 by omega)) (by decide) (by decide) (by decide) (Nat.le_of_ble_eq_true rfl) kNP (kIP (fun y8 y8f y8a y8b => ?_))
    obtain ⟨y8c, y8d, y8k⟩ := y8f
    subst y8k
    refine di_istore_n (ls2 := [some (.ref 26), some (dI ((nP σ))), none]) rfl rfl rfl ?_
    refine di_const rfl ?_
    refine di_istore_n (ls2 := [some (.ref 26), some (dI ((nP σ))), some (dI (0))]) rfl rfl rfl ?_
    have L16 : ∀ (n : Nat) (i10 : Int) (h11 : dm_H) (τ12 : St), (8 - i10).toNat < n → 0 ≤ i10 → i10 ≤ 8 → i10 ≤ nP σ → Inv kc km h11 → FrM h h11 → MSt km 0 τ12 h11 → τ12.2.1 = σ.2.1 → pcP σ τ12 τ12.2.1.1 (inP τ12.2.1.2.1 τ12.2.1.2.2) i10 → dm_W (fun _ _ _ => True) (dm_P (QM9 kc km h (spPartClear σ)) 0 0) l 164 8 0 0 30 [some (.ref 26), some (dI ((nP σ))), some (dI (i10))] [] h11 0 0 := by
      intro n
      induction n with
      | zero => intro i10 h11 τ12 hm; exact absurd hm (Nat.not_lt_zero _)
      | succ n ih =>
        intro i10 h11 τ12 hm17 hb18 hb19 hx20 hI13 hF14 hM15 PR PL
        have ihL16 := ih
        clear ih
        have pn9 : nP σ = nF (σ.1 τ12.2.1.1) (inP τ12.2.1.2.1 τ12.2.1.2.2) := by unfold nP; rw [PR]
        have pe9 : τ12.2.1.1 = σ.2.1.1 := by rw [PR]
        have PL1 := PL.1
        obtain ⟨r21, q22, u23, w24, us25, er26, eq27, hu28, hw29, au30, aw31, hs32, as33, hr34, sa35, sb36⟩ := MSt_bk hM15 (k := τ12.2.1.1) (by omega) (by omega)
        have hz37 : zF (τ12.1 τ12.2.1.1) = cv us25 τ12.2.1.1 := zF_eq hr34
        have mr38 : isCR r21 := isCR_of er26 (by omega) (by omega)
        have mq39 : isNR q22 := isNR_of eq27 (by omega) (by omega)
        refine dr_iload_n rfl rfl ?_
        refine dr_iload_n rfl rfl ?_
        refine di_icmp_ge rfl rfl (by omega) (by omega) (by omega) (by omega) (fun c40 => ?_) (fun c40 => ?_)
        · skip
          refine dr_iload_n rfl rfl ?_
          exact dr_iret (ty := .int) rfl rfl rfl (by decide) (by decide) (QM_ok hI13 hF14 hM15 (by omega) (by omega) (by have q9 := pc_e PL hr34 (by omega); rw [show i10 = nP σ by omega, PR] at q9; unfold spPartClear s0; rw [if_neg (by omega), q9]))
        · skip
          refine di_aload_n rfl rfl ?_
          refine di_aload_n rfl rfl ?_
          obtain ⟨⟨ni41, ni41c, ni41a, ni41b⟩, -⟩ := id hM15
          have sr42 : sR τ12 := hM15.2.1
          have sr43 : -1 ≤ τ12.2.1.1 ∧ τ12.2.1.1 ≤ 2 := sr42.1
          have sr44 : -1 ≤ τ12.2.1.2.1 ∧ τ12.2.1.2.1 ≤ 99 := sr42.2.1
          have sr45 : -1 ≤ τ12.2.1.2.2 ∧ τ12.2.1.2.2 ≤ 99 := sr42.2.2.1
          have sr46 : -1 ≤ τ12.2.2.1 ∧ τ12.2.2.1 ≤ 2 := sr42.2.2.2.1
          have sr47 : 0 ≤ τ12.2.2.2.1 ∧ τ12.2.2.2.1 ≤ 1 := sr42.2.2.2.2.1
          have sr48 : -1 ≤ τ12.2.2.2.2.1 ∧ τ12.2.2.2.2.1 ≤ 9999 := sr42.2.2.2.2.2.1
          have sr49 : τ12.2.2.2.2.2.1 = -1 ∨ okC τ12.2.2.2.2.2.1 := sr42.2.2.2.2.2.2
          have hc50 : h11[26]? = some (10, [.ref 27, .ref 31, .ref 35, dI 0, dI ni41, dI km, dI τ12.2.1.1, dI τ12.2.1.2.1, dI τ12.2.1.2.2, dI τ12.2.2.1, dI τ12.2.2.2.1, dI τ12.2.2.2.2.1, dI τ12.2.2.2.2.2.1]) := ni41c
          refine dr_getf rfl hc50 rfl ?_
          refine di_aload_n rfl rfl ?_
          refine di_const rfl ?_
          refine dr_virt rfl rfl rfl rfl hc50 (n_X8_partEnd l hl hI13 hM15 (a1 := 0) (by omega) (by omega) (show (0 : Int) ≤ τ12.2.1.1 by omega)) (by decide) (by decide) (by decide) (Nat.le_of_ble_eq_true rfl) kNP (kIP (fun y51 y51f y51a y51b => ?_))
          obtain ⟨y51c, y51d, y51k⟩ := y51f
          obtain ⟨y51o, y51k⟩ := y51k
          have yl9 : y51 = lst (τ12.1 τ12.2.1.1) (inP τ12.2.1.2.1 τ12.2.1.2.2) := y51k.2 (by decide)
          have yd9 : τ12.1 τ12.2.1.1 y51 ≠ -1 ∧ inP τ12.2.1.2.1 τ12.2.1.2.2 y51 = true := by rw [yl9]; exact (lst_d hr34).elim (fun q => absurd (nF_no hr34 q.2) (by omega)) (fun q => q.2)
          refine dr_virt rfl rfl rfl rfl hc50 (show dm_M l 142 2 0 0 [.ref 26, dI τ12.2.1.1, dI y51] h11 (QN kc km h11 0 (τ12.1 τ12.2.1.1 y51) (stM τ12 τ12.2.1.1 (up (τ12.1 τ12.2.1.1) y51 (-1)))) from (by have q9 := n_X8_takeIn l hl hI13 hM15 (a1 := τ12.2.1.1) (by omega) (by omega) (a2 := y51) (by omega) (by omega) er26 eq27 hu28 hw29 au30 aw31 hs32 as33 hr34 sa35 sb36; rw [sTake_y yd9.1] at q9; exact q9)) (by decide) (by decide) (by decide) (Nat.le_of_ble_eq_true rfl) kNQN (kNQ (fun h52 hI53 hF54 hM55 => ?_))
          have hF56 := FrM_tr hF14 hF54
          refine dr_pop rfl rfl ?_
          refine di_iinc (ls2 := [some (.ref 26), some (dI ((nP σ))), some (dI ((i10 + 1)))]) rfl rfl rfl rfl ?_
          refine dr_goto rfl rfl ?_
          exact ihL16 ((i10 + 1))  h52 (stM τ12 τ12.2.1.1 (up (τ12.1 τ12.2.1.1) y51 (-1))) (by omega) (by omega) (by omega) (by omega) hI53 hF56 hM55 PR (pc_s PL hr34 (by omega) yd9.1 yd9.2)
    exact L16 _ (0)  h2 σ (Nat.lt_succ_self _) (by omega) (by omega) (by omega) hI3 hF6 hM5 rfl pc_0
  · skip
    refine di_const rfl ?_
    refine dr_goto rfl rfl ?_
    refine di_const rfl ?_
    refine dr_virt rfl rfl rfl rfl c26 (f_X8_start1 l hl hI hM (a2 := 1) (by omega) (by omega)) (by decide) (by decide) (by decide) (Nat.le_of_ble_eq_true rfl) kNQN (kNQ (fun h57 hI58 hF59 hM60 => ?_))
    have hF61 := FrM_tr FrM_rf hF59
    refine di_if_eq rfl rfl (by omega) (by omega) (fun c9 => by exfalso; omega) (fun _ => ?_)
    refine di_const rfl ?_
    exact dr_iret (ty := .int) rfl rfl rfl (by decide) (by decide) (QM_no (x := 0) hI58 hF61 hM60 (by omega) (by omega) (by omega) (by unfold spPartClear; (repeat' split) <;> first | rfl | (exfalso; omega) | (apply Prod.ext <;> first | rfl | (dsimp only; omega) | (apply Prod.ext <;> first | rfl | (dsimp only; omega)))))
/-! ===== steps of the model that keep the other books' rows ===== -/
def QNF (Q : dm_Rs) (r q : Nat) (h : dm_H) (Φ : dm_H → Prop) : dm_Rs := fun x h' => Q x h' ∧ FrX r q h h' ∧ Φ h'
section QNFR
variable {E : dm_Ex} {P : dm_Po} {l : Launch} {z d MC MS pc ce sl : Nat} {ls : List (Option Value)} {st : List Value} {h h' : dm_H} {kc km th a : Int} {σ : St} {r q : Nat} {Φ : dm_H → Prop}
theorem kNF (kk : ∀ h1 : dm_H, Inv kc km h1 → FrM h h1 → MSt km th σ h1 → FrX r q h h1 → Φ h1 → dm_W E P l z d MC MS pc ls (dI a :: st) h1 ce sl) : ∀ (v : Option Value) (h1 : dm_H), QNF (QN kc km h th a σ) r q h Φ (.inl v) h1 → dm_W E P l z d MC MS pc ls (v.toList ++ st) h1 ce sl := by
  rintro v h1 ⟨⟨x, y, z, e⟩, f, g⟩
  cases e
  exact kk h1 x y z f g
theorem kNFV (kk : ∀ h1 : dm_H, Inv kc km h1 → FrM h h1 → MSt km th σ h1 → FrX r q h h1 → Φ h1 → dm_W E P l z d MC MS pc ls st h1 ce sl) : ∀ (v : Option Value) (h1 : dm_H), QNF (QNV kc km h th σ) r q h Φ (.inl v) h1 → dm_W E P l z d MC MS pc ls (v.toList ++ st) h1 ce sl := by
  rintro v h1 ⟨⟨x, y, z, e⟩, f, g⟩
  cases e
  exact kk h1 x y z f g
theorem kNFN : ∀ (Y : String) (h1 : dm_H), QNF (QN kc km h th a σ) r q h Φ (.inr Y) h1 → dm_T9 E P l z d MC MS Y pc ls h1 ce sl := fun _ _ q => by cases q.1.2.2.2
theorem kNFVN : ∀ (Y : String) (h1 : dm_H), QNF (QNV kc km h th σ) r q h Φ (.inr Y) h1 → dm_T9 E P l z d MC MS Y pc ls h1 ce sl := fun _ _ q => by cases q.1.2.2.2
end QNFR
set_option maxRecDepth 100000 in
theorem nx_X8_touch (l : Launch) (hl : l.stackTraces = false) {kc km : Int} {h : dm_H} (hI : Inv kc km h) {th : Int} {σ : St} (hM : MSt km th σ h) {a1 : Int} (h1a : 0 ≤ a1) (h1b : a1 ≤ 2) : dm_M l 138 0 0 0 [.ref 26, dI a1] h (QNF (QNV kc km h th (stT σ a1)) 26 26 h (fun h' => ∀ j : Nat, j ≠ 26 → h'[j]? = h[j]?)) := by
  obtain ⟨⟨ni, c26, ni0, ni1⟩, ⟨⟨R1, R2⟩, ⟨R3, R4⟩, ⟨R5, R6⟩, ⟨R7, R8⟩, ⟨R9, R10⟩, ⟨R11, R12⟩, R13⟩, ⟨th0, th1⟩, -⟩ := id hM
  refine dm_M_of dk_138 hl rfl (Nat.le_of_ble_eq_true rfl) ?_
  show dm_W (fun _ _ _ => True) (dm_P (QNF (QNV kc km h th (stT σ a1)) 26 26 h (fun h' => ∀ j : Nat, j ≠ 26 → h'[j]? = h[j]?)) 0 0) l 138 0 0 0 0 [some (.ref 26), some (dI a1)] [] h 0 0
  refine di_aload_n rfl rfl ?_
  refine dr_getf rfl c26 rfl ?_
  refine dr_iload_n rfl rfl ?_
  refine di_icmp_ne rfl rfl (by omega) (by omega) (by omega) (by omega) (fun c => ?_) (fun c => ?_)
  · have e : stT σ a1 = σ := by unfold stT; rw [if_neg c]
    rw [e]
    exact dr_vret rfl rfl (by decide) (by decide) ⟨⟨hI, FrM_rf, hM, rfl⟩, FrX_rf, fun _ _ => rfl⟩
  · refine di_aload_n rfl rfl ?_
    refine di_const rfl ?_
    refine pfX rfl c26 (Nat.le_of_ble_eq_true rfl) (fit_z (by omega) (by omega)) hI (by decide) (T37_md (by omega) (by omega) (by omega) (by omega) (by omega) (by omega) (by omega) (by omega) R13) (fun h1 hI1 hk1 hc1 => ?_)
    have e : stT σ a1 = (σ.1, σ.2.1, (σ.2.2.1, 1, σ.2.2.2.2.1, σ.2.2.2.2.2.1, σ.2.2.2.2.2.2)) := by unfold stT; rw [if_pos c]
    rw [e]
    exact dr_vret rfl rfl (by decide) (by decide) ⟨⟨hI1, FrM_I hk1 (by decide) (by decide), MSt_md hM hk1 (ni' := ni) hc1 rfl ⟨⟨R1, R2⟩, ⟨R3, R4⟩, ⟨R5, R6⟩, ⟨R7, R8⟩, ⟨(show (0 : Int) ≤ 1 by decide), (show (1 : Int) ≤ 1 by decide)⟩, ⟨R11, R12⟩, R13⟩ ⟨th0, th1⟩ ⟨ni0, ni1⟩, rfl⟩, fun j x _ _ _ => hk1.2 j x, fun j x => hk1.2 j x⟩
theorem isDl_lo {u v : List Value} {r s i : Int} (h : isDl u v r s i) {j : Int} (j0 : 0 ≤ j) (j1 : j < r) (j2 : r ≤ s) : cv v j = cv u j := by
  rw [h j j0 (by omega)]
  split
  · unfold delf; rw [if_pos j1]
  · rfl
theorem nt_same {w w' : List Value} {e x j : Int} (h : stt w w' e x) (j0 : 0 ≤ j) (hx : cv w e = x) : cv w' j = cv w j := by
  by_cases q : j = e
  · rw [q, stt_at h (by omega), hx]
  · exact stt_ne h j0 q

set_option maxHeartbeats 4000000 in
set_option maxRecDepth 100000 in
/-- EarlyendsModel.come -/
theorem nx_X8_come (l : Launch) (hl : l.stackTraces = false) {kc km : Int} {h : dm_H} (hI : Inv kc km h) {th : Int} {σ : St} (hM : MSt km th σ h) {a1 : Int} (h1a : 0 ≤ a1) (h1b : a1 ≤ 2) {a2 : Int} (h2a : 0 ≤ a2) (h2b : a2 ≤ 9999) {a3 : Int} (h3a : 0 ≤ a3) (h3b : a3 ≤ 99) {r q : Nat} {u w us : List Value} (er : (r : Int) = (28 : Nat) + a1) (eq : (q : Int) = (32 : Nat) + a1) (hu : h[r]? = some (20, u)) (hw : h[q]? = some (20, w)) (au : arr 8 okC u) (aw : arr 8 anyI w) (h35 : h[35]? = some (20, us)) (as : arr 3 okS us) (hr : Rep (cv u) (cv w) (cv us a1) (σ.1 a1)) (s0 : 0 ≤ cv us a1) (s8 : cv us a1 ≤ 8) (hp0 : a2 % 100 ≤ a2 / 100) (hFn : σ.1 a1 a2 = -1) (hp1 : cv us a1 ≤ 7) : dm_M l 139 1 0 0 [.ref 26, dI (a1), dI (a2), dI (a3)] h (QNF (QNV kc km h th (stM σ a1 (up (σ.1 a1) a2 a3))) r q h (fun h9 => True)) := by
  obtain ⟨⟨ni, c26, ni0, ni1⟩, ⟨⟨R1, R2⟩, ⟨R3, R4⟩, ⟨R5, R6⟩, ⟨R7, R8⟩, ⟨R9, R10⟩, ⟨R11, R12⟩, R13⟩, ⟨th0, th1⟩, -⟩ := id hM
  have R14 : σ.2.2.2.2.2.1 = -1 ∨ (0 ≤ σ.2.2.2.2.2.1 ∧ σ.2.2.2.2.2.1 ≤ 9999 ∧ σ.2.2.2.2.2.1 % 100 ≤ σ.2.2.2.2.2.1 / 100) := R13
  have mr : isCR r := isCR_of er (by omega) (by omega)
  have mq : isNR q := isNR_of eq (by omega) (by omega)
  refine dm_M_of dk_139 hl rfl (Nat.le_of_ble_eq_true rfl) ?_
  show dm_W (fun _ _ _ => True) (dm_P (QNF (QNV kc km h th (stM σ a1 (up (σ.1 a1) a2 a3))) r q h (fun h9 => True)) 0 0) l 139 1 0 0 0 [some (.ref 26), some (dI (a1)), some (dI (a2)), some (dI (a3))] [] h 0 0
  refine di_aload_n rfl rfl ?_
  refine dr_getf rfl c26 rfl ?_
  refine dr_iload_n rfl rfl ?_
  have hc1 := I_mcs hI
  refine paaE (k0 := 28) er rfl hc1 (by omega) (by omega) ?_
  refine di_aload_n rfl rfl ?_
  refine dr_getf rfl c26 rfl ?_
  refine dr_iload_n rfl rfl ?_
  refine di_iald rfl h35 as (by omega) (by omega) (fun x2 x2f x2a x2b x2v => ?_)
  have x2w : cv us a1 = x2 := cv_eq x2v x2a x2b
  have x2g : 0 ≤ x2 ∧ x2 ≤ 8 := x2f
  refine dr_iload_n rfl rfl ?_
  refine paX rfl hu au (by omega) (by omega) ⟨by omega, by omega, by omega⟩ (by omega) (by omega) hI (lt_cr mr) (fun us9 hu9 => T37_cr mr hu9) (fun h3 us5 hI4 hk6 hc7 ha8 st10 => ?_)
  have hc11 := (hk6.2 26 (by omega)).trans c26
  have hc12 := (hk6.2 q (by omega)).trans hw
  have hc13 := (hk6.2 35 (by omega)).trans h35
  have hc14 := (hk6.2 27 (by omega)).trans hc1
  have hA15 := FrA_tr FrA_rf (FrA_I (r := r) (q := q) hk6 (by omega) (by omega) (by omega))
  refine di_aload_n rfl rfl ?_
  refine dr_getf rfl hc11 rfl ?_
  refine dr_iload_n rfl rfl ?_
  have hc16 := I_mns hI4
  refine paaE (k0 := 32) eq rfl hc16 (by omega) (by omega) ?_
  refine di_aload_n rfl rfl ?_
  refine dr_getf rfl hc11 rfl ?_
  refine dr_iload_n rfl rfl ?_
  refine di_iald rfl hc13 as (by omega) (by omega) (fun x17 x17f x17a x17b x17v => ?_)
  have x17w : cv us a1 = x17 := cv_eq x17v x17a x17b
  have x17g : 0 ≤ x17 ∧ x17 ≤ 8 := x17f
  refine dr_iload_n rfl rfl ?_
  refine paX rfl hc12 aw (by omega) (by omega) trivial (by omega) (by omega) hI4 (lt_nr mq) (fun us9 hu9 => T37_nr mq hu9) (fun h18 us20 hI19 hk21 hc22 ha23 st24 => ?_)
  have hc25 := (hk21.2 26 (by omega)).trans hc11
  have hc26 := (hk21.2 35 (by omega)).trans hc13
  have hc27 := (hk21.2 27 (by omega)).trans hc14
  have hc28 := (hk21.2 r (by omega)).trans hc7
  have hc29 := (hk21.2 31 (by omega)).trans hc16
  have hA30 := FrA_tr hA15 (FrA_I (r := r) (q := q) hk21 (by omega) (by omega) (by omega))
  refine di_aload_n rfl rfl ?_
  refine dr_getf rfl hc25 rfl ?_
  refine dr_iload_n rfl rfl ?_
  refine dr_dup2 rfl rfl rfl ?_
  refine di_iald rfl hc26 as (by omega) (by omega) (fun x31 x31f x31a x31b x31v => ?_)
  have x31w : cv us a1 = x31 := cv_eq x31v x31a x31b
  have x31g : 0 ≤ x31 ∧ x31 ≤ 8 := x31f
  refine di_const rfl ?_
  refine di_iadd rfl ?_
  refine paX rfl hc26 as (by omega) (by omega) ⟨by omega, by omega⟩ (by omega) (by omega) hI19 (by decide) (fun us9 hu9 => T37_sz hu9) (fun h32 us34 hI33 hk35 hc36 ha37 st38 => ?_)
  have hc39 := (hk35.2 26 (by omega)).trans hc25
  have hc40 := (hk35.2 27 (by omega)).trans hc27
  have hc41 := (hk35.2 r (by omega)).trans hc28
  have hc42 := (hk35.2 31 (by omega)).trans hc29
  have hc43 := (hk35.2 q (by omega)).trans hc22
  have hA44 := FrA_tr hA30 (FrA_I (r := r) (q := q) hk35 (by omega) (by omega) (by omega))
  refine di_aload_n rfl rfl ?_
  refine dr_iload_n rfl rfl ?_
  have hM45 : MSt km th (stN σ a1 (up (σ.1 a1) a2 a3)) h32 := MSt_rows hM h1a h1b er eq hA44.2 (ni' := ni) hc39 ⟨ni0, ni1⟩ h35 hc36 hc41 hc43 ha8 ha23 ha37 (fun i i0 i1 ne => stt_ne st38 i0 ne) (Rep_cm h1a hr hFn (by omega) (by omega) (by omega) (by omega) x2w x17w x31w st10 st24 st38)
  refine dr_virt rfl rfl rfl rfl hc39 (nx_X8_touch l hl hI33 hM45 (a1 := a1) (by omega) (by omega)) (by decide) (by decide) (by decide) (Nat.le_of_ble_eq_true rfl) kNFVN (kNFV (fun h46 hI47 hF48 hM49 hX50 hT51 => ?_))
  have hF52 := FrM_tr hA44.1 hF48
  have hX53 := FrX_tr hA44.2 (fun j9 x1 _ _ _ => hT51 j9 x1 : FrX r q h32 h46)
  have hc54 := (hT51 r (by omega)).trans hc41
  have hc55 := (hT51 q (by omega)).trans hc43
  exact dr_vret rfl rfl (by decide) (by decide) ⟨(QNV_ok hI47 hF52 hM49 rfl rfl), hX53, trivial⟩
set_option maxHeartbeats 4000000 in
set_option maxRecDepth 100000 in
/-- EarlyendsModel.go -/
theorem nx_X8_go (l : Launch) (hl : l.stackTraces = false) {kc km : Int} {h : dm_H} (hI : Inv kc km h) {th : Int} {σ : St} (hM : MSt km th σ h) {a1 : Int} (h1a : 0 ≤ a1) (h1b : a1 ≤ 2) {a2 : Int} (h2a : 0 ≤ a2) (h2b : a2 ≤ 8) {r q : Nat} {u w us : List Value} (er : (r : Int) = (28 : Nat) + a1) (eq : (q : Int) = (32 : Nat) + a1) (hu : h[r]? = some (20, u)) (hw : h[q]? = some (20, w)) (au : arr 8 okC u) (aw : arr 8 anyI w) (h35 : h[35]? = some (20, us)) (as : arr 3 okS us) (hr : Rep (cv u) (cv w) (cv us a1) (σ.1 a1)) (s0 : 0 ≤ cv us a1) (s8 : cv us a1 ≤ 8) {c : Int} (hp0 : a2 < cv us a1) (hc : cv u a2 = c) : dm_M l 140 1 0 0 [.ref 26, dI (a1), dI (a2)] h (QNF (QNV kc km h th (stM σ a1 (up (σ.1 a1) c (-1)))) r q h (fun h9 => ∃ u' w' : List Value, h9[r]? = some (20, u') ∧ h9[q]? = some (20, w') ∧ ∀ j : Int, 0 ≤ j → j < a2 → cv u' j = cv u j ∧ cv w' j = cv w j)) := by
  obtain ⟨⟨ni, c26, ni0, ni1⟩, ⟨⟨R1, R2⟩, ⟨R3, R4⟩, ⟨R5, R6⟩, ⟨R7, R8⟩, ⟨R9, R10⟩, ⟨R11, R12⟩, R13⟩, ⟨th0, th1⟩, -⟩ := id hM
  have R14 : σ.2.2.2.2.2.1 = -1 ∨ (0 ≤ σ.2.2.2.2.2.1 ∧ σ.2.2.2.2.2.1 ≤ 9999 ∧ σ.2.2.2.2.2.1 % 100 ≤ σ.2.2.2.2.2.1 / 100) := R13
  have mr : isCR r := isCR_of er (by omega) (by omega)
  have mq : isNR q := isNR_of eq (by omega) (by omega)
  refine dm_M_of dk_140 hl rfl (Nat.le_of_ble_eq_true rfl) ?_
  show dm_W (fun _ _ _ => True) (dm_P (QNF (QNV kc km h th (stM σ a1 (up (σ.1 a1) c (-1)))) r q h (fun h9 => ∃ u' w' : List Value, h9[r]? = some (20, u') ∧ h9[q]? = some (20, w') ∧ ∀ j : Int, 0 ≤ j → j < a2 → cv u' j = cv u j ∧ cv w' j = cv w j)) 0 0) l 140 1 0 0 0 [some (.ref 26), some (dI (a1)), some (dI (a2)), none] [] h 0 0
  refine di_aload_n rfl rfl ?_
  refine dr_getf rfl c26 rfl ?_
  refine dr_iload_n rfl rfl ?_
  refine dr_dup2 rfl rfl rfl ?_
  refine di_iald rfl h35 as (by omega) (by omega) (fun x1 x1f x1a x1b x1v => ?_)
  have x1w : cv us a1 = x1 := cv_eq x1v x1a x1b
  have x1g : 0 ≤ x1 ∧ x1 ≤ 8 := x1f
  refine di_const rfl ?_
  refine di_isub rfl ?_
  refine paX rfl h35 as (by omega) (by omega) ⟨by omega, by omega⟩ (by omega) (by omega) hI (by decide) (fun us9 hu9 => T37_sz hu9) (fun h2 us4 hI3 hk5 hc6 ha7 st8 => ?_)
  have hc10 := (hk5.2 26 (by omega)).trans c26
  have hc11 := (hk5.2 r (by omega)).trans hu
  have hc12 := (hk5.2 q (by omega)).trans hw
  have hA13 := FrA_tr FrA_rf (FrA_I (r := r) (q := q) hk5 (by omega) (by omega) (by omega))
  have zs9 := stt_at st8 h1a
  refine dr_iload_n rfl rfl ?_
  refine di_istore_n (ls2 := [some (.ref 26), some (dI (a1)), some (dI (a2)), some (dI (a2))]) rfl rfl rfl ?_
  have L15 : ∀ (n : Nat) (i14 : Int) (h16 : dm_H) (uv19 : List Value) (uv22 : List Value), (8 - i14).toNat < n → 0 ≤ i14 → i14 ≤ 8 → a2 ≤ i14 → Inv kc km h16 → FrA r q h h16 → h16[26]? = some (10, [.ref 27, .ref 31, .ref 35, dI (th), dI (ni), dI (km), dI (σ.2.1.1), dI (σ.2.1.2.1), dI (σ.2.1.2.2), dI (σ.2.2.1), dI (σ.2.2.2.1), dI (σ.2.2.2.2.1), dI (σ.2.2.2.2.2.1)]) → h16[r]? = some (20, uv19) → arr 8 okC uv19 → h16[q]? = some (20, uv22) → arr 8 anyI uv22 → h16[35]? = some (20, us4) → isDl u uv19 a2 (cv us a1 - 1) i14 → isDl w uv22 a2 (cv us a1 - 1) i14 → dm_W (fun _ _ _ => True) (dm_P (QNF (QNV kc km h th (stM σ a1 (up (σ.1 a1) c (-1)))) r q h (fun h9 => ∃ u' w' : List Value, h9[r]? = some (20, u') ∧ h9[q]? = some (20, w') ∧ ∀ j : Int, 0 ≤ j → j < a2 → cv u' j = cv u j ∧ cv w' j = cv w j)) 0 0) l 140 1 0 0 12 [some (.ref 26), some (dI (a1)), some (dI (a2)), some (dI (i14))] [] h16 0 0 := by
    intro n
    induction n with
    | zero => intro i14 h16 uv19 uv22 hm; exact absurd hm (Nat.not_lt_zero _)
    | succ n ih =>
      intro i14 h16 uv19 uv22 hm30 hb26 hb27 hx28 hI17 hE18 hc29 hc20 ha21 hc23 ha24 hc25 PU PW
      have ihL15 := ih
      clear ih
      refine dr_iload_n rfl rfl ?_
      refine di_aload_n rfl rfl ?_
      refine dr_getf rfl hc29 rfl ?_
      refine dr_iload_n rfl rfl ?_
      refine di_iald rfl hc25 ha7 (by omega) (by omega) (fun x31 x31f x31a x31b x31v => ?_)
      have x31w : cv us4 a1 = x31 := cv_eq x31v x31a x31b
      have x31g : 0 ≤ x31 ∧ x31 ≤ 8 := x31f
      refine di_icmp_ge rfl rfl (by omega) (by omega) (by omega) (by omega) (fun c32 => ?_) (fun c32 => ?_)
      · skip
        refine di_aload_n rfl rfl ?_
        refine dr_iload_n rfl rfl ?_
        have hM33 : MSt km th (stN σ a1 (up (σ.1 a1) c (-1))) h16 := MSt_rows hM h1a h1b er eq hE18.2 (ni' := ni) hc29 ⟨ni0, ni1⟩ h35 hc25 hc20 hc23 ha21 ha24 ha7 (fun i i0 i1 ne => stt_ne st8 i0 ne) (Rep_dl h1a hr h2a hp0 hc x1w PU PW st8 (by omega))
        refine dr_virt rfl rfl rfl rfl hc29 (nx_X8_touch l hl hI17 hM33 (a1 := a1) (by omega) (by omega)) (by decide) (by decide) (by decide) (Nat.le_of_ble_eq_true rfl) kNFVN (kNFV (fun h34 hI35 hF36 hM37 hX38 hT39 => ?_))
        have hF40 := FrM_tr hE18.1 hF36
        have hX41 := FrX_tr hE18.2 (fun j9 x1 _ _ _ => hT39 j9 x1 : FrX r q h16 h34)
        have hc42 := (hT39 r (by omega)).trans hc20
        have hc43 := (hT39 q (by omega)).trans hc23
        exact dr_vret rfl rfl (by decide) (by decide) ⟨(QNV_ok hI35 hF40 hM37 rfl rfl), hX41, ⟨_, _, hc42, hc43, fun j9 j0 j1 => ⟨isDl_lo PU j0 j1 (by omega), isDl_lo PW j0 j1 (by omega)⟩⟩⟩
      · skip
        refine di_aload_n rfl rfl ?_
        refine dr_getf rfl hc29 rfl ?_
        refine dr_iload_n rfl rfl ?_
        have hc44 := I_mcs hI17
        refine paaE (k0 := 28) er rfl hc44 (by omega) (by omega) ?_
        refine dr_iload_n rfl rfl ?_
        refine di_aload_n rfl rfl ?_
        refine dr_getf rfl hc29 rfl ?_
        refine dr_iload_n rfl rfl ?_
        refine paaE (k0 := 28) er rfl hc44 (by omega) (by omega) ?_
        refine dr_iload_n rfl rfl ?_
        refine di_const rfl ?_
        refine di_iadd rfl ?_
        refine di_iald rfl hc20 ha21 (by omega) (by omega) (fun x45 x45f x45a x45b x45v => ?_)
        have x45w : cv uv19 (i14 + 1) = x45 := cv_eq x45v x45a x45b
        have x45g : 0 ≤ x45 ∧ x45 ≤ 9999 ∧ x45 % 100 ≤ x45 / 100 := x45f
        refine paX rfl hc20 ha21 (by omega) (by omega) ⟨by omega, by omega, by omega⟩ (by omega) (by omega) hI17 (lt_cr mr) (fun us9 hu9 => T37_cr mr hu9) (fun h46 us48 hI47 hk49 hc50 ha51 st52 => ?_)
        have hc53 := (hk49.2 26 (by omega)).trans hc29
        have hc54 := (hk49.2 q (by omega)).trans hc23
        have hc55 := (hk49.2 35 (by omega)).trans hc25
        have hc56 := (hk49.2 27 (by omega)).trans hc44
        have hA57 := FrA_tr hE18 (FrA_I (r := r) (q := q) hk49 (by omega) (by omega) (by omega))
        refine di_aload_n rfl rfl ?_
        refine dr_getf rfl hc53 rfl ?_
        refine dr_iload_n rfl rfl ?_
        have hc58 := I_mns hI47
        refine paaE (k0 := 32) eq rfl hc58 (by omega) (by omega) ?_
        refine dr_iload_n rfl rfl ?_
        refine di_aload_n rfl rfl ?_
        refine dr_getf rfl hc53 rfl ?_
        refine dr_iload_n rfl rfl ?_
        refine paaE (k0 := 32) eq rfl hc58 (by omega) (by omega) ?_
        refine dr_iload_n rfl rfl ?_
        refine di_const rfl ?_
        refine di_iadd rfl ?_
        refine di_iald rfl hc54 ha24 (by omega) (by omega) (fun x59 x59f x59a x59b x59v => ?_)
        have x59w : cv uv22 (i14 + 1) = x59 := cv_eq x59v x59a x59b
        refine paX rfl hc54 ha24 (by omega) (by omega) trivial (by omega) (by omega) hI47 (lt_nr mq) (fun us9 hu9 => T37_nr mq hu9) (fun h60 us62 hI61 hk63 hc64 ha65 st66 => ?_)
        have hc67 := (hk63.2 26 (by omega)).trans hc53
        have hc68 := (hk63.2 35 (by omega)).trans hc55
        have hc69 := (hk63.2 27 (by omega)).trans hc56
        have hc70 := (hk63.2 r (by omega)).trans hc50
        have hc71 := (hk63.2 31 (by omega)).trans hc58
        have hA72 := FrA_tr hA57 (FrA_I (r := r) (q := q) hk63 (by omega) (by omega) (by omega))
        refine di_iinc (ls2 := [some (.ref 26), some (dI (a1)), some (dI (a2)), some (dI ((i14 + 1)))]) rfl rfl rfl rfl ?_
        refine dr_goto rfl rfl ?_
        exact ihL15 ((i14 + 1)) h60 (us48) (us62) (by omega) (by omega) (by omega) (by omega) hI61 hA72 hc67 hc70 ha51 hc64 ha65 hc68 (isDl_s PU st52 x45w (by omega) (by omega) (by omega)) (isDl_s PW st66 x59w (by omega) (by omega) (by omega))
  exact L15 _ (a2) h2 (u) (w) (Nat.lt_succ_self _) (by omega) (by omega) (by omega) hI3 hA13 hc10 hc11 au hc12 aw hc6 isDl_0 isDl_0
set_option maxHeartbeats 4000000 in
set_option maxRecDepth 100000 in
/-- EarlyendsModel.putIn -/
theorem nx_X8_putIn (l : Launch) (hl : l.stackTraces = false) {kc km : Int} {h : dm_H} (hI : Inv kc km h) {th : Int} {σ : St} (hM : MSt km th σ h) {a1 : Int} (h1a : 0 ≤ a1) (h1b : a1 ≤ 2) {a2 : Int} (h2a : 0 ≤ a2) (h2b : a2 ≤ 9999) {a3 : Int} (h3a : 0 ≤ a3) (h3b : a3 ≤ 99) {r q : Nat} {u w us : List Value} (er : (r : Int) = (28 : Nat) + a1) (eq : (q : Int) = (32 : Nat) + a1) (hu : h[r]? = some (20, u)) (hw : h[q]? = some (20, w)) (au : arr 8 okC u) (aw : arr 8 anyI w) (h35 : h[35]? = some (20, us)) (as : arr 3 okS us) (hr : Rep (cv u) (cv w) (cv us a1) (σ.1 a1)) (s0 : 0 ≤ cv us a1) (s8 : cv us a1 ≤ 8) (hp0 : a2 % 100 ≤ a2 / 100) (hnn : σ.1 a1 a2 ≠ -1 ∨ cv us a1 ≤ 7) : dm_M l 141 2 0 0 [.ref 26, dI (a1), dI (a2), dI (a3)] h (QNF (QN kc km h th (sPut σ a1 a2 a3).1 (sPut σ a1 a2 a3).2) r q h (fun h9 => σ.1 a1 a2 = a3 → a3 ≠ -1 → h9[r]? = some (20, u) ∧ ∃ w' : List Value, h9[q]? = some (20, w') ∧ ∀ j : Int, 0 ≤ j → cv w' j = cv w j)) := by
  obtain ⟨⟨ni, c26, ni0, ni1⟩, ⟨⟨R1, R2⟩, ⟨R3, R4⟩, ⟨R5, R6⟩, ⟨R7, R8⟩, ⟨R9, R10⟩, ⟨R11, R12⟩, R13⟩, ⟨th0, th1⟩, -⟩ := id hM
  have R14 : σ.2.2.2.2.2.1 = -1 ∨ (0 ≤ σ.2.2.2.2.2.1 ∧ σ.2.2.2.2.2.1 ≤ 9999 ∧ σ.2.2.2.2.2.1 % 100 ≤ σ.2.2.2.2.2.1 / 100) := R13
  have mr : isCR r := isCR_of er (by omega) (by omega)
  have mq : isNR q := isNR_of eq (by omega) (by omega)
  refine dm_M_of dk_141 hl rfl (Nat.le_of_ble_eq_true rfl) ?_
  show dm_W (fun _ _ _ => True) (dm_P (QNF (QN kc km h th (sPut σ a1 a2 a3).1 (sPut σ a1 a2 a3).2) r q h (fun h9 => σ.1 a1 a2 = a3 → a3 ≠ -1 → h9[r]? = some (20, u) ∧ ∃ w' : List Value, h9[q]? = some (20, w') ∧ ∀ j : Int, 0 ≤ j → cv w' j = cv w j)) 0 0) l 141 2 0 0 0 [some (.ref 26), some (dI (a1)), some (dI (a2)), some (dI (a3)), none, none] [] h 0 0
  refine di_aload_n rfl rfl ?_
  refine dr_iload_n rfl rfl ?_
  refine dr_iload_n rfl rfl ?_
  refine dr_virt rfl rfl rfl rfl c26 (n_X8_at l hl hI hM (a1 := a1) (by omega) (by omega) (a2 := a2) (by omega) (by omega) er eq hu hw au aw h35 as hr s0 s8) (by decide) (by decide) (by decide) (Nat.le_of_ble_eq_true rfl) kNP (kIP (fun y1 y1f y1a y1b => ?_))
  obtain ⟨y1c, y1d, y1k⟩ := y1f
  refine di_istore (ls2 := [some (.ref 26), some (dI (a1)), some (dI (a2)), some (dI (a3)), some (dI (y1)), none]) rfl rfl rfl ?_
  refine dr_iload rfl rfl ?_
  refine di_if_lt rfl rfl (by omega) (by omega) (fun c2 => ?_) (fun c2 => ?_)
  · skip
    have hFn3 := rkp_n y1k (by omega)
    refine di_aload_n rfl rfl ?_
    refine dr_getf rfl c26 rfl ?_
    refine dr_iload_n rfl rfl ?_
    refine di_iald rfl h35 as (by omega) (by omega) (fun x4 x4f x4a x4b x4v => ?_)
    have x4w : cv us a1 = x4 := cv_eq x4v x4a x4b
    have x4g : 0 ≤ x4 ∧ x4 ≤ 8 := x4f
    refine di_bipush rfl (by decide) ?_
    refine di_icmp_ne rfl rfl (by omega) (by omega) (by omega) (by omega) (fun c5 => ?_) (fun c5 => ?_)
    · skip
      refine di_aload_n rfl rfl ?_
      refine dr_iload_n rfl rfl ?_
      refine dr_iload_n rfl rfl ?_
      refine dr_iload_n rfl rfl ?_
      refine dr_virt rfl rfl rfl rfl c26 (nx_X8_come l hl hI hM (a1 := a1) (by omega) (by omega) (a2 := a2) (by omega) (by omega) (a3 := a3) (by omega) (by omega) er eq hu hw au aw h35 as hr s0 s8 (by omega) (by omega) (by omega)) (by decide) (by decide) (by decide) (Nat.le_of_ble_eq_true rfl) kNFVN (kNFV (fun h6 hI7 hF8 hM10 hX11 hT12 => ?_))
      have hF13 := FrM_tr FrM_rf hF8
      refine di_const rfl ?_
      have hz9 : zF (σ.1 a1) = cv us a1 := zF_eq hr
      have eS : sPut σ a1 a2 a3 = ((-1), (stM σ a1 (up (σ.1 a1) a2 a3))) := by unfold sPut; (repeat' split) <;> first | rfl | (exfalso; omega) | (apply Prod.ext <;> first | rfl | (dsimp only; omega) | (apply Prod.ext <;> first | rfl | (dsimp only; omega)))
      exact dr_iret (ty := .int) rfl rfl rfl (by decide) (by decide) ⟨(QN_ok hI7 hF13 hM10 rfl (congrArg Prod.fst eS) (congrArg Prod.snd eS)), hX11, (fun e9 x9 => by exfalso; omega)⟩
    · skip
      refine di_aload_n rfl rfl ?_
      exfalso; omega
  · skip
    have hFy15 := rkp_y hr y1k (by omega)
    have hri14 := rkp_in y1k (by omega)
    refine di_aload_n rfl rfl ?_
    refine dr_getf rfl c26 rfl ?_
    refine dr_iload_n rfl rfl ?_
    have hc16 := I_mns hI
    refine paaE (k0 := 32) eq rfl hc16 (by omega) (by omega) ?_
    refine dr_iload rfl rfl ?_
    refine di_iald rfl hw aw (by omega) (by omega) (fun x17 x17f x17a x17b x17v => ?_)
    have x17w : cv w y1 = x17 := cv_eq x17v x17a x17b
    refine di_istore (ls2 := [some (.ref 26), some (dI (a1)), some (dI (a2)), some (dI (a3)), some (dI (y1)), some (dI (x17))]) rfl rfl rfl ?_
    refine di_aload_n rfl rfl ?_
    refine dr_getf rfl c26 rfl ?_
    refine dr_iload_n rfl rfl ?_
    refine paaE (k0 := 32) eq rfl hc16 (by omega) (by omega) ?_
    refine dr_iload rfl rfl ?_
    refine dr_iload_n rfl rfl ?_
    refine paX rfl hw aw (by omega) (by omega) trivial (by omega) (by omega) hI (lt_nr mq) (fun us9 hu9 => T37_nr mq hu9) (fun h18 us20 hI19 hk21 hc22 ha23 st24 => ?_)
    have hc25 := (hk21.2 26 (by omega)).trans c26
    have hc26 := (hk21.2 r (by omega)).trans hu
    have hc27 := (hk21.2 35 (by omega)).trans h35
    have hc28 := (hk21.2 31 (by omega)).trans hc16
    have hA29 := FrA_tr FrA_rf (FrA_I (r := r) (q := q) hk21 (by omega) (by omega) (by omega))
    refine dr_iload rfl rfl ?_
    have nt9 : Rep (cv u) (cv us20) (cv us a1) (up (σ.1 a1) a2 a3) := by have q9 := Rep_nt (g := cv w) hr hri14.1 hri14.2.1 (by omega) (by omega) st24; rw [hri14.2.2] at q9; exact q9
    have hM30 : MSt km th (stN σ a1 (up (σ.1 a1) a2 a3)) h18 := MSt_rows hM h1a h1b er eq hA29.2 (ni' := ni) hc25 ⟨ni0, ni1⟩ h35 hc27 hc26 hc22 au ha23 as (fun _ _ _ _ => rfl) nt9
    have ny9 := (Rep_yes hr hri14.1 hri14.2.1 hri14.2.2).1
    have hz9 : zF (σ.1 a1) = cv us a1 := zF_eq hr
    have eS : sPut σ a1 a2 a3 = (x17, (stN σ a1 (up (σ.1 a1) a2 a3))) := by unfold sPut; (repeat' split) <;> first | rfl | (exfalso; omega) | (apply Prod.ext <;> first | rfl | (dsimp only; omega) | (apply Prod.ext <;> first | rfl | (dsimp only; omega)))
    exact dr_iret (ty := .int) rfl rfl rfl (by decide) (by decide) ⟨(QN_ok hI19 hA29.1 hM30 rfl (congrArg Prod.fst eS) (congrArg Prod.snd eS)), hA29.2, (fun e9 x9 => ⟨hc26, _, hc22, fun j9 j0 => nt_same st24 j0 (by have q9 := (Rep_yes hr hri14.1 hri14.2.1 hri14.2.2).1; omega)⟩)⟩
/-! ===== sift, pour, copy of the model ===== -/
def rwP (h : dm_H) (k : Int) (u w : List Value) (i : Int) : Prop := ∀ (r q : Nat) (u' w' : List Value), (r : Int) = (28 : Nat) + k → (q : Int) = (32 : Nat) + k → h[r]? = some (20, u') → h[q]? = some (20, w') → ∀ j : Int, 0 ≤ j → j < i → cv u' j = cv u j ∧ cv w' j = cv w j
theorem some20 {o : Option dm_C} {u v : List Value} (a : o = some (20, u)) (c : o = some (20, v)) : u = v := by
  have := a.symm.trans c
  simp only [Option.some.injEq, Prod.mk.injEq, true_and] at this
  exact this
section RW
variable {h h' : dm_H} {k i : Int} {u w u1 w1 : List Value} {r q : Nat}
theorem rw_0 (er : (r : Int) = (28 : Nat) + k) (eq : (q : Int) = (32 : Nat) + k) (hu : h[r]? = some (20, u)) (hw : h[q]? = some (20, w)) : rwP h k u w i := fun r' q' u' w' er' eq' hu' hw' j _ _ => by
  have e1 : r' = r := by omega
  have e2 : q' = q := by omega
  subst e1; subst e2
  rw [some20 hu' hu, some20 hw' hw]; exact ⟨rfl, rfl⟩
theorem rw_kp (h0 : rwP h k u w (i + 1)) : rwP h k u w i := fun r' q' u' w' er' eq' hu' hw' j j0 j1 => h0 r' q' u' w' er' eq' hu' hw' j j0 (by omega)
theorem rw_go (h0 : rwP h k u w i) {a : Int} (ha : a ≤ i) (er : (r : Int) = (28 : Nat) + k) (eq : (q : Int) = (32 : Nat) + k) (hu : h[r]? = some (20, u1)) (hw : h[q]? = some (20, w1)) (hg : ∃ u' w' : List Value, h'[r]? = some (20, u') ∧ h'[q]? = some (20, w') ∧ ∀ j : Int, 0 ≤ j → j < a → cv u' j = cv u1 j ∧ cv w' j = cv w1 j) : rwP h' k u w a := fun r' q' u' w' er' eq' hu' hw' j j0 j1 => by
  have e1 : r' = r := by omega
  have e2 : q' = q := by omega
  subst e1; subst e2
  obtain ⟨u9, w9, g1, g2, g3⟩ := hg
  rw [some20 hu' g1, some20 hw' g2, (g3 j j0 j1).1, (g3 j j0 j1).2]
  exact h0 _ _ _ _ er eq hu hw j j0 (by omega)
theorem rw_fr {b : Int} {rb qb : Nat} (h0 : rwP h k u w i) (k0 : 0 ≤ k) (k2 : k ≤ 2) (b0 : 0 ≤ b) (b2 : b ≤ 2) (er : (rb : Int) = (28 : Nat) + b) (eq : (qb : Int) = (32 : Nat) + b) (hne : k ≠ b) (f : FrX rb qb h h') : rwP h' k u w i := fun r' q' u' w' er' eq' hu' hw' => by
  rw [f r' (by omega) (by omega) (by omega) (by omega)] at hu'
  rw [f q' (by omega) (by omega) (by omega) (by omega)] at hw'
  exact h0 _ _ _ _ er' eq' hu' hw'
end RW
def sfB (σ : St) (o z : Int) : Int → Prop := fun c => ¬ (decide (σ.1 o c ≠ -1) = decide (z = 1))
theorem sfB_t {σ τ : St} {o z c : Int} (e : τ.1 o = σ.1 o) (h : (τ.1 o c ≠ -1 ∧ z ≠ 1) ∨ (τ.1 o c = -1 ∧ z = 1)) : sfB σ o z c := by
  unfold sfB
  rw [← e]
  rcases h with ⟨a, b⟩ | ⟨a, b⟩
  · rw [decide_eq_true a, decide_eq_false b]; decide
  · rw [decide_eq_false (fun q => q a), decide_eq_true b]; decide
theorem sfB_f {σ τ : St} {o z c : Int} (e : τ.1 o = σ.1 o) (h : (τ.1 o c ≠ -1 ∧ z = 1) ∨ (τ.1 o c = -1 ∧ z ≠ 1)) : ¬ sfB σ o z c := by
  unfold sfB
  rw [← e]
  rcases h with ⟨a, b⟩ | ⟨a, b⟩
  · rw [decide_eq_true a, decide_eq_true b]; exact fun q => q rfl
  · rw [decide_eq_false (fun q => q a), decide_eq_false b]; exact fun q => q rfl
def sfP (σ τ : St) (k : Int) (bad : Int → Prop) (f : Int → Int) (s i m : Int) : Prop := Wp (σ.1 k) f s bad i (τ.1 k) ∧ zF (τ.1 k) = s - m ∧ ((m = 0 ∧ τ = σ) ∨ (0 < m ∧ ∃ G, τ = stM σ k G))
section SF
variable {σ τ : St} {k s i m : Int} {bad : Int → Prop} {f g : Int → Int}
theorem sf_0 (hz : zF (σ.1 k) = s) : sfP σ σ k bad f s (s - 1) 0 := ⟨Wp_0 (fun j a b => by omega), by omega, Or.inl ⟨rfl, rfl⟩⟩
theorem sf_k {x : Int} (h : sfP σ τ k bad f s i m) (e : f i = x) (hb : ¬ bad x) : sfP σ τ k bad f s (i - 1) m := ⟨Wp_kp h.1 (by rw [e]; exact hb), h.2⟩
theorem sf_r {x : Int} (h : sfP σ τ k bad f s i m) (e : f i = x) (hb : bad x) (hi : i < s) (hm : 0 ≤ m) (hz : zF (up (τ.1 k) x (-1)) = s - m - 1) : sfP σ (stM τ k (up (τ.1 k) x (-1))) k bad f s (i - 1) (m + 1) := by
  subst e
  refine ⟨?_, ?_, Or.inr ⟨by omega, ?_⟩⟩
  · rw [stM_1]; exact Wp_rm (g := f) h.1 hb hi
  · rw [stM_1, hz]; omega
  · rcases h.2.2 with ⟨-, e⟩ | ⟨-, G, e⟩
    · rw [e]; exact ⟨_, rfl⟩
    · refine ⟨up (τ.1 k) (f i) (-1), ?_⟩
      generalize up (τ.1 k) (f i) (-1) = F9
      rw [e]; exact stM_M
theorem sf_e {o z : Int} (h : sfP σ τ k (sfB σ o z) f s i m) (hi : i = -1) (hr : Rep f g s (σ.1 k)) : sWipe σ k (sif (σ.1 o) (σ.1 k) z) (zF (σ.1 k) - zF (sif (σ.1 o) (σ.1 k) z)) = (m, τ) := by
  subst hi
  obtain ⟨h1, h2, h3⟩ := h
  have hw := Wp_end hr (by omega) h1 (fun j a b => by omega)
  have e : τ.1 k = sif (σ.1 o) (σ.1 k) z := funext fun c => by
    unfold sif
    by_cases q : (decide (σ.1 o c ≠ -1)) = decide (z = 1)
    · rw [if_pos q]; exact (hw c).2 (fun q2 => q2 q)
    · rw [if_neg q]; exact (hw c).1 q
  rw [← e, h2, zF_eq hr, show s - (s - m) = m by omega]
  unfold sWipe
  rcases h3 with ⟨h4, h5⟩ | ⟨h4, G, h5⟩
  · rw [if_pos h4, h4, h5]
  · rw [if_neg (by omega)]
    subst h5
    rw [stM_1]
theorem sf_o {o : Int} (h : sfP σ τ k bad f s i m) (hne : o ≠ k) : τ.1 o = σ.1 o := by
  rcases h.2.2 with ⟨-, e⟩ | ⟨-, G, e⟩
  · rw [e]
  · rw [e]; exact stM_o hne
end SF

set_option maxHeartbeats 4000000 in
set_option maxRecDepth 100000 in
/-- EarlyendsModel.sift -/
theorem n_X8_sift (l : Launch) (hl : l.stackTraces = false) {kc km : Int} {h : dm_H} (hI : Inv kc km h) {th : Int} {σ : St} (hM : MSt km th σ h) {a1 : Int} (h1a : -2147483648 ≤ a1) (h1b : a1 ≤ 2147483647) {a2 : Int} (h2a : -2147483648 ≤ a2) (h2b : a2 ≤ 2147483647) {a3 : Int} (h3a : 0 ≤ a3) (h3b : a3 ≤ 1) : dm_M l 155 8 0 0 [.ref 26, dI (a1), dI (a2), dI (a3)] h (QM9 kc km h (spSift σ a1 a2 a3)) := by
  obtain ⟨⟨ni, c26, ni0, ni1⟩, ⟨⟨R1, R2⟩, ⟨R3, R4⟩, ⟨R5, R6⟩, ⟨R7, R8⟩, ⟨R9, R10⟩, ⟨R11, R12⟩, R13⟩, ⟨th0, th1⟩, -⟩ := id hM
  have R14 : σ.2.2.2.2.2.1 = -1 ∨ (0 ≤ σ.2.2.2.2.2.1 ∧ σ.2.2.2.2.2.1 ≤ 9999 ∧ σ.2.2.2.2.2.1 % 100 ≤ σ.2.2.2.2.2.1 / 100) := R13
  refine dm_M_of dk_155 hl rfl (Nat.le_of_ble_eq_true rfl) ?_
  show dm_W (fun _ _ _ => True) (dm_P (QM9 kc km h (spSift σ a1 a2 a3)) 0 0) l 155 8 0 0 0 [some (.ref 26), some (dI (a1)), some (dI (a2)), some (dI (a3)), none, none, none] [] h 0 0
  refine di_aload_n rfl rfl ?_
  refine dr_iload_n rfl rfl ?_
  refine dr_stat rfl rfl rfl rfl (f_X8_isNoBook l hl hI (a0 := a1) (by omega) (by omega)) (by decide) (by decide) (by decide) (Nat.le_of_ble_eq_true rfl) kNP (kIP (fun y1 y1f y1a y1b => ?_))
  have y1g : 0 ≤ y1 ∧ y1 ≤ 1 ∧ (y1 = 0 → 0 ≤ a1 ∧ a1 ≤ 2) ∧ (y1 = 1 → a1 < 0 ∨ 2 < a1) := y1f
  clear y1f
  refine di_if_ne rfl rfl (by omega) (by omega) (fun c2 => ?_) (fun c2 => ?_)
  · skip
    refine di_const rfl ?_
    refine dr_goto rfl rfl ?_
    refine di_const rfl ?_
    refine dr_virt rfl rfl rfl rfl c26 (f_X8_start1 l hl hI hM (a2 := 1) (by omega) (by omega)) (by decide) (by decide) (by decide) (Nat.le_of_ble_eq_true rfl) kNQN (kNQ (fun h3 hI4 hF5 hM6 => ?_))
    have hF7 := FrM_tr FrM_rf hF5
    refine di_if_ne rfl rfl (by omega) (by omega) (fun _ => ?_) (fun c9 => by exfalso; omega)
    refine di_const rfl ?_
    exact dr_iret (ty := .int) rfl rfl rfl (by decide) (by decide) (QM_no (x := 0) hI4 hF7 hM6 (by omega) (by omega) (by omega) (by unfold spSift; (repeat' split) <;> first | rfl | (exfalso; omega) | (apply Prod.ext <;> first | rfl | (dsimp only; omega) | (apply Prod.ext <;> first | rfl | (dsimp only; omega)))))
  · skip
    refine dr_iload_n rfl rfl ?_
    refine dr_stat rfl rfl rfl rfl (f_X8_isNoBook l hl hI (a0 := a2) (by omega) (by omega)) (by decide) (by decide) (by decide) (Nat.le_of_ble_eq_true rfl) kNP (kIP (fun y8 y8f y8a y8b => ?_))
    have y8g : 0 ≤ y8 ∧ y8 ≤ 1 ∧ (y8 = 0 → 0 ≤ a2 ∧ a2 ≤ 2) ∧ (y8 = 1 → a2 < 0 ∨ 2 < a2) := y8f
    clear y8f
    refine di_if_eq rfl rfl (by omega) (by omega) (fun c10 => ?_) (fun c10 => ?_)
    · skip
      refine di_const rfl ?_
      refine di_const rfl ?_
      refine dr_virt rfl rfl rfl rfl c26 (f_X8_start0 l hl hI hM (a2 := 1) (by omega) (by omega)) (by decide) (by decide) (by decide) (Nat.le_of_ble_eq_true rfl) kNQN (kNQ (fun h11 hI12 hF13 hM14 => ?_))
      have hF15 := FrM_tr FrM_rf hF13
      refine di_if_ne rfl rfl (by omega) (by omega) (fun c9 => by exfalso; omega) (fun _ => ?_)
      refine di_aload_n rfl rfl ?_
      refine dr_iload_n rfl rfl ?_
      refine dr_iload_n rfl rfl ?_
      refine di_icmp_ne rfl rfl (by omega) (by omega) (by omega) (by omega) (fun c16 => ?_) (fun c16 => ?_)
      · skip
        refine di_const rfl ?_
        refine di_const rfl ?_
        obtain ⟨⟨ni17, ni17c, ni17a, ni17b⟩, -⟩ := id hM14
        refine dr_virt rfl rfl rfl rfl ni17c (f_X8_refuse0 l hl hI12 hM14 (a2 := 2) (by omega) (by omega)) (by decide) (by decide) (by decide) (Nat.le_of_ble_eq_true rfl) kNQN (kNQ (fun h18 hI19 hF20 hM21 => ?_))
        have hF22 := FrM_tr hF15 hF20
        refine di_if_eq rfl rfl (by omega) (by omega) (fun _ => ?_) (fun c9 => by exfalso; omega)
        obtain ⟨r23, q24, u25, w26, us27, er28, eq29, hu30, hw31, au32, aw33, hs34, as35, hr36, sa37, sb38⟩ := MSt_bk hM21 (k := a1) (by omega) (by omega)
        have hz39 : zF (σ.1 a1) = cv us27 a1 := zF_eq hr36
        have mr40 : isCR r23 := isCR_of er28 (by omega) (by omega)
        have mq41 : isNR q24 := isNR_of eq29 (by omega) (by omega)
        refine di_const rfl ?_
        refine di_istore (ls2 := [some (.ref 26), some (dI (a1)), some (dI (a2)), some (dI (a3)), some (dI (0)), none, none]) rfl rfl rfl ?_
        refine di_aload_n rfl rfl ?_
        obtain ⟨⟨ni42, ni42c, ni42a, ni42b⟩, -⟩ := id hM21
        refine dr_getf rfl ni42c rfl ?_
        refine dr_iload_n rfl rfl ?_
        refine di_iald rfl hs34 as35 (by omega) (by omega) (fun x43 x43f x43a x43b x43v => ?_)
        have x43w : cv us27 a1 = x43 := cv_eq x43v x43a x43b
        have x43g : 0 ≤ x43 ∧ x43 ≤ 8 := x43f
        refine di_const rfl ?_
        refine di_isub rfl ?_
        refine di_istore (ls2 := [some (.ref 26), some (dI (a1)), some (dI (a2)), some (dI (a3)), some (dI (0)), some (dI ((x43 - 1))), none]) rfl rfl rfl ?_
        have L51 : ∀ (n : Nat) (i44 : Int) (i45 : Int) (h46 : dm_H) (τ47 : St), (i45 + 1).toNat < n → 0 ≤ i44 → i44 ≤ 8 → -1 ≤ i45 → i45 ≤ 7 → i45 < zF (τ47.1 a1) → i44 + i45 ≤ 7 → Inv kc km h46 → FrM h h46 → MSt km 0 τ47 h46 → sfP σ τ47 a1 (sfB σ a2 a3) (cv u25) (cv us27 a1) i45 i44 → rwP h46 a1 u25 w26 (i45 + 1) → dm_W (fun _ _ _ => True) (dm_P (QM9 kc km h (spSift σ a1 a2 a3)) 0 0) l 155 8 0 0 60 [some (.ref 26), some (dI (a1)), some (dI (a2)), some (dI (a3)), some (dI (i44)), some (dI (i45)), none] [] h46 0 0 := by
          intro n
          induction n with
          | zero => intro i44 i45 h46 τ47 hm; exact absurd hm (Nat.not_lt_zero _)
          | succ n ih =>
            intro i44 i45 h46 τ47 hm52 hb53 hb54 hb55 hb56 hx57 hx58 hI48 hF49 hM50 PL PRw
            have ihL51 := ih
            clear ih
            obtain ⟨r59, q60, u61, w62, us63, er64, eq65, hu66, hw67, au68, aw69, hs70, as71, hr72, sa73, sb74⟩ := MSt_bk hM50 (k := a1) (by omega) (by omega)
            have hz75 : zF (τ47.1 a1) = cv us63 a1 := zF_eq hr72
            have mr76 : isCR r59 := isCR_of er64 (by omega) (by omega)
            have mq77 : isNR q60 := isNR_of eq65 (by omega) (by omega)
            have po9 : τ47.1 a2 = σ.1 a2 := sf_o PL (by omega)
            have pz9 := PL.2.1
            have ru9 : ∀ j : Int, 0 ≤ j → j < i45 + 1 → cv u61 j = cv u25 j := fun j j0 j1 => (PRw r59 q60 u61 w62 er64 eq65 hu66 hw67 j j0 j1).1
            refine dr_iload rfl rfl ?_
            refine di_if_lt rfl rfl (by omega) (by omega) (fun c78 => ?_) (fun c78 => ?_)
            · skip
              refine dr_iload rfl rfl ?_
              exact dr_iret (ty := .int) rfl rfl rfl (by decide) (by decide) (QM_ok hI48 hF49 hM50 (by omega) (by omega) (by unfold spSift s0; rw [if_neg (by omega), if_neg (by omega), sf_e PL (by omega) hr36]))
            · skip
              refine di_aload_n rfl rfl ?_
              refine dr_iload_n rfl rfl ?_
              refine di_aload_n rfl rfl ?_
              obtain ⟨⟨ni79, ni79c, ni79a, ni79b⟩, -⟩ := id hM50
              have sr80 : sR τ47 := hM50.2.1
              have sr81 : -1 ≤ τ47.2.1.1 ∧ τ47.2.1.1 ≤ 2 := sr80.1
              have sr82 : -1 ≤ τ47.2.1.2.1 ∧ τ47.2.1.2.1 ≤ 99 := sr80.2.1
              have sr83 : -1 ≤ τ47.2.1.2.2 ∧ τ47.2.1.2.2 ≤ 99 := sr80.2.2.1
              have sr84 : -1 ≤ τ47.2.2.1 ∧ τ47.2.2.1 ≤ 2 := sr80.2.2.2.1
              have sr85 : 0 ≤ τ47.2.2.2.1 ∧ τ47.2.2.2.1 ≤ 1 := sr80.2.2.2.2.1
              have sr86 : -1 ≤ τ47.2.2.2.2.1 ∧ τ47.2.2.2.2.1 ≤ 9999 := sr80.2.2.2.2.2.1
              have sr87 : τ47.2.2.2.2.2.1 = -1 ∨ okC τ47.2.2.2.2.2.1 := sr80.2.2.2.2.2.2
              have hc88 : h46[26]? = some (10, [.ref 27, .ref 31, .ref 35, dI 0, dI ni79, dI km, dI τ47.2.1.1, dI τ47.2.1.2.1, dI τ47.2.1.2.2, dI τ47.2.2.1, dI τ47.2.2.2.1, dI τ47.2.2.2.2.1, dI τ47.2.2.2.2.2.1]) := ni79c
              refine dr_getf rfl hc88 rfl ?_
              refine dr_iload_n rfl rfl ?_
              have hc89 := I_mcs hI48
              refine paaE (k0 := 28) er64 rfl hc89 (by omega) (by omega) ?_
              refine dr_iload rfl rfl ?_
              refine di_iald rfl hu66 au68 (by omega) (by omega) (fun x90 x90f x90a x90b x90v => ?_)
              have x90w : cv u61 i45 = x90 := cv_eq x90v x90a x90b
              have x90g : 0 ≤ x90 ∧ x90 ≤ 9999 ∧ x90 % 100 ≤ x90 / 100 := x90f
              obtain ⟨r91, q92, u93, w94, us95, er96, eq97, hu98, hw99, au100, aw101, hs102, as103, hr104, sa105, sb106⟩ := MSt_bk hM50 (k := a2) (by omega) (by omega)
              have hz107 : zF (τ47.1 a2) = cv us95 a2 := zF_eq hr104
              have mr108 : isCR r91 := isCR_of er96 (by omega) (by omega)
              have mq109 : isNR q92 := isNR_of eq97 (by omega) (by omega)
              refine dr_virt rfl rfl rfl rfl hc88 (n_X8_at l hl hI48 hM50 (a1 := a2) (by omega) (by omega) (a2 := x90) (by omega) (by omega) er96 eq97 hu98 hw99 au100 aw101 hs102 as103 hr104 sa105 sb106) (by decide) (by decide) (by decide) (Nat.le_of_ble_eq_true rfl) kNP (kIP (fun y110 y110f y110a y110b => ?_))
              obtain ⟨y110c, y110d, y110k⟩ := y110f
              refine di_if_lt rfl rfl (by omega) (by omega) (fun c111 => ?_) (fun c111 => ?_)
              · skip
                have hFn112 := rkp_n y110k (by omega)
                refine di_const rfl ?_
                refine di_istore (ls2 := [some (.ref 26), some (dI (a1)), some (dI (a2)), some (dI (a3)), some (dI (i44)), some (dI (i45)), some (dI (0))]) rfl rfl rfl ?_
                refine dr_iload rfl rfl ?_
                refine dr_iload_n rfl rfl ?_
                refine di_icmp_ne rfl rfl (by omega) (by omega) (by omega) (by omega) (fun c113 => ?_) (fun c113 => ?_)
                · skip
                  refine di_aload_n rfl rfl ?_
                  refine dr_iload_n rfl rfl ?_
                  refine dr_iload rfl rfl ?_
                  have zd114 : zF (up (τ47.1 a1) x90 (-1)) = cv us63 a1 - 1 := zF_eq (by have q9 := Rep_del hr72 (r := i45) (by omega) (by omega); rw [x90w] at q9; exact q9)
                  have zq115 : zF ((stM τ47 a1 (up (τ47.1 a1) x90 (-1))).1 a1) = cv us63 a1 - 1 := by rw [stM_1]; exact zd114
                  refine dr_virt rfl rfl rfl rfl hc88 (nx_X8_go l hl hI48 hM50 (a1 := a1) (by omega) (by omega) (a2 := i45) (by omega) (by omega) er64 eq65 hu66 hw67 au68 aw69 hs70 as71 hr72 sa73 sb74 (c := x90) (by omega) x90w) (by decide) (by decide) (by decide) (Nat.le_of_ble_eq_true rfl) kNFVN (kNFV (fun h116 hI117 hF118 hM119 hX120 hT121 => ?_))
                  have hF122 := FrM_tr hF49 hF118
                  refine di_iinc (ls2 := [some (.ref 26), some (dI (a1)), some (dI (a2)), some (dI (a3)), some (dI ((i44 + 1))), some (dI (i45)), some (dI (0))]) rfl rfl rfl rfl ?_
                  refine di_iinc (ls2 := [some (.ref 26), some (dI (a1)), some (dI (a2)), some (dI (a3)), some (dI ((i44 + 1))), some (dI ((i45 + (-1)))), some (dI (0))]) rfl rfl rfl rfl ?_
                  refine dr_goto rfl rfl ?_
                  refine dm_wk (ls2 := [some (.ref 26), some (dI (a1)), some (dI (a2)), some (dI (a3)), some (dI ((i44 + 1))), some (dI ((i45 + (-1)))), none]) ⟨Or.inr rfl, Or.inr rfl, Or.inr rfl, Or.inr rfl, Or.inr rfl, Or.inr rfl, Or.inl rfl, trivial⟩ ?_
                  exact ihL51 ((i44 + 1)) ((i45 + (-1)))  h116 (stM τ47 a1 (up (τ47.1 a1) x90 (-1))) (by omega) (by omega) (by omega) (by omega) (by omega) (by omega) (by omega) hI117 hF122 hM119 (sf_r PL ((ru9 i45 (by omega) (by omega)).symm.trans x90w) (sfB_t po9 (by omega)) (by omega) (by omega) (by omega)) ((rw_go PRw (by omega) er64 eq65 hu66 hw67 hT121 : rwP _ _ _ _ i45) |> fun q9 => (by rw [show (i45 + (-1)) + 1 = i45 by omega]; exact q9))
                · skip
                  refine dr_goto rfl rfl ?_
                  refine di_iinc (ls2 := [some (.ref 26), some (dI (a1)), some (dI (a2)), some (dI (a3)), some (dI (i44)), some (dI ((i45 + (-1)))), some (dI (0))]) rfl rfl rfl rfl ?_
                  refine dr_goto rfl rfl ?_
                  refine dm_wk (ls2 := [some (.ref 26), some (dI (a1)), some (dI (a2)), some (dI (a3)), some (dI (i44)), some (dI ((i45 + (-1)))), none]) ⟨Or.inr rfl, Or.inr rfl, Or.inr rfl, Or.inr rfl, Or.inr rfl, Or.inr rfl, Or.inl rfl, trivial⟩ ?_
                  exact ihL51 (i44) ((i45 + (-1)))  h46 τ47 (by omega) (by omega) (by omega) (by omega) (by omega) (by omega) (by omega) hI48 hF49 hM50 (sf_k PL ((ru9 i45 (by omega) (by omega)).symm.trans x90w) (sfB_f po9 (by omega))) ((by rw [show (i45 + (-1)) + 1 = i45 by omega]; exact rw_kp PRw))
              · skip
                have hFy124 := rkp_y hr104 y110k (by omega)
                have hri123 := rkp_in y110k (by omega)
                refine di_const rfl ?_
                refine dr_goto rfl rfl ?_
                refine di_istore (ls2 := [some (.ref 26), some (dI (a1)), some (dI (a2)), some (dI (a3)), some (dI (i44)), some (dI (i45)), some (dI (1))]) rfl rfl rfl ?_
                refine dr_iload rfl rfl ?_
                refine dr_iload_n rfl rfl ?_
                refine di_icmp_ne rfl rfl (by omega) (by omega) (by omega) (by omega) (fun c125 => ?_) (fun c125 => ?_)
                · skip
                  refine di_aload_n rfl rfl ?_
                  refine dr_iload_n rfl rfl ?_
                  refine dr_iload rfl rfl ?_
                  have zd126 : zF (up (τ47.1 a1) x90 (-1)) = cv us63 a1 - 1 := zF_eq (by have q9 := Rep_del hr72 (r := i45) (by omega) (by omega); rw [x90w] at q9; exact q9)
                  have zq127 : zF ((stM τ47 a1 (up (τ47.1 a1) x90 (-1))).1 a1) = cv us63 a1 - 1 := by rw [stM_1]; exact zd126
                  refine dr_virt rfl rfl rfl rfl hc88 (nx_X8_go l hl hI48 hM50 (a1 := a1) (by omega) (by omega) (a2 := i45) (by omega) (by omega) er64 eq65 hu66 hw67 au68 aw69 hs70 as71 hr72 sa73 sb74 (c := x90) (by omega) x90w) (by decide) (by decide) (by decide) (Nat.le_of_ble_eq_true rfl) kNFVN (kNFV (fun h128 hI129 hF130 hM131 hX132 hT133 => ?_))
                  have hF134 := FrM_tr hF49 hF130
                  refine di_iinc (ls2 := [some (.ref 26), some (dI (a1)), some (dI (a2)), some (dI (a3)), some (dI ((i44 + 1))), some (dI (i45)), some (dI (1))]) rfl rfl rfl rfl ?_
                  refine di_iinc (ls2 := [some (.ref 26), some (dI (a1)), some (dI (a2)), some (dI (a3)), some (dI ((i44 + 1))), some (dI ((i45 + (-1)))), some (dI (1))]) rfl rfl rfl rfl ?_
                  refine dr_goto rfl rfl ?_
                  refine dm_wk (ls2 := [some (.ref 26), some (dI (a1)), some (dI (a2)), some (dI (a3)), some (dI ((i44 + 1))), some (dI ((i45 + (-1)))), none]) ⟨Or.inr rfl, Or.inr rfl, Or.inr rfl, Or.inr rfl, Or.inr rfl, Or.inr rfl, Or.inl rfl, trivial⟩ ?_
                  exact ihL51 ((i44 + 1)) ((i45 + (-1)))  h128 (stM τ47 a1 (up (τ47.1 a1) x90 (-1))) (by omega) (by omega) (by omega) (by omega) (by omega) (by omega) (by omega) hI129 hF134 hM131 (sf_r PL ((ru9 i45 (by omega) (by omega)).symm.trans x90w) (sfB_t po9 (by omega)) (by omega) (by omega) (by omega)) ((rw_go PRw (by omega) er64 eq65 hu66 hw67 hT133 : rwP _ _ _ _ i45) |> fun q9 => (by rw [show (i45 + (-1)) + 1 = i45 by omega]; exact q9))
                · skip
                  refine dr_goto rfl rfl ?_
                  refine di_iinc (ls2 := [some (.ref 26), some (dI (a1)), some (dI (a2)), some (dI (a3)), some (dI (i44)), some (dI ((i45 + (-1)))), some (dI (1))]) rfl rfl rfl rfl ?_
                  refine dr_goto rfl rfl ?_
                  refine dm_wk (ls2 := [some (.ref 26), some (dI (a1)), some (dI (a2)), some (dI (a3)), some (dI (i44)), some (dI ((i45 + (-1)))), none]) ⟨Or.inr rfl, Or.inr rfl, Or.inr rfl, Or.inr rfl, Or.inr rfl, Or.inr rfl, Or.inl rfl, trivial⟩ ?_
                  exact ihL51 (i44) ((i45 + (-1)))  h46 τ47 (by omega) (by omega) (by omega) (by omega) (by omega) (by omega) (by omega) hI48 hF49 hM50 (sf_k PL ((ru9 i45 (by omega) (by omega)).symm.trans x90w) (sfB_f po9 (by omega))) ((by rw [show (i45 + (-1)) + 1 = i45 by omega]; exact rw_kp PRw))
        exact L51 _ (0) ((x43 - 1))  h18 σ (Nat.lt_succ_self _) (by omega) (by omega) (by omega) (by omega) (by omega) (by omega) hI19 hF22 hM21 (by have q9 := sf_0 (bad := sfB σ a2 a3) (f := cv u25) (show zF (σ.1 a1) = cv us27 a1 by omega); rw [show cv us27 a1 - 1 = (x43 - 1) by omega] at q9; exact q9) (rw_0 er28 eq29 hu30 hw31)
      · skip
        refine di_const rfl ?_
        refine dr_goto rfl rfl ?_
        refine di_const rfl ?_
        obtain ⟨⟨ni135, ni135c, ni135a, ni135b⟩, -⟩ := id hM14
        refine dr_virt rfl rfl rfl rfl ni135c (f_X8_refuse1 l hl hI12 hM14 (a2 := 2) (by omega) (by omega)) (by decide) (by decide) (by decide) (Nat.le_of_ble_eq_true rfl) kNQN (kNQ (fun h136 hI137 hF138 hM139 => ?_))
        have hF140 := FrM_tr hF15 hF138
        refine di_if_eq rfl rfl (by omega) (by omega) (fun c9 => by exfalso; omega) (fun _ => ?_)
        refine di_const rfl ?_
        exact dr_iret (ty := .int) rfl rfl rfl (by decide) (by decide) (QM_no (x := 0) hI137 hF140 hM139 (by omega) (by omega) (by omega) (by unfold spSift; (repeat' split) <;> first | rfl | (exfalso; omega) | (apply Prod.ext <;> first | rfl | (dsimp only; omega) | (apply Prod.ext <;> first | rfl | (dsimp only; omega)))))
    · skip
      refine di_const rfl ?_
      refine dr_goto rfl rfl ?_
      refine di_const rfl ?_
      refine dr_virt rfl rfl rfl rfl c26 (f_X8_start1 l hl hI hM (a2 := 1) (by omega) (by omega)) (by decide) (by decide) (by decide) (Nat.le_of_ble_eq_true rfl) kNQN (kNQ (fun h141 hI142 hF143 hM144 => ?_))
      have hF145 := FrM_tr FrM_rf hF143
      refine di_if_ne rfl rfl (by omega) (by omega) (fun _ => ?_) (fun c9 => by exfalso; omega)
      refine di_const rfl ?_
      exact dr_iret (ty := .int) rfl rfl rfl (by decide) (by decide) (QM_no (x := 0) hI142 hF145 hM144 (by omega) (by omega) (by omega) (by unfold spSift; (repeat' split) <;> first | rfl | (exfalso; omega) | (apply Prod.ext <;> first | rfl | (dsimp only; omega) | (apply Prod.ext <;> first | rfl | (dsimp only; omega)))))
/-! ===== pour ===== -/
def mP (σ : St) (b : Int) : Int → Bool := fun c => decide (σ.1 b c = -1)
def poP (σ τ : St) (b : Int) (f g : Int → Int) (i : Int) : Prop := (∀ j : Int, 0 ≤ j → j < i → τ.1 b (f j) = g j) ∧ (∀ c : Int, (∀ j : Int, 0 ≤ j → j < i → f j ≠ c) → τ.1 b c = σ.1 b c) ∧ zF (τ.1 b) = zF (σ.1 b) + cnt f (mP σ b) i.toNat ∧ ((cnt f (mP σ b) i.toNat = 0 ∧ τ = stN σ b (τ.1 b)) ∨ (0 < cnt f (mP σ b) i.toNat ∧ τ = stM σ b (τ.1 b)))
theorem stN_1 {σ : St} {k : Int} {F : Int → Int} : (stN σ k F).1 k = F := if_pos rfl
theorem shN_N {σ τ : St} {b : Int} {F : Int → Int} (h : τ = stN σ b (τ.1 b)) : stN τ b F = stN σ b F := by rw [h]; exact stN_N
theorem shN_M {σ τ : St} {b : Int} {F : Int → Int} (h : τ = stM σ b (τ.1 b)) : stN τ b F = stM σ b F := by rw [h]; exact stN_M
theorem shM_N {σ τ : St} {b : Int} {F : Int → Int} (h : τ = stN σ b (τ.1 b)) : stM τ b F = stM σ b F := by rw [h]; exact stM_N
theorem shM_M {σ τ : St} {b : Int} {F : Int → Int} (h : τ = stM σ b (τ.1 b)) : stM τ b F = stM σ b F := by rw [h]; exact stM_M
section PO
variable {σ τ : St} {b o i s : Int} {f g : Int → Int}
theorem po_0 : poP σ σ b f g 0 := ⟨fun j a c => by omega, fun _ _ => rfl, by show _ = _ + 0; omega, Or.inl ⟨rfl, stN_id.symm⟩⟩
theorem po_nw (h : poP σ τ b f g i) (hr : Rep f g s (σ.1 o)) (h0 : 0 ≤ i) (h1 : i < s) : τ.1 b (f i) = σ.1 b (f i) := h.2.1 _ (fun j a c e => by
  have := Rep_inj hr a (by omega) h0 h1 e
  omega)
theorem po_st {σ' : St} {c x : Int} (h : poP σ τ b f g i) (hr : Rep f g s (σ.1 o)) (h0 : 0 ≤ i) (h1 : i < s) (ec : f i = c) (ex : g i = x) (e : σ'.1 b = up (τ.1 b) c x) : (∀ j : Int, 0 ≤ j → j < i + 1 → σ'.1 b (f j) = g j) ∧ (∀ c : Int, (∀ j : Int, 0 ≤ j → j < i + 1 → f j ≠ c) → σ'.1 b c = σ.1 b c) := by
  rw [e]
  refine ⟨fun j j0 j1 => ?_, fun c' hc => ?_⟩
  · by_cases q : j = i
    · rw [q, ec, up_s, ex]
    · rw [up_n (fun e2 => q (Rep_inj hr j0 (by omega) h0 h1 (e2.trans ec.symm)))]
      exact h.1 j j0 (by omega)
  · rw [up_n (fun e2 => hc i h0 (by omega) (ec.trans e2.symm))]
    exact h.2.1 c' (fun j j0 j1 => hc j j0 (by omega))
theorem po_s {c x : Int} {fb gb : Int → Int} {sb : Int} (h : poP σ τ b f g i) (hr : Rep f g s (σ.1 o)) (h0 : 0 ≤ i) (h1 : i < s) (ec : f i = c) (ex : g i = x) (hrb : Rep fb gb sb (τ.1 b)) (hroom : τ.1 b c = -1 → zF (τ.1 b) < 8) : poP σ (sPut τ b c x).2 b f g (i + 1) := by
  have hn := po_nw h hr h0 h1
  rw [ec] at hn
  have ha := Rep_at hr h0 h1
  rw [ec, ex] at ha
  obtain ⟨h3, h4⟩ := h.2.2
  have hzb := zF_eq hrb
  rcases sPut_cs τ b c x with ⟨q, e⟩ | ⟨q, q2, e⟩ | ⟨q, q2, e⟩
  · rw [e]
    have hp : mP σ b (f i) = false := by rw [ec]; exact decide_eq_false (by omega)
    have hc : cnt f (mP σ b) (i + 1).toNat = cnt f (mP σ b) i.toNat := by rw [cnt_st h0, hp, if_neg (by decide)]; omega
    obtain ⟨j, j0, j1, je⟩ := Rep_ex hrb q
    have hz2 : zF (up (τ.1 b) c x) = sb := by rw [← je]; exact zF_eq (Rep_note hrb j0 j1 ha.2.1.1 ha.2.1.2)
    obtain ⟨p1, p2⟩ := po_st (σ' := stN τ b (up (τ.1 b) c x)) h hr h0 h1 ec ex stN_1
    refine ⟨p1, p2, ?_, ?_⟩
    · show zF ((stN τ b (up (τ.1 b) c x)).1 b) = _
      rw [stN_1, hc, hz2]; omega
    · rw [hc]
      show (_ ∧ stN τ b (up (τ.1 b) c x) = stN σ b ((stN τ b (up (τ.1 b) c x)).1 b)) ∨ (_ ∧ stN τ b (up (τ.1 b) c x) = stM σ b ((stN τ b (up (τ.1 b) c x)).1 b))
      rw [stN_1]
      exact h4.elim (fun q => Or.inl ⟨q.1, shN_N q.2⟩) (fun q => Or.inr ⟨q.1, shN_M q.2⟩)
  · rw [e]
    have hp : mP σ b (f i) = true := by rw [ec]; exact decide_eq_true (by omega)
    have hb := (cnt_b f (mP σ b) i.toNat).1
    have hc : cnt f (mP σ b) (i + 1).toNat = cnt f (mP σ b) i.toNat + 1 := by rw [cnt_st h0, hp, if_pos rfl]
    have hz2 : zF (up (τ.1 b) c x) = sb + 1 := zF_eq (Rep_ins hrb (r := sb) (Rep_s0 hrb) (Int.le_refl _) q ha.1.1 ha.1.2 ha.2.1.1 ha.2.1.2)
    obtain ⟨p1, p2⟩ := po_st (σ' := stM τ b (up (τ.1 b) c x)) h hr h0 h1 ec ex stM_1
    refine ⟨p1, p2, ?_, ?_⟩
    · show zF ((stM τ b (up (τ.1 b) c x)).1 b) = _
      rw [stM_1, hc, hz2]; omega
    · rw [hc]
      show (_ ∧ stM τ b (up (τ.1 b) c x) = stN σ b ((stM τ b (up (τ.1 b) c x)).1 b)) ∨ (_ ∧ stM τ b (up (τ.1 b) c x) = stM σ b ((stM τ b (up (τ.1 b) c x)).1 b))
      rw [stM_1]
      exact h4.elim (fun q => Or.inr ⟨by omega, shM_N q.2⟩) (fun q => Or.inr ⟨by omega, shM_M q.2⟩)
  · exact absurd (hroom q) q2
theorem po_r {c : Int} (h : poP σ τ b f g i) (hr : Rep f g s (σ.1 o)) (h0 : 0 ≤ i) (h1 : i < s) (ec : f i = c) (hN : zF (σ.1 b) + cnt f (mP σ b) s.toNat ≤ 8) (q : τ.1 b c = -1) : zF (τ.1 b) < 8 := by
  have hn := po_nw h hr h0 h1
  rw [ec] at hn
  have hp : mP σ b (f i) = true := by rw [ec]; exact decide_eq_true (by omega)
  have hc : cnt f (mP σ b) (i + 1).toNat = cnt f (mP σ b) i.toNat + 1 := by rw [cnt_st h0, hp, if_pos rfl]
  have hl := cnt_le2 (f := f) (P := mP σ b) (i := i + 1) (s := s) (by omega) (by omega)
  have := h.2.2.1
  omega
theorem po_z (h : poP σ τ b f g i) (hr : Rep f g s (σ.1 o)) (h1 : i ≤ s) : zF (τ.1 o) = s := by
  by_cases e : o = b
  · subst e
    have hz := zF_eq hr
    have : cnt f (mP σ o) i.toNat = 0 := cnt_no _ (fun j j0 j1 => decide_eq_false (Rep_yes hr (j := j) j0 (by omega) rfl).2.1)
    rw [h.2.2.1, hz, this]; omega
  · have : τ.1 o = σ.1 o := by
      rcases h.2.2.2 with ⟨-, q⟩ | ⟨-, q⟩
      · rw [q]; exact stN_o e
      · rw [q]; exact stM_o e
    rw [this]; exact zF_eq hr
theorem po_e {n : Int} (h : poP σ τ b f g i) (hr : Rep f g s (σ.1 o)) (hi : i = s) (hn : n = cnt f (mP σ b) s.toNat) (h8 : ¬ 8 < zF (σ.1 b) + n) : sPour σ b o n = (n, τ) := by
  subst hi
  obtain ⟨h1, h2, -, h4⟩ := h
  have e : τ.1 b = mrg (σ.1 o) (σ.1 b) := funext fun c => by
    unfold mrg
    by_cases q : σ.1 o c ≠ -1
    · rw [if_pos q]
      obtain ⟨j, j0, j1, je⟩ := Rep_ex hr q
      rw [← je, h1 j j0 j1, (Rep_at hr j0 j1).2.2]
    · rw [if_neg q]
      exact h2 c (fun j j0 j1 je => q (Rep_yes hr j0 j1 je).2.1)
  unfold sPour
  rw [if_neg h8, ← e]
  rcases h4 with ⟨q1, q2⟩ | ⟨q1, q2⟩
  · rw [if_pos (by omega), ← q2]
    rw [show n = 0 by omega]
  · rw [if_neg (by omega), ← q2]
end PO
theorem rw_put {h h' : dm_H} {o b i : Int} {u w u1 w1 : List Value} {rb qb : Nat} (h0 : rwP h o u w i) (o0 : 0 ≤ o) (o2 : o ≤ 2) (b0 : 0 ≤ b) (b2 : b ≤ 2) (er : (rb : Int) = (28 : Nat) + b) (eq : (qb : Int) = (32 : Nat) + b) (hu : h[rb]? = some (20, u1)) (hw : h[qb]? = some (20, w1)) (f : FrX rb qb h h') (hg : o = b → h'[rb]? = some (20, u1) ∧ ∃ w' : List Value, h'[qb]? = some (20, w') ∧ ∀ j : Int, 0 ≤ j → cv w' j = cv w1 j) : rwP h' o u w i := by
  by_cases e : o = b
  · subst e
    obtain ⟨g1, w9, g2, g3⟩ := hg rfl
    exact rw_go h0 (Int.le_refl _) er eq hu hw ⟨u1, w9, g1, g2, fun j j0 _ => ⟨rfl, g3 j j0⟩⟩
  · exact rw_fr h0 o0 o2 b0 b2 er eq e f

set_option maxHeartbeats 4000000 in
set_option maxRecDepth 100000 in
/-- EarlyendsModel.pour -/
theorem n_X8_pour (l : Launch) (hl : l.stackTraces = false) {kc km : Int} {h : dm_H} (hI : Inv kc km h) {th : Int} {σ : St} (hM : MSt km th σ h) {a1 : Int} (h1a : -2147483648 ≤ a1) (h1b : a1 ≤ 2147483647) {a2 : Int} (h2a : -2147483648 ≤ a2) (h2b : a2 ≤ 2147483647) : dm_M l 153 8 0 0 [.ref 26, dI (a1), dI (a2)] h (QM9 kc km h (spPour σ a1 a2)) := by
  obtain ⟨⟨ni, c26, ni0, ni1⟩, ⟨⟨R1, R2⟩, ⟨R3, R4⟩, ⟨R5, R6⟩, ⟨R7, R8⟩, ⟨R9, R10⟩, ⟨R11, R12⟩, R13⟩, ⟨th0, th1⟩, -⟩ := id hM
  clear R13
  refine dm_M_of dk_153 hl rfl (Nat.le_of_ble_eq_true rfl) ?_
  show dm_W (fun _ _ _ => True) (dm_P (QM9 kc km h (spPour σ a1 a2)) 0 0) l 153 8 0 0 0 [some (.ref 26), some (dI (a1)), some (dI (a2)), none, none] [] h 0 0
  refine di_aload_n rfl rfl ?_
  refine dr_iload_n rfl rfl ?_
  refine dr_stat rfl rfl rfl rfl (f_X8_isNoBook l hl hI (a0 := a1) (by omega) (by omega)) (by decide) (by decide) (by decide) (Nat.le_of_ble_eq_true rfl) kNP (kIP (fun y1 y1f y1a y1b => ?_))
  have y1g : 0 ≤ y1 ∧ y1 ≤ 1 ∧ (y1 = 0 → 0 ≤ a1 ∧ a1 ≤ 2) ∧ (y1 = 1 → a1 < 0 ∨ 2 < a1) := y1f
  clear y1f
  refine di_if_ne rfl rfl (by omega) (by omega) (fun c2 => ?_) (fun c2 => ?_)
  · skip
    refine di_const rfl ?_
    refine dr_goto rfl rfl ?_
    refine di_const rfl ?_
    refine dr_virt rfl rfl rfl rfl c26 (f_X8_start1 l hl hI hM (a2 := 1) (by omega) (by omega)) (by decide) (by decide) (by decide) (Nat.le_of_ble_eq_true rfl) kNQN (kNQ (fun h3 hI4 hF5 hM6 => ?_))
    have hF7 := FrM_tr FrM_rf hF5
    refine di_if_eq rfl rfl (by omega) (by omega) (fun c9 => by exfalso; omega) (fun _ => ?_)
    refine di_const rfl ?_
    exact dr_iret (ty := .int) rfl rfl rfl (by decide) (by decide) (QM_no (x := 0) hI4 hF7 hM6 (by omega) (by omega) (by omega) (by unfold spPour; (repeat' split) <;> first | rfl | (exfalso; omega) | (apply Prod.ext <;> first | rfl | (dsimp only; omega) | (apply Prod.ext <;> first | rfl | (dsimp only; omega)))))
  · skip
    refine dr_iload_n rfl rfl ?_
    refine dr_stat rfl rfl rfl rfl (f_X8_isNoBook l hl hI (a0 := a2) (by omega) (by omega)) (by decide) (by decide) (by decide) (Nat.le_of_ble_eq_true rfl) kNP (kIP (fun y8 y8f y8a y8b => ?_))
    have y8g : 0 ≤ y8 ∧ y8 ≤ 1 ∧ (y8 = 0 → 0 ≤ a2 ∧ a2 ≤ 2) ∧ (y8 = 1 → a2 < 0 ∨ 2 < a2) := y8f
    clear y8f
    refine di_if_eq rfl rfl (by omega) (by omega) (fun c10 => ?_) (fun c10 => ?_)
    · skip
      refine di_const rfl ?_
      refine di_const rfl ?_
      refine dr_virt rfl rfl rfl rfl c26 (f_X8_start0 l hl hI hM (a2 := 1) (by omega) (by omega)) (by decide) (by decide) (by decide) (Nat.le_of_ble_eq_true rfl) kNQN (kNQ (fun h11 hI12 hF13 hM14 => ?_))
      have hF15 := FrM_tr FrM_rf hF13
      refine di_if_eq rfl rfl (by omega) (by omega) (fun _ => ?_) (fun c9 => by exfalso; omega)
      have qb1 : 0 ≤ a1 ∧ a1 ≤ 2 := by omega
      have qb2 : 0 ≤ a2 ∧ a2 ≤ 2 := by omega
      clear y1g y8g c2 c10 h1a h1b h2a h2b
      have h1a : -2147483648 ≤ a1 := by omega
      have h1b : a1 ≤ 2147483647 := by omega
      have h2a : -2147483648 ≤ a2 := by omega
      have h2b : a2 ≤ 2147483647 := by omega
      obtain ⟨r16, q17, u18, w19, us20, er21, eq22, hu23, hw24, au25, aw26, hs27, as28, hr29, sa30, sb31⟩ := MSt_bk hM14 (k := a1) (by omega) (by omega)
      have hz32 : zF (σ.1 a1) = cv us20 a1 := zF_eq hr29
      have mr33 : isCR r16 := isCR_of er21 (by omega) (by omega)
      have mq34 : isNR q17 := isNR_of eq22 (by omega) (by omega)
      obtain ⟨r35, q36, u37, w38, us39, er40, eq41, hu42, hw43, au44, aw45, hs46, as47, hr48, sa49, sb50⟩ := MSt_bk hM14 (k := a2) (by omega) (by omega)
      have es51 := some20 hs27 hs46
      subst es51
      have hz52 : zF (σ.1 a2) = cv us20 a2 := zF_eq hr48
      have mr53 : isCR r35 := isCR_of er40 (by omega) (by omega)
      have mq54 : isNR q36 := isNR_of eq41 (by omega) (by omega)
      refine di_const rfl ?_
      refine di_istore_n (ls2 := [some (.ref 26), some (dI (a1)), some (dI (a2)), some (dI (0)), none]) rfl rfl rfl ?_
      refine di_const rfl ?_
      refine di_istore (ls2 := [some (.ref 26), some (dI (a1)), some (dI (a2)), some (dI (0)), some (dI (0))]) rfl rfl rfl ?_
      have L57 : ∀ (n : Nat) (i55 : Int) (i56 : Int), (8 - i56).toNat < n → 0 ≤ i55 → i55 ≤ 8 → 0 ≤ i56 → i56 ≤ 8 → i56 ≤ cv us20 a2 → i55 ≤ i56 → cnP i55 (cv u37) (mP σ a1) i56 → dm_W (fun _ _ _ => True) (dm_P (QM9 kc km h (spPour σ a1 a2)) 0 0) l 153 8 0 0 34 [some (.ref 26), some (dI (a1)), some (dI (a2)), some (dI (i55)), some (dI (i56))] [] h11 0 0 := by
        intro n
        induction n with
        | zero => intro i55 i56 hm; exact absurd hm (Nat.not_lt_zero _)
        | succ n ih =>
          intro i55 i56 hm64 hb58 hb59 hb60 hb61 hx62 hx63 PC
          have ihL57 := ih
          clear ih
          refine dr_iload rfl rfl ?_
          refine di_aload_n rfl rfl ?_
          obtain ⟨⟨ni65, ni65c, ni65a, ni65b⟩, -⟩ := id hM14
          refine dr_getf rfl ni65c rfl ?_
          refine dr_iload_n rfl rfl ?_
          refine di_iald rfl hs46 as47 (by omega) (by omega) (fun x66 x66f x66a x66b x66v => ?_)
          have x66w : cv us20 a2 = x66 := cv_eq x66v x66a x66b
          have x66g : 0 ≤ x66 ∧ x66 ≤ 8 := x66f
          refine di_icmp_ge rfl rfl (by omega) (by omega) (by omega) (by omega) (fun c67 => ?_) (fun c67 => ?_)
          · skip
            have hn9 : i55 = cnt (cv u37) (mP σ a1) (cv us20 a2).toNat := by have q9 : i55 = cnt (cv u37) (mP σ a1) (i56).toNat := PC; rw [show i56 = cv us20 a2 by omega] at q9; exact q9
            have hm9 : nF (σ.1 a2) (fun c => decide (σ.1 a1 c = -1)) = i55 := (nF_eq _ hr48).trans hn9.symm
            refine di_aload_n rfl rfl ?_
            refine dr_getf rfl ni65c rfl ?_
            refine dr_iload_n rfl rfl ?_
            refine di_iald rfl hs46 as47 (by omega) (by omega) (fun x68 x68f x68a x68b x68v => ?_)
            have x68w : cv us20 a1 = x68 := cv_eq x68v x68a x68b
            have x68g : 0 ≤ x68 ∧ x68 ≤ 8 := x68f
            refine dr_iload_n rfl rfl ?_
            refine di_iadd rfl ?_
            refine di_bipush rfl (by decide) ?_
            refine di_icmp_le rfl rfl (by omega) (by omega) (by omega) (by omega) (fun c69 => ?_) (fun c69 => ?_)
            · skip
              refine di_const rfl ?_
              refine di_istore (ls2 := [some (.ref 26), some (dI (a1)), some (dI (a2)), some (dI (i55)), some (dI (0))]) rfl rfl rfl ?_
              have L76 : ∀ (n : Nat) (i70 : Int) (h71 : dm_H) (τ72 : St), (8 - i70).toNat < n → 0 ≤ i70 → i70 ≤ 8 → i70 ≤ cv us20 a2 → Inv kc km h71 → FrM h h71 → MSt km 0 τ72 h71 → poP σ τ72 a1 (cv u37) (cv w38) i70 → rwP h71 a2 u37 w38 (cv us20 a2) → dm_W (fun _ _ _ => True) (dm_P (QM9 kc km h (spPour σ a1 a2)) 0 0) l 153 8 0 0 92 [some (.ref 26), some (dI (a1)), some (dI (a2)), some (dI (i55)), some (dI (i70))] [] h71 0 0 := by
                intro n
                induction n with
                | zero => intro i70 h71 τ72 hm; exact absurd hm (Nat.not_lt_zero _)
                | succ n ih =>
                  intro i70 h71 τ72 hm77 hb78 hb79 hx80 hI73 hF74 hM75 PL PRw
                  have ihL76 := ih
                  clear ih
                  obtain ⟨r81, q82, u83, w84, us85, er86, eq87, hu88, hw89, au90, aw91, hs92, as93, hr94, sa95, sb96⟩ := MSt_bk hM75 (k := a2) (by omega) (by omega)
                  have hz97 : zF (τ72.1 a2) = cv us85 a2 := zF_eq hr94
                  have mr98 : isCR r81 := isCR_of er86 (by omega) (by omega)
                  have mq99 : isNR q82 := isNR_of eq87 (by omega) (by omega)
                  obtain ⟨r100, q101, u102, w103, us104, er105, eq106, hu107, hw108, au109, aw110, hs111, as112, hr113, sa114, sb115⟩ := MSt_bk hM75 (k := a1) (by omega) (by omega)
                  have es116 := some20 hs92 hs111
                  subst es116
                  have hz117 : zF (τ72.1 a1) = cv us85 a1 := zF_eq hr113
                  have mr118 : isCR r100 := isCR_of er105 (by omega) (by omega)
                  have mq119 : isNR q101 := isNR_of eq106 (by omega) (by omega)
                  have pz9 : zF (τ72.1 a2) = cv us20 a2 := po_z PL hr48 (by omega)
                  have ru9 : ∀ j : Int, 0 ≤ j → j < cv us20 a2 → cv u83 j = cv u37 j ∧ cv w84 j = cv w38 j := fun j j0 j1 => PRw r81 q82 u83 w84 er86 eq87 hu88 hw89 j j0 j1
                  refine dr_iload rfl rfl ?_
                  refine di_aload_n rfl rfl ?_
                  obtain ⟨⟨ni120, ni120c, ni120a, ni120b⟩, -⟩ := id hM75
                  have sr121 : sR τ72 := hM75.2.1
                  have sr122 : -1 ≤ τ72.2.1.1 ∧ τ72.2.1.1 ≤ 2 := sr121.1
                  have sr123 : -1 ≤ τ72.2.1.2.1 ∧ τ72.2.1.2.1 ≤ 99 := sr121.2.1
                  have sr124 : -1 ≤ τ72.2.1.2.2 ∧ τ72.2.1.2.2 ≤ 99 := sr121.2.2.1
                  have sr125 : -1 ≤ τ72.2.2.1 ∧ τ72.2.2.1 ≤ 2 := sr121.2.2.2.1
                  have sr126 : 0 ≤ τ72.2.2.2.1 ∧ τ72.2.2.2.1 ≤ 1 := sr121.2.2.2.2.1
                  have sr127 : -1 ≤ τ72.2.2.2.2.1 ∧ τ72.2.2.2.2.1 ≤ 9999 := sr121.2.2.2.2.2.1
                  skip
                  have hc129 : h71[26]? = some (10, [.ref 27, .ref 31, .ref 35, dI 0, dI ni120, dI km, dI τ72.2.1.1, dI τ72.2.1.2.1, dI τ72.2.1.2.2, dI τ72.2.2.1, dI τ72.2.2.2.1, dI τ72.2.2.2.2.1, dI τ72.2.2.2.2.2.1]) := ni120c
                  refine dr_getf rfl hc129 rfl ?_
                  refine dr_iload_n rfl rfl ?_
                  refine di_iald rfl hs111 as112 (by omega) (by omega) (fun x130 x130f x130a x130b x130v => ?_)
                  have x130w : cv us85 a2 = x130 := cv_eq x130v x130a x130b
                  have x130g : 0 ≤ x130 ∧ x130 ≤ 8 := x130f
                  refine di_icmp_ge rfl rfl (by omega) (by omega) (by omega) (by omega) (fun c131 => ?_) (fun c131 => ?_)
                  · skip
                    refine dr_iload_n rfl rfl ?_
                    exact dr_iret (ty := .int) rfl rfl rfl (by decide) (by decide) (QM_ok hI73 hF74 hM75 (by omega) (by omega) (by unfold spPour s0; rw [if_neg (by omega), hm9, po_e PL hr48 (by omega) hn9 (by omega)]))
                  · skip
                    refine di_aload_n rfl rfl ?_
                    refine dr_iload_n rfl rfl ?_
                    refine di_aload_n rfl rfl ?_
                    refine dr_getf rfl hc129 rfl ?_
                    refine dr_iload_n rfl rfl ?_
                    have hc132 := I_mcs hI73
                    refine paaE (k0 := 28) er86 rfl hc132 (by omega) (by omega) ?_
                    refine dr_iload rfl rfl ?_
                    refine di_iald rfl hu88 au90 (by omega) (by omega) (fun x133 x133f x133a x133b x133v => ?_)
                    have x133w : cv u83 i70 = x133 := cv_eq x133v x133a x133b
                    have x133g : 0 ≤ x133 ∧ x133 ≤ 9999 ∧ x133 % 100 ≤ x133 / 100 := x133f
                    refine di_aload_n rfl rfl ?_
                    refine dr_getf rfl hc129 rfl ?_
                    refine dr_iload_n rfl rfl ?_
                    have hc134 := I_mns hI73
                    refine paaE (k0 := 32) eq87 rfl hc134 (by omega) (by omega) ?_
                    refine dr_iload rfl rfl ?_
                    refine di_iald rfl hw89 aw91 (by omega) (by omega) (fun x135 x135f x135a x135b x135v => ?_)
                    have x135w : cv w84 i70 = x135 := cv_eq x135v x135a x135b
                    have xb9 := (Rep_at hr94 (j := i70) (by omega) (by omega)).2.1
                    have ce9 : cv u37 i70 = x133 := (ru9 i70 (by omega) (by omega)).1.symm.trans x133w
                    have xe9 : cv w38 i70 = x135 := (ru9 i70 (by omega) (by omega)).2.symm.trans x135w
                    have ro9 : τ72.1 a1 x133 = -1 → zF (τ72.1 a1) < 8 := fun q => po_r PL hr48 (by omega) (by omega) ce9 (by omega) q
                    have rn9 : τ72.1 a1 x133 ≠ -1 ∨ cv us85 a1 ≤ 7 := (Classical.em (τ72.1 a1 x133 = -1)).elim (fun q => Or.inr (by have q9 := ro9 q; omega)) Or.inl
                    have hy9 : τ72.1 a2 x133 = x135 := ((Rep_yes hr94 (j := i70) (by omega) (by omega) x133w).1).trans x135w
                    have ps9 := po_s PL hr48 (by omega) (by omega) ce9 xe9 hr113 ro9
                    refine dr_virt rfl rfl rfl rfl hc129 (nx_X8_putIn l hl hI73 hM75 (a1 := a1) (by omega) (by omega) (a2 := x133) (by omega) (by omega) (a3 := x135) (by omega) (by omega) er105 eq106 hu107 hw108 au109 aw110 hs111 as112 hr113 sa114 sb115 (by omega) rn9) (by decide) (by decide) (by decide) (Nat.le_of_ble_eq_true rfl) kNFN (kNF (fun h136 hI137 hF138 hM139 hX140 hT141 => ?_))
                    have hF142 := FrM_tr hF74 hF138
                    have rw9 := rw_put PRw (by omega) (by omega) (by omega) (by omega) er105 eq106 hu107 hw108 hX140 (fun e => hT141 (by rw [← e]; exact hy9) (by omega))
                    refine dr_pop rfl rfl ?_
                    refine di_iinc (ls2 := [some (.ref 26), some (dI (a1)), some (dI (a2)), some (dI (i55)), some (dI ((i70 + 1)))]) rfl rfl rfl rfl ?_
                    refine dr_goto rfl rfl ?_
                    exact ihL76 ((i70 + 1))  h136 (sPut τ72 a1 x133 x135).2 (by omega) (by omega) (by omega) (by omega) hI137 hF142 hM139 ps9 rw9
              exact L76 _ (0)  h11 σ (Nat.lt_succ_self _) (by omega) (by omega) (by omega) hI12 hF15 hM14 po_0 (rw_0 er40 eq41 hu42 hw43)
            · skip
              refine di_aload_n rfl rfl ?_
              refine dr_virt rfl rfl rfl rfl ni65c (n_X8_nine l hl hI12 hM14) (by decide) (by decide) (by decide) (Nat.le_of_ble_eq_true rfl) kNQN (kNQ (fun h143 hI144 hF145 hM146 => ?_))
              have hF147 := FrM_tr hF15 hF145
              exact dr_iret (ty := .int) rfl rfl rfl (by decide) (by decide) (QM_ok hI144 hF147 hM146 (by omega) (by omega) (by unfold spPour s0; rw [if_neg (by omega), hm9]; unfold sPour; rw [if_pos (by omega)]))
          · skip
            refine di_aload_n rfl rfl ?_
            refine dr_iload_n rfl rfl ?_
            refine di_aload_n rfl rfl ?_
            refine dr_getf rfl ni65c rfl ?_
            refine dr_iload_n rfl rfl ?_
            have hc148 := I_mcs hI12
            refine paaE (k0 := 28) er40 rfl hc148 (by omega) (by omega) ?_
            refine dr_iload rfl rfl ?_
            refine di_iald rfl hu42 au44 (by omega) (by omega) (fun x149 x149f x149a x149b x149v => ?_)
            have x149w : cv u37 i56 = x149 := cv_eq x149v x149a x149b
            have x149g : 0 ≤ x149 ∧ x149 ≤ 9999 ∧ x149 % 100 ≤ x149 / 100 := x149f
            refine dr_virt rfl rfl rfl rfl ni65c (n_X8_at l hl hI12 hM14 (a1 := a1) (by omega) (by omega) (a2 := x149) (by omega) (by omega) er21 eq22 hu23 hw24 au25 aw26 hs27 as28 hr29 sa30 sb31) (by decide) (by decide) (by decide) (Nat.le_of_ble_eq_true rfl) kNP (kIP (fun y150 y150f y150a y150b => ?_))
            obtain ⟨y150c, y150d, y150k⟩ := y150f
            refine di_if_ge rfl rfl (by omega) (by omega) (fun c151 => ?_) (fun c151 => ?_)
            · skip
              have hFy153 := rkp_y hr29 y150k (by omega)
              have hri152 := rkp_in y150k (by omega)
              refine di_iinc (ls2 := [some (.ref 26), some (dI (a1)), some (dI (a2)), some (dI (i55)), some (dI ((i56 + 1)))]) rfl rfl rfl rfl ?_
              refine dr_goto rfl rfl ?_
              exact ihL57 (i55) ((i56 + 1)) (by omega) (by omega) (by omega) (by omega) (by omega) (by omega) (by omega)  (cn_n PC (by omega) x149w (decide_eq_false (by omega)))
            · skip
              have hFn154 := rkp_n y150k (by omega)
              refine di_iinc (ls2 := [some (.ref 26), some (dI (a1)), some (dI (a2)), some (dI ((i55 + 1))), some (dI (i56))]) rfl rfl rfl rfl ?_
              refine di_iinc (ls2 := [some (.ref 26), some (dI (a1)), some (dI (a2)), some (dI ((i55 + 1))), some (dI ((i56 + 1)))]) rfl rfl rfl rfl ?_
              refine dr_goto rfl rfl ?_
              exact ihL57 ((i55 + 1)) ((i56 + 1)) (by omega) (by omega) (by omega) (by omega) (by omega) (by omega) (by omega)  (cn_y PC (by omega) x149w (decide_eq_true (by omega)))
      exact L57 _ (0) (0) (Nat.lt_succ_self _) (by omega) (by omega) (by omega) (by omega) (by omega) (by omega)  cn_0
    · skip
      refine di_const rfl ?_
      refine dr_goto rfl rfl ?_
      refine di_const rfl ?_
      refine dr_virt rfl rfl rfl rfl c26 (f_X8_start1 l hl hI hM (a2 := 1) (by omega) (by omega)) (by decide) (by decide) (by decide) (Nat.le_of_ble_eq_true rfl) kNQN (kNQ (fun h155 hI156 hF157 hM158 => ?_))
      have hF159 := FrM_tr FrM_rf hF157
      refine di_if_eq rfl rfl (by omega) (by omega) (fun c9 => by exfalso; omega) (fun _ => ?_)
      refine di_const rfl ?_
      exact dr_iret (ty := .int) rfl rfl rfl (by decide) (by decide) (QM_no (x := 0) hI156 hF159 hM158 (by omega) (by omega) (by omega) (by unfold spPour; (repeat' split) <;> first | rfl | (exfalso; omega) | (apply Prod.ext <;> first | rfl | (dsimp only; omega) | (apply Prod.ext <;> first | rfl | (dsimp only; omega)))))
