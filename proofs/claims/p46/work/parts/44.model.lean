/-! ===== the calls that take by rank, by note, or many ===== -/
theorem cnt_dl {f : Int → Int} {P : Int → Bool} {r : Int} (r0 : 0 ≤ r) : ∀ n : Nat, ((n : Int) ≤ r → cnt (delf f r) P n = cnt f P n) ∧ (r ≤ (n : Int) → cnt (delf f r) P n + (if P (f r) then 1 else 0) = cnt f P (n + 1))
  | 0 => ⟨fun _ => rfl, fun h => by
    have e : r = ((0 : Nat) : Int) := by omega
    rw [e]; rfl⟩
  | n + 1 => by
    obtain ⟨i1, i2⟩ := cnt_dl (f := f) (P := P) r0 n
    have e1 : (n : Int) < r → cnt (delf f r) P (n + 1) = cnt f P (n + 1) := fun h => by
      show cnt (delf f r) P n + (if P (delf f r (n : Int)) then 1 else 0) = cnt f P n + (if P (f (n : Int)) then 1 else 0)
      rw [i1 (by omega), show delf f r (n : Int) = f (n : Int) from if_pos h]
    refine ⟨fun h => e1 (by omega), fun h => ?_⟩
    by_cases q : r = ((n + 1 : Nat) : Int)
    · rw [e1 (by omega), q]; rfl
    · have := i2 (by omega)
      show cnt (delf f r) P n + (if P (delf f r (n : Int)) then 1 else 0) + (if P (f r) then 1 else 0) = cnt f P (n + 1) + (if P (f ((n + 1 : Nat) : Int)) then 1 else 0)
      rw [show delf f r (n : Int) = f ((n + 1 : Nat) : Int) from if_neg (by omega), ← this]
      omega
theorem nF_del {f g F : Int → Int} {s c : Int} {P : Int → Bool} (hr : Rep f g s F) (hc : F c ≠ -1) : nF (up F c (-1)) P = nF F P - (if P c then 1 else 0) := by
  obtain ⟨j, h0, h1, e⟩ := Rep_ex hr hc
  subst e
  rw [nF_eq P (Rep_del hr h0 h1), nF_eq P hr]
  have := (cnt_dl (f := f) (P := P) h0 (s - 1).toNat).2 (by omega)
  rw [show (s - 1).toNat + 1 = s.toNat by omega] at this
  omega
theorem cnt_no {f : Int → Int} {P : Int → Bool} : ∀ n : Nat, (∀ j : Int, 0 ≤ j → j < n → P (f j) = false) → cnt f P n = 0
  | 0, _ => rfl
  | n + 1, h => by
    show cnt f P n + (if P (f (n : Int)) then 1 else 0) = 0
    rw [cnt_no n (fun j h0 h1 => h j h0 (by omega)), h n (by omega) (by omega)]; rfl
theorem cnt_z {f : Int → Int} {P : Int → Bool} : ∀ n : Nat, cnt f P n = 0 → ∀ j : Int, 0 ≤ j → j < n → P (f j) = false
  | 0, _ => fun j h0 h1 => absurd h1 (by omega)
  | n + 1, h => fun j h0 h1 => by
    have h' : cnt f P n + (if P (f (n : Int)) then 1 else 0) = 0 := h
    have hb := (cnt_b f P n).1
    by_cases q : j = n
    · rw [q]
      cases e : P (f (n : Int)) with
      | false => rfl
      | true => rw [e, if_pos rfl] at h'; omega
    · refine cnt_z n ?_ j h0 (by omega)
      by_cases e : P (f (n : Int)) = true
      · rw [if_pos e] at h'; omega
      · rw [if_neg e] at h'; omega
theorem nF_no {f g F : Int → Int} {s : Int} {P : Int → Bool} (hr : Rep f g s F) (h : ∀ c, F c ≠ -1 → P c = false) : nF F P = 0 := by
  rw [nF_eq P hr]
  exact cnt_no _ (fun j h0 h1 => h _ (Rep_yes hr h0 (by omega) rfl).2.1)
theorem nF_z {f g F : Int → Int} {s : Int} {P : Int → Bool} (hr : Rep f g s F) (h : nF F P = 0) : ∀ c, F c ≠ -1 → P c = false := fun c hc => by
  rw [nF_eq P hr] at h
  obtain ⟨j, h0, h1, e⟩ := Rep_ex hr hc
  rw [← e]; exact cnt_z _ h j h0 (by omega)
theorem eb_ex {z : Prop} {f g F : Int → Int} {s : Int} {P : Int → Bool} (hr : Rep f g s F) : ∀ n : Nat, (n : Int) ≤ s → ∃ b : Int, ebP z b f P n
  | 0, _ => ⟨-1, eb_0⟩
  | n + 1, h => by
    obtain ⟨b, hb⟩ := eb_ex (z := z) (P := P) hr n (by omega)
    have hx := (Rep_at hr (j := (n : Int)) (by omega) (by omega)).1
    show ∃ b, ebP z b f P ((n : Int) + 1)
    cases e : P (f (n : Int)) with
    | false => exact ⟨b, eb_n hb rfl e⟩
    | true =>
      by_cases q : b = -1
      · exact ⟨f n, eb_t hb (by omega) rfl e hx.1 (fun h => absurd q h) (fun h => absurd q h)⟩
      · by_cases hz : z
        · by_cases q2 : f n ≤ b
          · exact ⟨b, eb_k hb q rfl (fun _ => q2) (fun h => absurd hz h)⟩
          · exact ⟨f n, eb_t hb (by omega) rfl e hx.1 (fun _ _ => by omega) (fun _ h => absurd hz h)⟩
        · by_cases q2 : b ≤ f n
          · exact ⟨b, eb_k hb q rfl (fun h => absurd h hz) (fun _ => q2)⟩
          · exact ⟨f n, eb_t hb (by omega) rfl e hx.1 (fun _ h => absurd h hz) (fun _ _ => by omega)⟩
theorem lst_d {f g F : Int → Int} {s : Int} {P : Int → Bool} (hr : Rep f g s F) : (lst F P = -1 ∧ ∀ c, F c ≠ -1 → P c = false) ∨ (lst F P ≠ -1 ∧ F (lst F P) ≠ -1 ∧ P (lst F P) = true) := by
  obtain ⟨b, hb⟩ := eb_ex (z := False) (P := P) hr s.toNat (by have := Rep_s0 hr; omega)
  have e := (eb_e hb hr (by have := Rep_s0 hr; omega)).2 (fun h => h)
  rcases hb with ⟨h1, h2⟩ | ⟨h1, ⟨j9, k0, k1, k2⟩, h3, -⟩
  · refine Or.inl ⟨e.symm.trans h1, fun c hc => ?_⟩
    obtain ⟨j, j0, j1, e⟩ := Rep_ex hr hc
    rw [← e]; exact h2 j j0 (by omega)
  · rw [← e]; exact Or.inr ⟨h1, (Rep_yes hr k0 (by omega) k2).2.1, h3⟩
theorem grt_d {f g F : Int → Int} {s : Int} {P : Int → Bool} (hr : Rep f g s F) : (grt F P = -1 ∧ ∀ c, F c ≠ -1 → P c = false) ∨ (grt F P ≠ -1 ∧ F (grt F P) ≠ -1 ∧ P (grt F P) = true) := by
  obtain ⟨b, hb⟩ := eb_ex (z := True) (P := P) hr s.toNat (by have := Rep_s0 hr; omega)
  have e := (eb_e hb hr (by have := Rep_s0 hr; omega)).1 trivial
  rcases hb with ⟨h1, h2⟩ | ⟨h1, ⟨j9, k0, k1, k2⟩, h3, -⟩
  · refine Or.inl ⟨e.symm.trans h1, fun c hc => ?_⟩
    obtain ⟨j, j0, j1, e⟩ := Rep_ex hr hc
    rw [← e]; exact h2 j j0 (by omega)
  · rw [← e]; exact Or.inr ⟨h1, (Rep_yes hr k0 (by omega) k2).2.1, h3⟩
def yIn (F : Int → Int) (y : Int) : Prop := (y = -1 ∧ F y = -1) ∨ (y ≠ -1 ∧ F y ≠ -1)
theorem yIn_pe {z : Prop} {f g F : Int → Int} {s y : Int} {P : Int → Bool} (hr : Rep f g s F) (h : (z → y = grt F P) ∧ (¬ z → y = lst F P)) : yIn F y := by
  by_cases hz : z
  · rw [h.1 hz]
    rcases grt_d (P := P) hr with q | q
    · rw [q.1]; exact Or.inl ⟨rfl, Rep_neg hr (by decide)⟩
    · exact Or.inr ⟨q.1, q.2.1⟩
  · rw [h.2 hz]
    rcases lst_d (P := P) hr with q | q
    · rw [q.1]; exact Or.inl ⟨rfl, Rep_neg hr (by decide)⟩
    · exact Or.inr ⟨q.1, q.2.1⟩
theorem yIn_rk {f g F : Int → Int} {s r y : Int} (hr : Rep f g s F) (h : rkC F r y) : yIn F y := by
  rcases h with ⟨h1, -⟩ | ⟨h1, -⟩
  · rw [h1]; exact Or.inl ⟨rfl, Rep_neg hr (by decide)⟩
  · refine Or.inr ⟨fun e => h1 ?_, h1⟩
    rw [e]; exact Rep_neg hr (by decide)
theorem sDraw_e {σ : St} {k z y : Int} {P : Int → Bool} (h1 : z = 1 → grt (σ.1 k) P = y) (h0 : ¬ z = 1 → lst (σ.1 k) P = y) (hy : yIn (σ.1 k) y) : sDraw σ k P z = (y, (sTake σ k y).2) := by
  unfold sDraw
  by_cases q : z = 1
  · rw [if_pos q, h1 q]
    rcases hy with ⟨a, b⟩ | ⟨a, b⟩
    · rw [if_pos a, sTake_n b, a]
    · rw [if_neg a, sTake_y b]
  · rw [if_neg q, h0 q]
    rcases hy with ⟨a, b⟩ | ⟨a, b⟩
    · rw [if_pos a, sTake_n b, a]
    · rw [if_neg a, sTake_y b]
theorem dr_l {f g F : Int → Int} {s y : Int} (h : rkC F 0 y) (hr : Rep f g s F) (ht : Srt f s) : lst F (fun _ => true) = y := by
  have q := rkC_s h hr ht
  by_cases hs : 0 < s
  · rw [q.1 (by omega) hs]
    refine lst_eq ⟨(Rep_yes hr (by omega) hs rfl).2.1, rfl, fun c hc _ => ?_⟩
    obtain ⟨j, j0, j1, e⟩ := Rep_ex hr hc
    subst e
    by_cases q2 : j = 0
    · rw [q2]; exact Int.le_refl _
    · exact Int.le_of_lt (ht 0 j (by omega) (by omega) j1)
  · rw [q.2 (Or.inr (by omega))]
    exact lst_no (fun c hc => by
      obtain ⟨j, j0, j1, e⟩ := Rep_ex hr hc
      omega)
theorem dr_g {f g F : Int → Int} {s r y : Int} (h : rkC F r y) (hr : Rep f g s F) (ht : Srt f s) (er : r = s - 1) : grt F (fun _ => true) = y := by
  have q := rkC_s h hr ht
  by_cases hs : 0 < s
  · rw [q.1 (by omega) (by omega)]
    refine grt_eq ⟨(Rep_yes hr (j := r) (by omega) (by omega) rfl).2.1, rfl, fun c hc _ => ?_⟩
    obtain ⟨j, j0, j1, e⟩ := Rep_ex hr hc
    subst e
    by_cases q2 : j = r
    · rw [q2]; exact Int.le_refl _
    · exact Int.le_of_lt (ht j r j0 (by omega) (by omega))
  · rw [q.2 (Or.inl (by omega))]
    exact grt_no (fun c hc => by
      obtain ⟨j, j0, j1, e⟩ := Rep_ex hr hc
      omega)
def tnP (g : Int → Int) (x i : Int) : Prop := ∀ j : Int, 0 ≤ j → j < i → g j ≠ x
theorem tnP_0 {g : Int → Int} {x : Int} : tnP g x 0 := fun j h0 h1 => by omega
theorem tnP_s {f g F : Int → Int} {s x i y : Int} (h : tnP g x i) (hr : Rep f g s F) (ht : Srt f s) (h0 : 0 ≤ i) (h1 : i < s) (hk : rkC F i y) (hy : F y ≠ x) : tnP g x (i + 1) := fun j j0 j1 => by
  by_cases q : j = i
  · rw [q]
    have := (rkC_s hk hr ht).1 h0 h1
    rw [this, (Rep_at hr h0 h1).2.2] at hy
    exact hy
  · exact h j j0 (by omega)
def clP (σ τ : St) (k n : Int) : Prop := (zF (τ.1 k) = n ∧ τ = σ) ∨ (zF (τ.1 k) < n ∧ ∃ G, τ = stM σ k G)
theorem cl_0 {σ : St} {k n : Int} (h : zF (σ.1 k) = n) : clP σ σ k n := Or.inl ⟨h, rfl⟩
theorem cl_s {σ τ : St} {k n z : Int} {F : Int → Int} (h : clP σ τ k n) (hz : zF (τ.1 k) = z) (hF : zF F = z - 1) : clP σ (stM τ k F) k n := by
  rcases h with ⟨h1, rfl⟩ | ⟨h1, G, rfl⟩
  · refine Or.inr ⟨?_, F, rfl⟩
    rw [stM_1]; omega
  · refine Or.inr ⟨?_, F, stM_M⟩
    rw [stM_1]; omega
theorem cl_e {σ τ : St} {k n : Int} {f g : Int → Int} {s : Int} (h : clP σ τ k n) (hr : Rep f g s (τ.1 k)) (hs : s = 0) : sWipe σ k (fun _ => -1) n = (n, τ) := by
  have hz := zF_eq hr
  unfold sWipe
  rcases h with ⟨h1, rfl⟩ | ⟨h1, G, rfl⟩
  · rw [if_pos (by omega)]
    rw [show n = 0 by omega]
  · rw [if_neg (by omega)]
    rw [stM_1] at hr
    have : G = fun _ => -1 := funext fun c => Rep_no hr (fun j h0 h1 => by omega)
    rw [this]
def pcP (σ τ : St) (k : Int) (P : Int → Bool) (i : Int) : Prop := nF (τ.1 k) P = nF (σ.1 k) P - i ∧ (∀ c, P c = false → τ.1 k c = σ.1 k c) ∧ ((i = 0 ∧ τ = σ) ∨ (0 < i ∧ ∃ G, τ = stM σ k G))
theorem pc_0 {σ : St} {k : Int} {P : Int → Bool} : pcP σ σ k P 0 := ⟨by omega, fun _ _ => rfl, Or.inl ⟨rfl, rfl⟩⟩
theorem pc_s {σ τ : St} {k i y : Int} {P : Int → Bool} {f g : Int → Int} {s : Int} (h : pcP σ τ k P i) (hr : Rep f g s (τ.1 k)) (h0 : 0 ≤ i) (hy : τ.1 k y ≠ -1) (hp : P y = true) : pcP σ (stM τ k (up (τ.1 k) y (-1))) k P (i + 1) := by
  obtain ⟨h1, h2, h3⟩ := h
  refine ⟨?_, fun c hc => ?_, Or.inr ⟨by omega, ?_⟩⟩
  · rw [stM_1, nF_del hr hy, if_pos hp]; omega
  · rw [stM_1]
    have : c ≠ y := fun e => by rw [e, hp] at hc; cases hc
    rw [up_n this]; exact h2 c hc
  · rcases h3 with ⟨-, e⟩ | ⟨-, G, e⟩
    · subst e; exact ⟨_, rfl⟩
    · refine ⟨up (τ.1 k) y (-1), ?_⟩
      generalize up (τ.1 k) y (-1) = F9
      rw [e]; exact stM_M
theorem pc_e {σ τ : St} {k i : Int} {P : Int → Bool} {f g : Int → Int} {s : Int} (h : pcP σ τ k P i) (hr : Rep f g s (τ.1 k)) (hi : i = nF (σ.1 k) P) : sWipe σ k (fun c => if P c = true then -1 else σ.1 k c) i = (i, τ) := by
  obtain ⟨h1, h2, h3⟩ := h
  unfold sWipe
  rcases h3 with ⟨h4, h5⟩ | ⟨h4, G, h5⟩
  · rw [if_pos h4, h4, h5]
  · rw [if_neg (by omega)]
    have hz := nF_z hr (by omega : nF (τ.1 k) P = 0)
    subst h5
    rw [stM_1] at hz h2
    have : G = fun c => if P c = true then -1 else σ.1 k c := funext fun c => by
      cases e : P c with
      | true =>
        rw [if_pos rfl]
        exact Classical.byContradiction fun q => by have := hz c q; rw [e] at this; cases this
      | false => rw [if_neg (by decide)]; exact h2 c e
    rw [this]

set_option maxHeartbeats 4000000 in
set_option maxRecDepth 100000 in
/-- EarlyendsModel.draw -/
theorem n_X8_draw (l : Launch) (hl : l.stackTraces = false) {kc km : Int} {h : dm_H} (hI : Inv kc km h) {th : Int} {σ : St} (hM : MSt km th σ h) {a1 : Int} (h1a : -2147483648 ≤ a1) (h1b : a1 ≤ 2147483647) {a2 : Int} (h2a : 0 ≤ a2) (h2b : a2 ≤ 1) (hT : sSt σ) : dm_M l 151 8 0 0 [.ref 26, dI (a1), dI (a2)] h (QM9 kc km h (spDraw σ a1 a2)) := by
  obtain ⟨⟨ni, c26, ni0, ni1⟩, ⟨⟨R1, R2⟩, ⟨R3, R4⟩, ⟨R5, R6⟩, ⟨R7, R8⟩, ⟨R9, R10⟩, ⟨R11, R12⟩, R13⟩, ⟨th0, th1⟩, -⟩ := id hM
  have R14 : σ.2.2.2.2.2.1 = -1 ∨ (0 ≤ σ.2.2.2.2.2.1 ∧ σ.2.2.2.2.2.1 ≤ 9999 ∧ σ.2.2.2.2.2.1 % 100 ≤ σ.2.2.2.2.2.1 / 100) := R13
  refine dm_M_of dk_151 hl rfl (Nat.le_of_ble_eq_true rfl) ?_
  show dm_W (fun _ _ _ => True) (dm_P (QM9 kc km h (spDraw σ a1 a2)) 0 0) l 151 8 0 0 0 [some (.ref 26), some (dI (a1)), some (dI (a2)), none] [] h 0 0
  refine di_aload_n rfl rfl ?_
  refine dr_iload_n rfl rfl ?_
  refine dr_stat rfl rfl rfl rfl (f_X8_isNoBook l hl hI (a0 := a1) (by omega) (by omega)) (by decide) (by decide) (by decide) (Nat.le_of_ble_eq_true rfl) kNP (kIP (fun y1 y1f y1a y1b => ?_))
  have y1g : 0 ≤ y1 ∧ y1 ≤ 1 ∧ (y1 = 0 → 0 ≤ a1 ∧ a1 ≤ 2) ∧ (y1 = 1 → a1 < 0 ∨ 2 < a1) := y1f
  clear y1f
  refine di_const rfl ?_
  rcases (by omega : y1 = 0 ∨ y1 = 1) with ey2 | ey2
  · skip
    rw [ey2]
    refine dr_virt rfl rfl rfl rfl c26 (f_X8_start0 l hl hI hM (a2 := 1) (by omega) (by omega)) (by decide) (by decide) (by decide) (Nat.le_of_ble_eq_true rfl) kNQN (kNQ (fun h3 hI4 hF5 hM6 => ?_))
    have hF7 := FrM_tr FrM_rf hF5
    refine di_if_eq rfl rfl (by omega) (by omega) (fun _ => ?_) (fun c9 => by exfalso; omega)
    obtain ⟨r8, q10, u11, w12, us13, er14, eq15, hu16, hw17, au18, aw19, hs20, as21, hr22, sa23, sb24⟩ := MSt_bk hM6 (k := a1) (by omega) (by omega)
    have hz25 : zF (σ.1 a1) = cv us13 a1 := zF_eq hr22
    have mr26 : isCR r8 := isCR_of er14 (by omega) (by omega)
    have mq27 : isNR q10 := isNR_of eq15 (by omega) (by omega)
    refine di_aload_n rfl rfl ?_
    refine dr_iload_n rfl rfl ?_
    refine dr_iload_n rfl rfl ?_
    refine di_if_eq rfl rfl (by omega) (by omega) (fun c28 => ?_) (fun c28 => ?_)
    · skip
      refine di_const rfl ?_
      obtain ⟨⟨ni29, ni29c, ni29a, ni29b⟩, -⟩ := id hM6
      refine dr_virt rfl rfl rfl rfl ni29c (n_X8_codeAt l hl hI4 hM6 (a1 := a1) (by omega) (by omega) (a2 := 0) (by omega) (by omega) er14 eq15 hu16 hw17 au18 aw19 hs20 as21 hr22 sa23 sb24) (by decide) (by decide) (by decide) (Nat.le_of_ble_eq_true rfl) kNP (kIP (fun y30 y30f y30a y30b => ?_))
      obtain ⟨y30c, y30d, y30k⟩ := y30f
      obtain ⟨fs9, gs9, ss9, hrs9, hts9⟩ := hT a1 (by omega) (by omega)
      have hzs9 : zF (σ.1 a1) = ss9 := zF_eq hrs9
      have hin9 := yIn_rk hrs9 y30k
      have hl9 : lst (σ.1 a1) (fun _ => true) = y30 := dr_l y30k hrs9 hts9
      refine di_istore_n (ls2 := [some (.ref 26), some (dI (a1)), some (dI (a2)), some (dI (y30))]) rfl rfl rfl ?_
      refine di_aload_n rfl rfl ?_
      refine dr_iload_n rfl rfl ?_
      refine dr_iload_n rfl rfl ?_
      have pb31 := sTake_b (c := y30) hr22
      refine dr_virt rfl rfl rfl rfl ni29c (n_X8_takeIn l hl hI4 hM6 (a1 := a1) (by omega) (by omega) (a2 := y30) (by omega) (by omega) er14 eq15 hu16 hw17 au18 aw19 hs20 as21 hr22 sa23 sb24) (by decide) (by decide) (by decide) (Nat.le_of_ble_eq_true rfl) kNQN (kNQ (fun h32 hI33 hF34 hM35 => ?_))
      have hF36 := FrM_tr hF7 hF34
      refine dr_pop rfl rfl ?_
      refine dr_iload_n rfl rfl ?_
      exact dr_iret (ty := .int) rfl rfl rfl (by decide) (by decide) (QM_ok hI33 hF36 hM35 (by omega) (by omega) (by unfold spDraw s0; rw [if_neg (by omega), sDraw_e (y := y30) (fun q => by omega) (fun _ => hl9) hin9]))
    · skip
      refine di_aload_n rfl rfl ?_
      obtain ⟨⟨ni37, ni37c, ni37a, ni37b⟩, -⟩ := id hM6
      refine dr_getf rfl ni37c rfl ?_
      refine dr_iload_n rfl rfl ?_
      refine di_iald rfl hs20 as21 (by omega) (by omega) (fun x38 x38f x38a x38b x38v => ?_)
      have x38w : cv us13 a1 = x38 := cv_eq x38v x38a x38b
      have x38g : 0 ≤ x38 ∧ x38 ≤ 8 := x38f
      refine di_const rfl ?_
      refine di_isub rfl ?_
      refine dr_goto rfl rfl ?_
      refine dr_virt rfl rfl rfl rfl ni37c (n_X8_codeAt l hl hI4 hM6 (a1 := a1) (by omega) (by omega) (a2 := (x38 - 1)) (by omega) (by omega) er14 eq15 hu16 hw17 au18 aw19 hs20 as21 hr22 sa23 sb24) (by decide) (by decide) (by decide) (Nat.le_of_ble_eq_true rfl) kNP (kIP (fun y39 y39f y39a y39b => ?_))
      obtain ⟨y39c, y39d, y39k⟩ := y39f
      obtain ⟨fs9, gs9, ss9, hrs9, hts9⟩ := hT a1 (by omega) (by omega)
      have hzs9 : zF (σ.1 a1) = ss9 := zF_eq hrs9
      have hin9 := yIn_rk hrs9 y39k
      have hg9 : grt (σ.1 a1) (fun _ => true) = y39 := dr_g y39k hrs9 hts9 (by omega)
      refine di_istore_n (ls2 := [some (.ref 26), some (dI (a1)), some (dI (a2)), some (dI (y39))]) rfl rfl rfl ?_
      refine di_aload_n rfl rfl ?_
      refine dr_iload_n rfl rfl ?_
      refine dr_iload_n rfl rfl ?_
      have pb40 := sTake_b (c := y39) hr22
      refine dr_virt rfl rfl rfl rfl ni37c (n_X8_takeIn l hl hI4 hM6 (a1 := a1) (by omega) (by omega) (a2 := y39) (by omega) (by omega) er14 eq15 hu16 hw17 au18 aw19 hs20 as21 hr22 sa23 sb24) (by decide) (by decide) (by decide) (Nat.le_of_ble_eq_true rfl) kNQN (kNQ (fun h41 hI42 hF43 hM44 => ?_))
      have hF45 := FrM_tr hF7 hF43
      refine dr_pop rfl rfl ?_
      refine dr_iload_n rfl rfl ?_
      exact dr_iret (ty := .int) rfl rfl rfl (by decide) (by decide) (QM_ok hI42 hF45 hM44 (by omega) (by omega) (by unfold spDraw s0; rw [if_neg (by omega), sDraw_e (y := y39) (fun _ => hg9) (fun q => absurd (by omega) q) hin9]))
  · skip
    rw [ey2]
    refine dr_virt rfl rfl rfl rfl c26 (f_X8_start1 l hl hI hM (a2 := 1) (by omega) (by omega)) (by decide) (by decide) (by decide) (Nat.le_of_ble_eq_true rfl) kNQN (kNQ (fun h46 hI47 hF48 hM49 => ?_))
    have hF50 := FrM_tr FrM_rf hF48
    refine di_if_eq rfl rfl (by omega) (by omega) (fun c9 => by exfalso; omega) (fun _ => ?_)
    refine di_const rfl ?_
    exact dr_iret (ty := .int) rfl rfl rfl (by decide) (by decide) (QM_no (x := 0) hI47 hF50 hM49 (by omega) (by omega) (by omega) (by unfold spDraw; (repeat' split) <;> first | rfl | (exfalso; omega) | (apply Prod.ext <;> first | rfl | (dsimp only; omega) | (apply Prod.ext <;> first | rfl | (dsimp only; omega)))))
set_option maxHeartbeats 4000000 in
set_option maxRecDepth 100000 in
/-- EarlyendsModel.partDraw -/
theorem n_X8_partDraw (l : Launch) (hl : l.stackTraces = false) {kc km : Int} {h : dm_H} (hI : Inv kc km h) {th : Int} {σ : St} (hM : MSt km th σ h) {a1 : Int} (h1a : 0 ≤ a1) (h1b : a1 ≤ 1) : dm_M l 163 8 0 0 [.ref 26, dI (a1)] h (QM9 kc km h (spPartDraw σ a1)) := by
  obtain ⟨⟨ni, c26, ni0, ni1⟩, ⟨⟨R1, R2⟩, ⟨R3, R4⟩, ⟨R5, R6⟩, ⟨R7, R8⟩, ⟨R9, R10⟩, ⟨R11, R12⟩, R13⟩, ⟨th0, th1⟩, -⟩ := id hM
  have R14 : σ.2.2.2.2.2.1 = -1 ∨ (0 ≤ σ.2.2.2.2.2.1 ∧ σ.2.2.2.2.2.1 ≤ 9999 ∧ σ.2.2.2.2.2.1 % 100 ≤ σ.2.2.2.2.2.1 / 100) := R13
  refine dm_M_of dk_163 hl rfl (Nat.le_of_ble_eq_true rfl) ?_
  show dm_W (fun _ _ _ => True) (dm_P (QM9 kc km h (spPartDraw σ a1)) 0 0) l 163 8 0 0 0 [some (.ref 26), some (dI (a1)), none] [] h 0 0
  refine di_aload_n rfl rfl ?_
  refine di_aload_n rfl rfl ?_
  refine dr_getf rfl c26 rfl ?_
  refine di_const rfl ?_
  refine di_icmp_ne rfl rfl (by omega) (by omega) (by omega) (by omega) (fun c1 => ?_) (fun c1 => ?_)
  · skip
    refine di_const rfl ?_
    refine di_const rfl ?_
    refine dr_virt rfl rfl rfl rfl c26 (f_X8_start0 l hl hI hM (a2 := 1) (by omega) (by omega)) (by decide) (by decide) (by decide) (Nat.le_of_ble_eq_true rfl) kNQN (kNQ (fun h2 hI3 hF4 hM5 => ?_))
    have hF6 := FrM_tr FrM_rf hF4
    refine di_if_eq rfl rfl (by omega) (by omega) (fun _ => ?_) (fun c9 => by exfalso; omega)
    refine di_aload_n rfl rfl ?_
    refine dr_iload_n rfl rfl ?_
    obtain ⟨⟨ni7, ni7c, ni7a, ni7b⟩, -⟩ := id hM5
    refine dr_virt rfl rfl rfl rfl ni7c (n_X8_partEnd l hl hI3 hM5 (a1 := a1) (by omega) (by omega) (show (0 : Int) ≤ σ.2.1.1 by omega)) (by decide) (by decide) (by decide) (Nat.le_of_ble_eq_true rfl) kNP (kIP (fun y8 y8f y8a y8b => ?_))
    obtain ⟨y8c, y8d, y8k⟩ := y8f
    obtain ⟨y8o, y8k⟩ := y8k
    obtain ⟨r10, q11, u12, w13, us14, er15, eq16, hu17, hw18, au19, aw20, hs21, as22, hr23, sa24, sb25⟩ := MSt_bk hM5 (k := σ.2.1.1) (by omega) (by omega)
    have hz26 : zF (σ.1 σ.2.1.1) = cv us14 σ.2.1.1 := zF_eq hr23
    have mr27 : isCR r10 := isCR_of er15 (by omega) (by omega)
    have mq28 : isNR q11 := isNR_of eq16 (by omega) (by omega)
    have hin9 := yIn_pe hr23 y8k
    refine di_istore_n (ls2 := [some (.ref 26), some (dI (a1)), some (dI (y8))]) rfl rfl rfl ?_
    refine di_aload_n rfl rfl ?_
    refine di_aload_n rfl rfl ?_
    refine dr_getf rfl ni7c rfl ?_
    refine dr_iload_n rfl rfl ?_
    have pb29 := sTake_b (c := y8) hr23
    refine dr_virt rfl rfl rfl rfl ni7c (n_X8_takeIn l hl hI3 hM5 (a1 := σ.2.1.1) (by omega) (by omega) (a2 := y8) (by omega) (by omega) er15 eq16 hu17 hw18 au19 aw20 hs21 as22 hr23 sa24 sb25) (by decide) (by decide) (by decide) (Nat.le_of_ble_eq_true rfl) kNQN (kNQ (fun h30 hI31 hF32 hM33 => ?_))
    have hF34 := FrM_tr hF6 hF32
    refine dr_pop rfl rfl ?_
    refine dr_iload_n rfl rfl ?_
    exact dr_iret (ty := .int) rfl rfl rfl (by decide) (by decide) (QM_ok hI31 hF34 hM33 (by omega) (by omega) (by unfold spPartDraw s0; rw [if_neg (by omega), sDraw_e (y := y8) (fun q => (y8k.1 q).symm) (fun q => (y8k.2 q).symm) hin9]))
  · skip
    refine di_const rfl ?_
    refine dr_goto rfl rfl ?_
    refine di_const rfl ?_
    refine dr_virt rfl rfl rfl rfl c26 (f_X8_start1 l hl hI hM (a2 := 1) (by omega) (by omega)) (by decide) (by decide) (by decide) (Nat.le_of_ble_eq_true rfl) kNQN (kNQ (fun h35 hI36 hF37 hM38 => ?_))
    have hF39 := FrM_tr FrM_rf hF37
    refine di_if_eq rfl rfl (by omega) (by omega) (fun c9 => by exfalso; omega) (fun _ => ?_)
    refine di_const rfl ?_
    exact dr_iret (ty := .int) rfl rfl rfl (by decide) (by decide) (QM_no (x := 0) hI36 hF39 hM38 (by omega) (by omega) (by omega) (by unfold spPartDraw; (repeat' split) <;> first | rfl | (exfalso; omega) | (apply Prod.ext <;> first | rfl | (dsimp only; omega) | (apply Prod.ext <;> first | rfl | (dsimp only; omega)))))
set_option maxHeartbeats 4000000 in
set_option maxRecDepth 100000 in
/-- EarlyendsModel.takeNote -/
theorem n_X8_takeNote (l : Launch) (hl : l.stackTraces = false) {kc km : Int} {h : dm_H} (hI : Inv kc km h) {th : Int} {σ : St} (hM : MSt km th σ h) {a1 : Int} (h1a : -2147483648 ≤ a1) (h1b : a1 ≤ 2147483647) {a2 : Int} (h2a : -2147483648 ≤ a2) (h2b : a2 ≤ 2147483647) (hT : sSt σ) : dm_M l 150 8 0 0 [.ref 26, dI (a1), dI (a2)] h (QM9 kc km h (spTakeNote σ a1 a2)) := by
  obtain ⟨⟨ni, c26, ni0, ni1⟩, ⟨⟨R1, R2⟩, ⟨R3, R4⟩, ⟨R5, R6⟩, ⟨R7, R8⟩, ⟨R9, R10⟩, ⟨R11, R12⟩, R13⟩, ⟨th0, th1⟩, -⟩ := id hM
  have R14 : σ.2.2.2.2.2.1 = -1 ∨ (0 ≤ σ.2.2.2.2.2.1 ∧ σ.2.2.2.2.2.1 ≤ 9999 ∧ σ.2.2.2.2.2.1 % 100 ≤ σ.2.2.2.2.2.1 / 100) := R13
  refine dm_M_of dk_150 hl rfl (Nat.le_of_ble_eq_true rfl) ?_
  show dm_W (fun _ _ _ => True) (dm_P (QM9 kc km h (spTakeNote σ a1 a2)) 0 0) l 150 8 0 0 0 [some (.ref 26), some (dI (a1)), some (dI (a2)), none, none] [] h 0 0
  refine di_aload_n rfl rfl ?_
  refine dr_iload_n rfl rfl ?_
  refine dr_stat rfl rfl rfl rfl (f_X8_isNoBook l hl hI (a0 := a1) (by omega) (by omega)) (by decide) (by decide) (by decide) (Nat.le_of_ble_eq_true rfl) kNP (kIP (fun y1 y1f y1a y1b => ?_))
  have y1g : 0 ≤ y1 ∧ y1 ≤ 1 ∧ (y1 = 0 → 0 ≤ a1 ∧ a1 ≤ 2) ∧ (y1 = 1 → a1 < 0 ∨ 2 < a1) := y1f
  clear y1f
  refine di_const rfl ?_
  rcases (by omega : y1 = 0 ∨ y1 = 1) with ey2 | ey2
  · skip
    rw [ey2]
    refine dr_virt rfl rfl rfl rfl c26 (f_X8_start0 l hl hI hM (a2 := 1) (by omega) (by omega)) (by decide) (by decide) (by decide) (Nat.le_of_ble_eq_true rfl) kNQN (kNQ (fun h3 hI4 hF5 hM6 => ?_))
    have hF7 := FrM_tr FrM_rf hF5
    refine di_if_ne rfl rfl (by omega) (by omega) (fun c9 => by exfalso; omega) (fun _ => ?_)
    refine di_aload_n rfl rfl ?_
    refine dr_iload_n rfl rfl ?_
    refine dr_stat rfl rfl rfl rfl (f_X8_isNo99 l hl hI4 (a0 := a2) (by omega) (by omega)) (by decide) (by decide) (by decide) (Nat.le_of_ble_eq_true rfl) kNP (kIP (fun y8 y8f y8a y8b => ?_))
    have y8g : 0 ≤ y8 ∧ y8 ≤ 1 ∧ (y8 = 0 → 0 ≤ a2 ∧ a2 ≤ 99) ∧ (y8 = 1 → a2 < 0 ∨ 99 < a2) := y8f
    clear y8f
    refine di_const rfl ?_
    obtain ⟨⟨ni10, ni10c, ni10a, ni10b⟩, -⟩ := id hM6
    rcases (by omega : y8 = 0 ∨ y8 = 1) with ey11 | ey11
    · skip
      rw [ey11]
      refine dr_virt rfl rfl rfl rfl ni10c (f_X8_refuse0 l hl hI4 hM6 (a2 := 2) (by omega) (by omega)) (by decide) (by decide) (by decide) (Nat.le_of_ble_eq_true rfl) kNQN (kNQ (fun h12 hI13 hF14 hM15 => ?_))
      have hF16 := FrM_tr hF7 hF14
      refine di_if_eq rfl rfl (by omega) (by omega) (fun _ => ?_) (fun c9 => by exfalso; omega)
      obtain ⟨r17, q18, u19, w20, us21, er22, eq23, hu24, hw25, au26, aw27, hs28, as29, hr30, sa31, sb32⟩ := MSt_bk hM15 (k := a1) (by omega) (by omega)
      have hz33 : zF (σ.1 a1) = cv us21 a1 := zF_eq hr30
      have mr34 : isCR r17 := isCR_of er22 (by omega) (by omega)
      have mq35 : isNR q18 := isNR_of eq23 (by omega) (by omega)
      obtain ⟨fs9, gs9, ss9, hrs9, hts9⟩ := hT a1 (by omega) (by omega)
      have hzs9 : zF (σ.1 a1) = ss9 := zF_eq hrs9
      refine di_const rfl ?_
      refine di_istore_n (ls2 := [some (.ref 26), some (dI (a1)), some (dI (a2)), some (dI (0)), none]) rfl rfl rfl ?_
      have L37 : ∀ (n : Nat) (i36 : Int), (8 - i36).toNat < n → 0 ≤ i36 → i36 ≤ 8 → i36 ≤ ss9 → tnP gs9 a2 i36 → dm_W (fun _ _ _ => True) (dm_P (QM9 kc km h (spTakeNote σ a1 a2)) 0 0) l 150 8 0 0 28 [some (.ref 26), some (dI (a1)), some (dI (a2)), some (dI (i36)), none] [] h12 0 0 := by
        intro n
        induction n with
        | zero => intro i36 hm; exact absurd hm (Nat.not_lt_zero _)
        | succ n ih =>
          intro i36 hm41 hb38 hb39 hx40 PT
          have ihL37 := ih
          clear ih
          refine dr_iload_n rfl rfl ?_
          refine di_aload_n rfl rfl ?_
          obtain ⟨⟨ni42, ni42c, ni42a, ni42b⟩, -⟩ := id hM15
          refine dr_getf rfl ni42c rfl ?_
          refine dr_iload_n rfl rfl ?_
          refine di_iald rfl hs28 as29 (by omega) (by omega) (fun x43 x43f x43a x43b x43v => ?_)
          have x43w : cv us21 a1 = x43 := cv_eq x43v x43a x43b
          have x43g : 0 ≤ x43 ∧ x43 ≤ 8 := x43f
          refine di_icmp_ge rfl rfl (by omega) (by omega) (by omega) (by omega) (fun c44 => ?_) (fun c44 => ?_)
          · skip
            refine di_const rfl ?_
            exact dr_iret (ty := .int) rfl rfl rfl (by decide) (by decide) (QM_ok hI13 hF16 hM15 (by omega) (by omega) (by unfold spTakeNote; rw [if_neg (by omega), if_neg (by omega), tn_no hrs9 (fun j h0 h1 => PT j h0 (by omega)), if_pos rfl]))
          · skip
            refine di_aload_n rfl rfl ?_
            refine dr_iload_n rfl rfl ?_
            refine dr_iload_n rfl rfl ?_
            refine dr_virt rfl rfl rfl rfl ni42c (n_X8_codeAt l hl hI13 hM15 (a1 := a1) (by omega) (by omega) (a2 := i36) (by omega) (by omega) er22 eq23 hu24 hw25 au26 aw27 hs28 as29 hr30 sa31 sb32) (by decide) (by decide) (by decide) (Nat.le_of_ble_eq_true rfl) kNP (kIP (fun y45 y45f y45a y45b => ?_))
            obtain ⟨y45c, y45d, y45k⟩ := y45f
            refine di_istore (ls2 := [some (.ref 26), some (dI (a1)), some (dI (a2)), some (dI (i36)), some (dI (y45))]) rfl rfl rfl ?_
            refine di_aload_n rfl rfl ?_
            refine dr_iload_n rfl rfl ?_
            refine dr_iload rfl rfl ?_
            refine dr_virt rfl rfl rfl rfl ni42c (n_X8_noteAt l hl hI13 hM15 (a1 := a1) (by omega) (by omega) (a2 := y45) (by omega) (by omega) er22 eq23 hu24 hw25 au26 aw27 hs28 as29 hr30 sa31 sb32) (by decide) (by decide) (by decide) (Nat.le_of_ble_eq_true rfl) kNP (kIP (fun y46 y46f y46a y46b => ?_))
            obtain ⟨y46c, y46d, y46n⟩ := y46f
            subst y46n
            refine dr_iload_n rfl rfl ?_
            refine di_icmp_eq rfl rfl (by omega) (by omega) (by omega) (by omega) (fun c47 => ?_) (fun c47 => ?_)
            · skip
              have ye9 : y45 = fs9 i36 := (rkC_s y45k hrs9 hts9).1 (by omega) (by omega)
              have gy9 : gs9 i36 = a2 := by have q9 := (Rep_yes hrs9 (j := i36) (by omega) (by omega) ye9.symm).1; omega
              have hl9 : lst (σ.1 a1) (fun c => decide (σ.1 a1 c = a2)) = y45 := (tn_yes hrs9 hts9 (by omega) (by omega) gy9 PT).trans ye9.symm
              have hy9 : σ.1 a1 y45 ≠ -1 := by omega
              have yq9 : y45 ≠ -1 := by have q9 := (Rep_at hrs9 (j := i36) (by omega) (by omega)).1; omega
              refine di_aload_n rfl rfl ?_
              refine dr_iload_n rfl rfl ?_
              refine dr_iload rfl rfl ?_
              have pb48 := sTake_b (c := y45) hr30
              refine dr_virt rfl rfl rfl rfl ni42c (n_X8_takeIn l hl hI13 hM15 (a1 := a1) (by omega) (by omega) (a2 := y45) (by omega) (by omega) er22 eq23 hu24 hw25 au26 aw27 hs28 as29 hr30 sa31 sb32) (by decide) (by decide) (by decide) (Nat.le_of_ble_eq_true rfl) kNQN (kNQ (fun h49 hI50 hF51 hM52 => ?_))
              have hF53 := FrM_tr hF16 hF51
              refine dr_pop rfl rfl ?_
              refine di_const rfl ?_
              exact dr_iret (ty := .int) rfl rfl rfl (by decide) (by decide) (QM_ok hI50 hF53 hM52 (by omega) (by omega) (by unfold spTakeNote; rw [if_neg (by omega), if_neg (by omega), hl9, if_neg (by omega), sTake_y hy9]))
            · skip
              refine dr_goto rfl rfl ?_
              refine di_iinc (ls2 := [some (.ref 26), some (dI (a1)), some (dI (a2)), some (dI ((i36 + 1))), some (dI (y45))]) rfl rfl rfl rfl ?_
              refine dr_goto rfl rfl ?_
              refine dm_wk (ls2 := [some (.ref 26), some (dI (a1)), some (dI (a2)), some (dI ((i36 + 1))), none]) ⟨Or.inr rfl, Or.inr rfl, Or.inr rfl, Or.inr rfl, Or.inl rfl, trivial⟩ ?_
              exact ihL37 ((i36 + 1)) (by omega) (by omega) (by omega) (by omega)  (tnP_s PT hrs9 hts9 (by omega) (by omega) y45k (by omega))
      exact L37 _ (0) (Nat.lt_succ_self _) (by omega) (by omega) (by omega)  tnP_0
    · skip
      rw [ey11]
      refine dr_virt rfl rfl rfl rfl ni10c (f_X8_refuse1 l hl hI4 hM6 (a2 := 2) (by omega) (by omega)) (by decide) (by decide) (by decide) (Nat.le_of_ble_eq_true rfl) kNQN (kNQ (fun h54 hI55 hF56 hM57 => ?_))
      have hF58 := FrM_tr hF7 hF56
      refine di_if_eq rfl rfl (by omega) (by omega) (fun c9 => by exfalso; omega) (fun _ => ?_)
      refine di_const rfl ?_
      exact dr_iret (ty := .int) rfl rfl rfl (by decide) (by decide) (QM_no (x := 0) hI55 hF58 hM57 (by omega) (by omega) (by omega) (by unfold spTakeNote; (repeat' split) <;> first | rfl | (exfalso; omega) | (apply Prod.ext <;> first | rfl | (dsimp only; omega) | (apply Prod.ext <;> first | rfl | (dsimp only; omega)))))
  · skip
    rw [ey2]
    refine dr_virt rfl rfl rfl rfl c26 (f_X8_start1 l hl hI hM (a2 := 1) (by omega) (by omega)) (by decide) (by decide) (by decide) (Nat.le_of_ble_eq_true rfl) kNQN (kNQ (fun h59 hI60 hF61 hM62 => ?_))
    have hF63 := FrM_tr FrM_rf hF61
    refine di_if_ne rfl rfl (by omega) (by omega) (fun _ => ?_) (fun c9 => by exfalso; omega)
    refine di_const rfl ?_
    exact dr_iret (ty := .int) rfl rfl rfl (by decide) (by decide) (QM_no (x := 0) hI60 hF63 hM62 (by omega) (by omega) (by omega) (by unfold spTakeNote; (repeat' split) <;> first | rfl | (exfalso; omega) | (apply Prod.ext <;> first | rfl | (dsimp only; omega) | (apply Prod.ext <;> first | rfl | (dsimp only; omega)))))
set_option maxHeartbeats 4000000 in
set_option maxRecDepth 100000 in
/-- EarlyendsModel.clear -/
theorem n_X8_clear (l : Launch) (hl : l.stackTraces = false) {kc km : Int} {h : dm_H} (hI : Inv kc km h) {th : Int} {σ : St} (hM : MSt km th σ h) {a1 : Int} (h1a : -2147483648 ≤ a1) (h1b : a1 ≤ 2147483647) : dm_M l 152 8 0 0 [.ref 26, dI (a1)] h (QM9 kc km h (spClear σ a1)) := by
  obtain ⟨⟨ni, c26, ni0, ni1⟩, ⟨⟨R1, R2⟩, ⟨R3, R4⟩, ⟨R5, R6⟩, ⟨R7, R8⟩, ⟨R9, R10⟩, ⟨R11, R12⟩, R13⟩, ⟨th0, th1⟩, -⟩ := id hM
  have R14 : σ.2.2.2.2.2.1 = -1 ∨ (0 ≤ σ.2.2.2.2.2.1 ∧ σ.2.2.2.2.2.1 ≤ 9999 ∧ σ.2.2.2.2.2.1 % 100 ≤ σ.2.2.2.2.2.1 / 100) := R13
  refine dm_M_of dk_152 hl rfl (Nat.le_of_ble_eq_true rfl) ?_
  show dm_W (fun _ _ _ => True) (dm_P (QM9 kc km h (spClear σ a1)) 0 0) l 152 8 0 0 0 [some (.ref 26), some (dI (a1)), none] [] h 0 0
  refine di_aload_n rfl rfl ?_
  refine dr_iload_n rfl rfl ?_
  refine dr_stat rfl rfl rfl rfl (f_X8_isNoBook l hl hI (a0 := a1) (by omega) (by omega)) (by decide) (by decide) (by decide) (Nat.le_of_ble_eq_true rfl) kNP (kIP (fun y1 y1f y1a y1b => ?_))
  have y1g : 0 ≤ y1 ∧ y1 ≤ 1 ∧ (y1 = 0 → 0 ≤ a1 ∧ a1 ≤ 2) ∧ (y1 = 1 → a1 < 0 ∨ 2 < a1) := y1f
  clear y1f
  refine di_const rfl ?_
  rcases (by omega : y1 = 0 ∨ y1 = 1) with ey2 | ey2
  · skip
    rw [ey2]
    refine dr_virt rfl rfl rfl rfl c26 (f_X8_start0 l hl hI hM (a2 := 1) (by omega) (by omega)) (by decide) (by decide) (by decide) (Nat.le_of_ble_eq_true rfl) kNQN (kNQ (fun h3 hI4 hF5 hM6 => ?_))
    have hF7 := FrM_tr FrM_rf hF5
    refine di_if_eq rfl rfl (by omega) (by omega) (fun _ => ?_) (fun c9 => by exfalso; omega)
    obtain ⟨r8, q10, u11, w12, us13, er14, eq15, hu16, hw17, au18, aw19, hs20, as21, hr22, sa23, sb24⟩ := MSt_bk hM6 (k := a1) (by omega) (by omega)
    have hz25 : zF (σ.1 a1) = cv us13 a1 := zF_eq hr22
    have mr26 : isCR r8 := isCR_of er14 (by omega) (by omega)
    have mq27 : isNR q10 := isNR_of eq15 (by omega) (by omega)
    refine di_aload_n rfl rfl ?_
    obtain ⟨⟨ni28, ni28c, ni28a, ni28b⟩, -⟩ := id hM6
    refine dr_getf rfl ni28c rfl ?_
    refine dr_iload_n rfl rfl ?_
    refine di_iald rfl hs20 as21 (by omega) (by omega) (fun x29 x29f x29a x29b x29v => ?_)
    have x29w : cv us13 a1 = x29 := cv_eq x29v x29a x29b
    have x29g : 0 ≤ x29 ∧ x29 ≤ 8 := x29f
    refine di_istore_n (ls2 := [some (.ref 26), some (dI (a1)), some (dI (x29))]) rfl rfl rfl ?_
    have L35 : ∀ (n : Nat) (h30 : dm_H) (τ31 : St), (zF (τ31.1 a1)).toNat < n → Inv kc km h30 → FrM h h30 → MSt km 0 τ31 h30 → clP σ τ31 a1 x29 → dm_W (fun _ _ _ => True) (dm_P (QM9 kc km h (spClear σ a1)) 0 0) l 152 8 0 0 21 [some (.ref 26), some (dI (a1)), some (dI (x29))] [] h30 0 0 := by
      intro n
      induction n with
      | zero => intro h30 τ31 hm; exact absurd hm (Nat.not_lt_zero _)
      | succ n ih =>
        intro h30 τ31 hm36 hI32 hF33 hM34 PL
        have ihL35 := ih
        clear ih
        obtain ⟨r37, q38, u39, w40, us41, er42, eq43, hu44, hw45, au46, aw47, hs48, as49, hr50, sa51, sb52⟩ := MSt_bk hM34 (k := a1) (by omega) (by omega)
        have hz53 : zF (τ31.1 a1) = cv us41 a1 := zF_eq hr50
        have mr54 : isCR r37 := isCR_of er42 (by omega) (by omega)
        have mq55 : isNR q38 := isNR_of eq43 (by omega) (by omega)
        refine di_aload_n rfl rfl ?_
        obtain ⟨⟨ni56, ni56c, ni56a, ni56b⟩, -⟩ := id hM34
        have sr57 : sR τ31 := hM34.2.1
        have sr58 : -1 ≤ τ31.2.1.1 ∧ τ31.2.1.1 ≤ 2 := sr57.1
        have sr59 : -1 ≤ τ31.2.1.2.1 ∧ τ31.2.1.2.1 ≤ 99 := sr57.2.1
        have sr60 : -1 ≤ τ31.2.1.2.2 ∧ τ31.2.1.2.2 ≤ 99 := sr57.2.2.1
        have sr61 : -1 ≤ τ31.2.2.1 ∧ τ31.2.2.1 ≤ 2 := sr57.2.2.2.1
        have sr62 : 0 ≤ τ31.2.2.2.1 ∧ τ31.2.2.2.1 ≤ 1 := sr57.2.2.2.2.1
        have sr63 : -1 ≤ τ31.2.2.2.2.1 ∧ τ31.2.2.2.2.1 ≤ 9999 := sr57.2.2.2.2.2.1
        have sr64 : τ31.2.2.2.2.2.1 = -1 ∨ okC τ31.2.2.2.2.2.1 := sr57.2.2.2.2.2.2
        have hc65 : h30[26]? = some (10, [.ref 27, .ref 31, .ref 35, dI 0, dI ni56, dI km, dI τ31.2.1.1, dI τ31.2.1.2.1, dI τ31.2.1.2.2, dI τ31.2.2.1, dI τ31.2.2.2.1, dI τ31.2.2.2.2.1, dI τ31.2.2.2.2.2.1]) := ni56c
        refine dr_getf rfl hc65 rfl ?_
        refine dr_iload_n rfl rfl ?_
        refine di_iald rfl hs48 as49 (by omega) (by omega) (fun x66 x66f x66a x66b x66v => ?_)
        have x66w : cv us41 a1 = x66 := cv_eq x66v x66a x66b
        have x66g : 0 ≤ x66 ∧ x66 ≤ 8 := x66f
        refine di_if_le rfl rfl (by omega) (by omega) (fun c67 => ?_) (fun c67 => ?_)
        · skip
          refine dr_iload_n rfl rfl ?_
          exact dr_iret (ty := .int) rfl rfl rfl (by decide) (by decide) (QM_ok hI32 hF33 hM34 (by omega) (by omega) (by unfold spClear s0; rw [if_neg (by omega), show zF (σ.1 a1) = x29 by omega, cl_e PL hr50 (by omega)]))
        · skip
          refine di_aload_n rfl rfl ?_
          refine dr_iload_n rfl rfl ?_
          refine di_const rfl ?_
          have zd68 : zF (up (τ31.1 a1) (cv u39 0) (-1)) = cv us41 a1 - 1 := zF_eq (Rep_del hr50 (r := 0) (by omega) (by omega))
          have zq69 : zF ((stM τ31 a1 (up (τ31.1 a1) (cv u39 0) (-1))).1 a1) = cv us41 a1 - 1 := by rw [stM_1]; exact zd68
          refine dr_virt rfl rfl rfl rfl hc65 (n_X8_go l hl hI32 hM34 (a1 := a1) (by omega) (by omega) (a2 := 0) (by omega) (by omega) er42 eq43 hu44 hw45 au46 aw47 hs48 as49 hr50 sa51 sb52 (c := (cv u39 0)) (by omega) rfl) (by decide) (by decide) (by decide) (Nat.le_of_ble_eq_true rfl) kNQVN (kNQV (fun h70 hI71 hF72 hM73 => ?_))
          have hF74 := FrM_tr hF33 hF72
          refine dr_goto rfl rfl ?_
          exact ihL35   h70 (stM τ31 a1 (up (τ31.1 a1) (cv u39 0) (-1))) (by omega) hI71 hF74 hM73 (cl_s PL hz53 zd68)
    exact L35 _   h3 σ (Nat.lt_succ_self _) hI4 hF7 hM6 (cl_0 (by omega))
  · skip
    rw [ey2]
    refine dr_virt rfl rfl rfl rfl c26 (f_X8_start1 l hl hI hM (a2 := 1) (by omega) (by omega)) (by decide) (by decide) (by decide) (Nat.le_of_ble_eq_true rfl) kNQN (kNQ (fun h75 hI76 hF77 hM78 => ?_))
    have hF79 := FrM_tr FrM_rf hF77
    refine di_if_eq rfl rfl (by omega) (by omega) (fun c9 => by exfalso; omega) (fun _ => ?_)
    refine di_const rfl ?_
    exact dr_iret (ty := .int) rfl rfl rfl (by decide) (by decide) (QM_no (x := 0) hI76 hF79 hM78 (by omega) (by omega) (by omega) (by unfold spClear; (repeat' split) <;> first | rfl | (exfalso; omega) | (apply Prod.ext <;> first | rfl | (dsimp only; omega) | (apply Prod.ext <;> first | rfl | (dsimp only; omega)))))
set_option maxHeartbeats 4000000 in
set_option maxRecDepth 100000 in
/-- EarlyendsModel.partClear -/
theorem n_X8_partClear (l : Launch) (hl : l.stackTraces = false) {kc km : Int} {h : dm_H} (hI : Inv kc km h) {th : Int} {σ : St} (hM : MSt km th σ h)  : dm_M l 164 8 0 0 [.ref 26] h (QM9 kc km h (spPartClear σ)) := by
  obtain ⟨⟨ni, c26, ni0, ni1⟩, ⟨⟨R1, R2⟩, ⟨R3, R4⟩, ⟨R5, R6⟩, ⟨R7, R8⟩, ⟨R9, R10⟩, ⟨R11, R12⟩, R13⟩, ⟨th0, th1⟩, -⟩ := id hM
  have R14 : σ.2.2.2.2.2.1 = -1 ∨ (0 ≤ σ.2.2.2.2.2.1 ∧ σ.2.2.2.2.2.1 ≤ 9999 ∧ σ.2.2.2.2.2.1 % 100 ≤ σ.2.2.2.2.2.1 / 100) := R13
  refine dm_M_of dk_164 hl rfl (Nat.le_of_ble_eq_true rfl) ?_
  show dm_W (fun _ _ _ => True) (dm_P (QM9 kc km h (spPartClear σ)) 0 0) l 164 8 0 0 0 [some (.ref 26), none, none] [] h 0 0
  refine di_aload_n rfl rfl ?_
  refine di_aload_n rfl rfl ?_
  refine dr_getf rfl c26 rfl ?_
  refine di_const rfl ?_
  refine di_icmp_ne rfl rfl (by omega) (by omega) (by omega) (by omega) (fun c1 => ?_) (fun c1 => ?_)
  · skip
    refine di_const rfl ?_
    refine di_const rfl ?_
    refine dr_virt rfl rfl rfl rfl c26 (f_X8_start0 l hl hI hM (a2 := 1) (by omega) (by omega)) (by decide) (by decide) (by decide) (Nat.le_of_ble_eq_true rfl) kNQN (kNQ (fun h2 hI3 hF4 hM5 => ?_))
    have hF6 := FrM_tr FrM_rf hF4
    refine di_if_eq rfl rfl (by omega) (by omega) (fun _ => ?_) (fun c9 => by exfalso; omega)
    refine di_aload_n rfl rfl ?_
    obtain ⟨⟨ni7, ni7c, ni7a, ni7b⟩, -⟩ := id hM5
    refine dr_virt rfl rfl rfl rfl ni7c (n_X8_partSize l hl hI3 hM5  (show (0 : Int) ≤ σ.2.1.1 by omega)) (by decide) (by decide) (by decide) (Nat.le_of_ble_eq_true rfl) kNP (kIP (fun y8 y8f y8a y8b => ?_))
    obtain ⟨y8c, y8d, y8k⟩ := y8f
    subst y8k
    refine di_istore_n (ls2 := [some (.ref 26), some (dI ((nP σ))), none]) rfl rfl rfl ?_
    refine di_const rfl ?_
    refine di_istore_n (ls2 := [some (.ref 26), some (dI ((nP σ))), some (dI (0))]) rfl rfl rfl ?_
    have L16 : ∀ (n : Nat) (i10 : Int) (h11 : dm_H) (τ12 : St), (8 - i10).toNat < n → 0 ≤ i10 → i10 ≤ 8 → i10 ≤ nP σ → Inv kc km h11 → FrM h h11 → MSt km 0 τ12 h11 → τ12.2.1 = σ.2.1 → pcP σ τ12 τ12.2.1.1 (inP τ12.2.1.2.1 τ12.2.1.2.2) i10 → dm_W (fun _ _ _ => True) (dm_P (QM9 kc km h (spPartClear σ)) 0 0) l 164 8 0 0 30 [some (.ref 26), some (dI ((nP σ))), some (dI (i10))] [] h11 0 0 := by
      intro n
      induction n with
      | zero => intro i10 h11 τ12 hm; exact absurd hm (Nat.not_lt_zero _)
      | succ n ih =>
        intro i10 h11 τ12 hm17 hb18 hb19 hx20 hI13 hF14 hM15 PR PL
        have ihL16 := ih
        clear ih
        have pn9 : nP σ = nF (σ.1 τ12.2.1.1) (inP τ12.2.1.2.1 τ12.2.1.2.2) := by unfold nP; rw [PR]
        have pe9 : τ12.2.1.1 = σ.2.1.1 := by rw [PR]
        have PL1 := PL.1
        obtain ⟨r21, q22, u23, w24, us25, er26, eq27, hu28, hw29, au30, aw31, hs32, as33, hr34, sa35, sb36⟩ := MSt_bk hM15 (k := τ12.2.1.1) (by omega) (by omega)
        have hz37 : zF (τ12.1 τ12.2.1.1) = cv us25 τ12.2.1.1 := zF_eq hr34
        have mr38 : isCR r21 := isCR_of er26 (by omega) (by omega)
        have mq39 : isNR q22 := isNR_of eq27 (by omega) (by omega)
        refine dr_iload_n rfl rfl ?_
        refine dr_iload_n rfl rfl ?_
        refine di_icmp_ge rfl rfl (by omega) (by omega) (by omega) (by omega) (fun c40 => ?_) (fun c40 => ?_)
        · skip
          refine dr_iload_n rfl rfl ?_
          exact dr_iret (ty := .int) rfl rfl rfl (by decide) (by decide) (QM_ok hI13 hF14 hM15 (by omega) (by omega) (by have q9 := pc_e PL hr34 (by omega); rw [show i10 = nP σ by omega, PR] at q9; unfold spPartClear s0; rw [if_neg (by omega), q9]))
        · skip
          refine di_aload_n rfl rfl ?_
          refine di_aload_n rfl rfl ?_
          obtain ⟨⟨ni41, ni41c, ni41a, ni41b⟩, -⟩ := id hM15
          have sr42 : sR τ12 := hM15.2.1
          have sr43 : -1 ≤ τ12.2.1.1 ∧ τ12.2.1.1 ≤ 2 := sr42.1
          have sr44 : -1 ≤ τ12.2.1.2.1 ∧ τ12.2.1.2.1 ≤ 99 := sr42.2.1
          have sr45 : -1 ≤ τ12.2.1.2.2 ∧ τ12.2.1.2.2 ≤ 99 := sr42.2.2.1
          have sr46 : -1 ≤ τ12.2.2.1 ∧ τ12.2.2.1 ≤ 2 := sr42.2.2.2.1
          have sr47 : 0 ≤ τ12.2.2.2.1 ∧ τ12.2.2.2.1 ≤ 1 := sr42.2.2.2.2.1
          have sr48 : -1 ≤ τ12.2.2.2.2.1 ∧ τ12.2.2.2.2.1 ≤ 9999 := sr42.2.2.2.2.2.1
          have sr49 : τ12.2.2.2.2.2.1 = -1 ∨ okC τ12.2.2.2.2.2.1 := sr42.2.2.2.2.2.2
          have hc50 : h11[26]? = some (10, [.ref 27, .ref 31, .ref 35, dI 0, dI ni41, dI km, dI τ12.2.1.1, dI τ12.2.1.2.1, dI τ12.2.1.2.2, dI τ12.2.2.1, dI τ12.2.2.2.1, dI τ12.2.2.2.2.1, dI τ12.2.2.2.2.2.1]) := ni41c
          refine dr_getf rfl hc50 rfl ?_
          refine di_aload_n rfl rfl ?_
          refine di_const rfl ?_
          refine dr_virt rfl rfl rfl rfl hc50 (n_X8_partEnd l hl hI13 hM15 (a1 := 0) (by omega) (by omega) (show (0 : Int) ≤ τ12.2.1.1 by omega)) (by decide) (by decide) (by decide) (Nat.le_of_ble_eq_true rfl) kNP (kIP (fun y51 y51f y51a y51b => ?_))
          obtain ⟨y51c, y51d, y51k⟩ := y51f
          obtain ⟨y51o, y51k⟩ := y51k
          have yl9 : y51 = lst (τ12.1 τ12.2.1.1) (inP τ12.2.1.2.1 τ12.2.1.2.2) := y51k.2 (by decide)
          have yd9 : τ12.1 τ12.2.1.1 y51 ≠ -1 ∧ inP τ12.2.1.2.1 τ12.2.1.2.2 y51 = true := by rw [yl9]; exact (lst_d hr34).elim (fun q => absurd (nF_no hr34 q.2) (by omega)) (fun q => q.2)
          refine dr_virt rfl rfl rfl rfl hc50 (show dm_M l 142 2 0 0 [.ref 26, dI τ12.2.1.1, dI y51] h11 (QN kc km h11 0 (τ12.1 τ12.2.1.1 y51) (stM τ12 τ12.2.1.1 (up (τ12.1 τ12.2.1.1) y51 (-1)))) from (by have q9 := n_X8_takeIn l hl hI13 hM15 (a1 := τ12.2.1.1) (by omega) (by omega) (a2 := y51) (by omega) (by omega) er26 eq27 hu28 hw29 au30 aw31 hs32 as33 hr34 sa35 sb36; rw [sTake_y yd9.1] at q9; exact q9)) (by decide) (by decide) (by decide) (Nat.le_of_ble_eq_true rfl) kNQN (kNQ (fun h52 hI53 hF54 hM55 => ?_))
          have hF56 := FrM_tr hF14 hF54
          refine dr_pop rfl rfl ?_
          refine di_iinc (ls2 := [some (.ref 26), some (dI ((nP σ))), some (dI ((i10 + 1)))]) rfl rfl rfl rfl ?_
          refine dr_goto rfl rfl ?_
          exact ihL16 ((i10 + 1))  h52 (stM τ12 τ12.2.1.1 (up (τ12.1 τ12.2.1.1) y51 (-1))) (by omega) (by omega) (by omega) (by omega) hI53 hF56 hM55 PR (pc_s PL hr34 (by omega) yd9.1 yd9.2)
    exact L16 _ (0)  h2 σ (Nat.lt_succ_self _) (by omega) (by omega) (by omega) hI3 hF6 hM5 rfl pc_0
  · skip
    refine di_const rfl ?_
    refine dr_goto rfl rfl ?_
    refine di_const rfl ?_
    refine dr_virt rfl rfl rfl rfl c26 (f_X8_start1 l hl hI hM (a2 := 1) (by omega) (by omega)) (by decide) (by decide) (by decide) (Nat.le_of_ble_eq_true rfl) kNQN (kNQ (fun h57 hI58 hF59 hM60 => ?_))
    have hF61 := FrM_tr FrM_rf hF59
    refine di_if_eq rfl rfl (by omega) (by omega) (fun c9 => by exfalso; omega) (fun _ => ?_)
    refine di_const rfl ?_
    exact dr_iret (ty := .int) rfl rfl rfl (by decide) (by decide) (QM_no (x := 0) hI58 hF61 hM60 (by omega) (by omega) (by omega) (by unfold spPartClear; (repeat' split) <;> first | rfl | (exfalso; omega) | (apply Prod.ext <;> first | rfl | (dsimp only; omega) | (apply Prod.ext <;> first | rfl | (dsimp only; omega)))))
