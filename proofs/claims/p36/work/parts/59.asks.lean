/-! ===== the model's asking calls without rows of its own ===== -/
theorem add_or : ∀ S : Fin 256, ∀ n : Fin 8, S.val.testBit n.val = false → S.val + 2 ^ n.val = S.val ||| 2 ^ n.val := by decide +kernel
theorem sB_add {S n w : Int} {Q : Int → Prop} (a : sB S Q) (n0 : 0 ≤ n) (n7 : n ≤ 7) (hn : ¬ Q n) (ew : w = pwI n) : sB (S + w) (fun r => Q r ∨ r = n) := by
  have e : S + w = orI S (pwI n) := by
    subst ew
    have hb : ¬ hbt S n := fun q => hn ((a.2 n n0 n7).mp q)
    have hs := a.1.2
    obtain ⟨s, rfl⟩ := Int.eq_ofNat_of_zero_le a.1.1
    obtain ⟨m, rfl⟩ := Int.eq_ofNat_of_zero_le n0
    have k : s + 2 ^ m = s ||| 2 ^ m := add_or ⟨s, by omega⟩ ⟨m, by omega⟩ (Bool.eq_false_iff.mpr (fun q => hb q))
    show (s : Int) + ((2 ^ m : Nat) : Int) = ((s ||| 2 ^ m : Nat) : Int)
    rw [← k]
    exact (Int.natCast_add _ _).symm
  rw [e]
  exact sB_or a (sB_pw n0 n7)
def sRp (F : Int → Int) : Prop := ∃ (f g : Int → Int) (s : Int), Rep f g s F ∧ Srt f s
theorem rk_ex {F f g : Int → Int} {s j : Int} (hT : sRp F) (hr : Rep f g s F) (j0 : 0 ≤ j) (j1 : j < s) : (0 ≤ nF F (ltP (f j)) ∧ nF F (ltP (f j)) < s) ∧ cR F (nF F (ltP (f j))) = f j := by
  obtain ⟨f0, g0, s0, r0, t0⟩ := hT
  have es := Rep_sz hr r0
  subst es
  obtain ⟨m, m0, m1, e⟩ := Rep_ex r0 (Rep_yes hr j0 j1 rfl).2.1
  rw [← e, rk_srt r0 t0 m0 m1]
  exact ⟨⟨m0, m1⟩, cR_eq r0 t0 m0 m1⟩
theorem rk_co {F f g : Int → Int} {s r : Int} (hT : sRp F) (hr : Rep f g s F) (r0 : 0 ≤ r) (r1 : r < s) : ∃ j : Int, 0 ≤ j ∧ j < s ∧ f j = cR F r ∧ nF F (ltP (f j)) = r := by
  obtain ⟨f0, g0, s0, q0, t0⟩ := hT
  have es := Rep_sz hr q0
  subst es
  obtain ⟨j, j0, j1, e⟩ := Rep_ex hr (Rep_yes q0 r0 r1 rfl).2.1
  refine ⟨j, j0, j1, by rw [e, cR_eq q0 t0 r0 r1], by rw [e, rk_srt q0 t0 r0 r1]⟩
def hmP (x : Int) (F f : Int → Int) (p k : Int) : Prop := sB x (fun r => ∃ j : Int, (0 ≤ j ∧ j < k) ∧ nF F (ltP (f j)) = r ∧ f j % 100 ≤ p ∧ p ≤ f j / 100)
section HM
variable {F f g : Int → Int} {x p k s y w i : Int}
theorem hm_0 : hmP 0 F f p 0 := sB_cg sB_0 (fun r _ _ => ⟨fun h => h.elim, fun ⟨j, hj, _⟩ => by omega⟩)
theorem hm_n (h : hmP x F f p k) (hn : ¬ (f k % 100 ≤ p ∧ p ≤ f k / 100)) : hmP x F f p (k + 1) := sB_cg h (fun r _ _ => ⟨fun ⟨j, hj, e, q⟩ => ⟨j, ⟨hj.1, by omega⟩, e, q⟩, fun ⟨j, hj, e, q⟩ => by
  by_cases c : j = k
  · subst c; exact absurd q hn
  · exact ⟨j, ⟨hj.1, by omega⟩, e, q⟩⟩)
theorem hm_y (hT : sRp F) (hr : Rep f g s F) (h : hmP x F f p k) (k0 : 0 ≤ k) (k1 : k < s) (s8 : s ≤ 8) (hh : f k % 100 ≤ p ∧ p ≤ f k / 100) (ey : y = nF F (ltP (f k))) (ew : w = pwI y) : hmP (x + w) F f p (k + 1) := by
  have hk := rk_ex hT hr k0 k1
  rw [← ey] at hk
  have a := sB_add h hk.1.1 (by omega) (fun ⟨j, hj, e, _⟩ => by
    have hj2 := rk_ex hT hr (j := j) hj.1 (by omega)
    rw [e] at hj2
    have := Rep_inj hr hj.1 (by omega) k0 k1 (hj2.2.symm.trans hk.2)
    omega) ew
  refine sB_cg a (fun r _ _ => ⟨fun q => ?_, fun ⟨j, hj, e, q⟩ => ?_⟩)
  · rcases q with ⟨j, hj, e, q⟩ | q
    · exact ⟨j, ⟨hj.1, by omega⟩, e, q⟩
    · exact ⟨k, ⟨k0, by omega⟩, by rw [← ey, q], hh⟩
  · by_cases c : j = k
    · subst c; exact Or.inr (by rw [← e, ey])
    · exact Or.inl ⟨j, ⟨hj.1, by omega⟩, e, q⟩
theorem hm_e (hT : sRp F) (hr : Rep f g s F) (h : hmP x F f p i) (e : i = s) : anHold F p = x := by
  subst e
  obtain ⟨f0, g0, s0, r0, t0⟩ := id hT
  have es := Rep_sz hr r0
  subst es
  refine hold_e r0 t0 (sB_cg h (fun r r0' _ => ⟨fun ⟨j, hj, e, q⟩ => ?_, fun ⟨q1, q2⟩ => ?_⟩))
  · obtain ⟨⟨a0, a1⟩, a2⟩ := rk_ex hT hr hj.1 hj.2
    rw [e] at a0 a1 a2
    refine ⟨a1, ?_⟩
    show f0 r % 100 ≤ p ∧ p ≤ f0 r / 100
    rw [← cR_eq r0 t0 a0 a1, a2]; exact q
  · obtain ⟨j, j0, j1, e, er⟩ := rk_co hT hr r0' q1
    have q2 : f0 r % 100 ≤ p ∧ p ≤ f0 r / 100 := q2
    rw [← cR_eq r0 t0 r0' q1, ← e] at q2
    exact ⟨j, ⟨j0, j1⟩, er, q2⟩
/-! the chain -/
theorem eb_P {z : Prop} {b : Int} {P : Int → Bool} (h : ebP z b f P i) : b = -1 ∨ P b = true := by
  rcases h with ⟨h, -⟩ | ⟨-, -, h, -⟩
  · exact Or.inl h
  · exact Or.inr h
theorem eb_fr {z : Prop} {b t : Int} (h : ebP z b f (frP t) i) : b = -1 ∨ t < b % 100 := (eb_P h).imp id of_decide_eq_true
theorem eb_ho {z : Prop} {b : Int} (h : ebP z b f (hoP p) i) : b = -1 ∨ (b % 100 ≤ p ∧ p ≤ b / 100) := (eb_P h).imp id of_decide_eq_true
def chQ (F : Int → Int) (n t c : Int) : Prop := moP F n.toNat ∧ t = eN F n.toNat ∧ (n = 0 ∨ c = chn F (n - 1).toNat)
theorem chQ_0 : chQ F 0 (-1) (-1) := ⟨fun j h => absurd h (Nat.not_lt_zero _), rfl, Or.inl rfl⟩
theorem chQ_l {n t c : Int} (h : chQ F n t c) : chn F n.toNat = lst F (frP t) := by rw [chn_e _ h.1, h.2.1]
theorem chQ_d {n t c k : Int} (h : chQ F n t c) (hx : x = lst F (frP t)) (e : x = -1) (n0 : 0 ≤ n) (hk : n ≤ k) : chn F k.toNat = -1 := by
  have := chn_d (F := F) (n := n.toNat) (by rw [chQ_l h, ← hx, e]) (k - n).toNat
  rw [show n.toNat + (k - n).toNat = k.toNat by omega] at this
  exact this
theorem chQ_s {n t c t2 : Int} (h : chQ F n t c) (n0 : 0 ≤ n) (hx : x = lst F (frP t)) (e : x ≠ -1) (et : t2 = x / 100) : chQ F (n + 1) t2 x := ⟨fun j hj => by
  by_cases q : j < n.toNat
  · exact h.1 j q
  · rw [show j = n.toNat by omega, chQ_l h, ← hx]; exact e, by
  rw [show (n + 1).toNat = n.toNat + 1 by omega]
  show t2 = chn F n.toNat / 100
  rw [chQ_l h, ← hx, et], Or.inr (by rw [show n + 1 - 1 = n by omega, chQ_l h, ← hx])⟩
theorem chQ_e {n t c k : Int} (h : chQ F n t c) (k0 : 0 ≤ k) (e : n = k + 1) : chn F k.toNat = c := by
  rcases h.2.2 with q | q
  · omega
  · rw [q, show n - 1 = k by omega]
theorem mo_s {n : Int} (h : moP F n.toNat) (n0 : 0 ≤ n) (hy : chn F n.toNat ≠ -1) : moP F (n + 1).toNat := fun j hj => by
  by_cases q : j < n.toNat
  · exact h j q
  · rw [show j = n.toNat by omega]; exact hy
theorem mo_0 : moP F (0 : Int).toNat := fun j h => absurd h (Nat.not_lt_zero _)
/-! the deepest place, place by place -/
def dmQ (F : Int → Int) (d b i : Int) : Prop := ((b = -1 ∧ d = 0) ∨ ((0 ≤ b ∧ b < i) ∧ 0 < d ∧ d = dpF F b)) ∧ (∀ q : Int, 0 ≤ q → q < i → dpF F q ≤ d) ∧ ∀ q : Int, 0 ≤ q → q < b → dpF F q < d
theorem dpz90 : dmQ F 0 (-1) 0 := ⟨Or.inl ⟨rfl, rfl⟩, fun q q0 q1 => by omega, fun q q0 q1 => by omega⟩
theorem dpz9n {d b : Int} (h : dmQ F d b i) (hy : y = dpF F i) (c : y ≤ d) : dmQ F d b (i + 1) := ⟨h.1.imp id (fun q => ⟨⟨q.1.1, by omega⟩, q.2⟩), fun q q0 q1 => by
  by_cases e : q = i
  · rw [e, ← hy]; exact c
  · exact h.2.1 q q0 (by omega), h.2.2⟩
theorem dpz9y {d b : Int} (h : dmQ F d b i) (i0 : 0 ≤ i) (d0 : 0 ≤ d) (hy : y = dpF F i) (c : d < y) : dmQ F y i (i + 1) := ⟨Or.inr ⟨⟨i0, by omega⟩, by omega, hy⟩, fun q q0 q1 => by
  by_cases e : q = i
  · rw [e, ← hy]; exact Int.le_refl _
  · have := h.2.1 q q0 (by omega); omega, fun q q0 q1 => by have := h.2.1 q q0 q1; omega⟩
theorem dpz9e {d b : Int} (h : dmQ F d b i) (hr : Rep f g s F) (hok : ∀ j : Int, 0 ≤ j → j < s → f j % 100 ≤ f j / 100) (e : i = 100) : isDp F b ∧ d = dpF F b := by
  subst e
  rcases h.1 with ⟨e, e'⟩ | ⟨q0, q1, q2⟩
  · have hz : ∀ c, F c = -1 := fun c => Classical.byContradiction fun hc => by
      obtain ⟨j, j0, j1, rfl⟩ := Rep_ex hr hc
      have h1 := dp_own (f := f) (s := s) hr.1.1 j0 j1 (hok j j0 j1)
      have h2 := h.2.1 (f j % 100) (by omega) (by omega)
      rw [dp_e hr] at h2
      omega
    exact ⟨Or.inl ⟨e, hz⟩, by rw [dp_0 hz hr]; exact e'⟩
  · exact ⟨Or.inr ⟨⟨q0.1, by omega⟩, by omega, fun q a0 a1 => by rw [← q2]; exact h.2.1 q a0 (by omega), fun q a0 a1 => by rw [← q2]; exact h.2.2 q a0 a1⟩, q2⟩
theorem dpz9p {d b : Int} (h : isDp F b ∧ d = dpF F b) (hr : Rep f g s F) {z : Int} : (z ≠ 0 → anDeep F z = b) ∧ (z = 0 → anDeep F z = d) := ⟨fun hz => deep_1 hr h.1 hz, fun hz => deep_0 hr h.1 hz (by rw [h.2, dp_e hr])⟩
/-! the links -/
theorem lk_s {a b n : Int} (h : lkOK F a b n.toNat) (n0 : 0 ≤ n) (hp : p = pl F a n.toNat) (c : p ≤ b) (hy : y = gh F p) (hn : y ≠ -1) : lkOK F a b (n + 1).toNat := fun j hj => by
  by_cases q : j < n.toNat
  · exact h j q
  · rw [show j = n.toNat by omega, ← hp, ← hy]; exact ⟨c, hn⟩
theorem pl_s {a n q : Int} (n0 : 0 ≤ n) (hp : p = pl F a n.toNat) (hy : y = gh F p) (e : q = y / 100 + 1) : q = pl F a (n + 1).toNat := by
  rw [show (n + 1).toNat = n.toNat + 1 by omega]
  show q = gh F (pl F a n.toNat) / 100 + 1
  rw [← hp, ← hy, e]
theorem lk_g {a b n k : Int} (h : lkX F a b y) (hk : k < y) (n0 : 0 ≤ n) (n1 : n ≤ k) (hp : p = pl F a n.toNat) : gh F p ≠ -1 := by
  rcases h with ⟨h0, h1, -⟩ | ⟨h0, -⟩
  · rw [hp]; exact (h1 n.toNat (by omega)).2
  · omega
theorem anLink_n {a b k : Int} (h : lkX F a b y) (hk : y ≤ k) : anLink F a b k = -1 := by
  unfold anLink
  rw [links_e h, if_pos hk]
theorem anLink_y {a b k : Int} (h : lkX F a b y) (hk : k < y) (hp : p = pl F a k.toNat) (hx : x = gh F p) : anLink F a b k = x := by
  unfold anLink
  rw [links_e h, if_neg (by omega), hx, hp]
end HM
theorem CA_ok {u : List Value} {s : Int} (au : arr 8 okC u) (s8 : s ≤ 8) : ∀ j : Int, 0 ≤ j → j < s → cv u j % 100 ≤ cv u j / 100 := fun j j0 j1 => (arr_cv au j0 (by omega)).2.2
set_option maxHeartbeats 4000000 in
set_option maxRecDepth 100000 in
/-- EarlyendsModel.holdersOf -/
theorem n_X8_holdersOf (l : Launch) (hl : l.stackTraces = false) {kc km : Int} {h : dm_H} (hI : Inv kc km h) {th : Int} {σ : St} (hM : MSt km th σ h) {a1 : Int} (h1a : 0 ≤ a1) (h1b : a1 ≤ 2) {a2 : Int} (h2a : 0 ≤ a2) (h2b : a2 ≤ 99) {r q : Nat} {u w us : List Value} (er : (r : Int) = (28 : Nat) + a1) (eq : (q : Int) = (32 : Nat) + a1) (hu : h[r]? = some (20, u)) (hw : h[q]? = some (20, w)) (au : arr 8 okC u) (aw : arr 8 anyI w) (h35 : h[35]? = some (20, us)) (as : arr 3 okS us) (hr : Rep (cv u) (cv w) (cv us a1) (σ.1 a1)) (s0 : 0 ≤ cv us a1) (s8 : cv us a1 ≤ 8) (hT : sSt σ) : dm_M l 198 1 0 0 [.ref 26, dI (a1), dI (a2)] h (QP h (RI (fun x => 0 ≤ x ∧ x ≤ 255 ∧ anHold (σ.1 a1) a2 = x)) []) := by
  obtain ⟨⟨ni, c26, ni0, ni1⟩, ⟨⟨R1, R2⟩, ⟨R3, R4⟩, ⟨R5, R6⟩, ⟨R7, R8⟩, ⟨R9, R10⟩, ⟨R11, R12⟩, R13⟩, ⟨th0, th1⟩, -⟩ := id hM
  have R14 : σ.2.2.2.2.2.1 = -1 ∨ (0 ≤ σ.2.2.2.2.2.1 ∧ σ.2.2.2.2.2.1 ≤ 9999 ∧ σ.2.2.2.2.2.1 % 100 ≤ σ.2.2.2.2.2.1 / 100) := R13
  have mr : isCR r := isCR_of er (by omega) (by omega)
  have mq : isNR q := isNR_of eq (by omega) (by omega)
  refine dm_M_of dk_198 hl rfl (Nat.le_of_ble_eq_true rfl) ?_
  show dm_W (fun _ _ _ => True) (dm_P (QP h (RI (fun x => 0 ≤ x ∧ x ≤ 255 ∧ anHold (σ.1 a1) a2 = x)) []) 0 0) l 198 1 0 0 0 [some (.ref 26), some (dI (a1)), some (dI (a2)), none, none] [] h 0 0
  refine di_const rfl ?_
  refine di_istore_n (ls2 := [some (.ref 26), some (dI (a1)), some (dI (a2)), some (dI (0)), none]) rfl rfl rfl ?_
  refine di_const rfl ?_
  refine di_istore (ls2 := [some (.ref 26), some (dI (a1)), some (dI (a2)), some (dI (0)), some (dI (0))]) rfl rfl rfl ?_
  have L3 : ∀ (n : Nat) (i1 : Int) (i2 : Int), (8 - i2).toNat < n → 0 ≤ i1 → i1 ≤ 255 → 0 ≤ i2 → i2 ≤ 8 → i2 ≤ cv us a1 → hmP i1 (σ.1 a1) (cv u) a2 i2 → dm_W (fun _ _ _ => True) (dm_P (QP h (RI (fun x => 0 ≤ x ∧ x ≤ 255 ∧ anHold (σ.1 a1) a2 = x)) []) 0 0) l 198 1 0 0 5 [some (.ref 26), some (dI (a1)), some (dI (a2)), some (dI (i1)), some (dI (i2))] [] h 0 0 := by
    intro n
    induction n with
    | zero => intro i1 i2 hm; exact absurd hm (Nat.not_lt_zero _)
    | succ n ih =>
      intro i1 i2 hm10 hb4 hb5 hb6 hb7 hx8 PS
      have ihL3 := ih
      clear ih
      refine dr_iload rfl rfl ?_
      refine di_aload_n rfl rfl ?_
      refine dr_getf rfl c26 rfl ?_
      refine dr_iload_n rfl rfl ?_
      refine di_iald rfl h35 as (by omega) (by omega) (fun x11 x11f x11a x11b x11v => ?_)
      have x11w : cv us a1 = x11 := cv_eq x11v x11a x11b
      have x11g : 0 ≤ x11 ∧ x11 ≤ 8 := x11f
      refine di_icmp_ge rfl rfl (by omega) (by omega) (by omega) (by omega) (fun c12 => ?_) (fun c12 => ?_)
      · skip
        refine dr_iload_n rfl rfl ?_
        exact dr_iret (ty := .int) rfl rfl rfl (by decide) (by decide) ⟨rfl, i1, ⟨by omega, by omega, hm_e (hT a1 h1a h1b) hr PS (by omega)⟩, by omega, by omega, rfl⟩
      · skip
        refine di_aload_n rfl rfl ?_
        refine dr_getf rfl c26 rfl ?_
        refine dr_iload_n rfl rfl ?_
        have hc13 := I_mcs hI
        refine paaE (k0 := 28) er rfl hc13 (by omega) (by omega) ?_
        refine dr_iload rfl rfl ?_
        refine di_iald rfl hu au (by omega) (by omega) (fun x14 x14f x14a x14b x14v => ?_)
        have x14w : cv u i2 = x14 := cv_eq x14v x14a x14b
        have x14g : 0 ≤ x14 ∧ x14 ≤ 9999 ∧ x14 % 100 ≤ x14 / 100 := x14f
        refine dr_iload_n rfl rfl ?_
        refine dr_stat rfl rfl rfl rfl (s_X8_isHolding_d l hl hI (a0 := x14) (by omega) (by omega) (a1 := a2) (by omega) (by omega)) (by decide) (by decide) (by decide) (Nat.le_of_ble_eq_true rfl) kNP (kIP (fun y15 y15f y15a y15b => ?_))
        obtain ⟨y15c, y15d, y15k, y15k2⟩ := y15f
        refine di_if_eq rfl rfl (by omega) (by omega) (fun c16 => ?_) (fun c16 => ?_)
        · skip
          refine di_iinc (ls2 := [some (.ref 26), some (dI (a1)), some (dI (a2)), some (dI (i1)), some (dI ((i2 + 1)))]) rfl rfl rfl rfl ?_
          refine dr_goto rfl rfl ?_
          exact ihL3 (i1) ((i2 + 1)) (by omega) (by omega) (by omega) (by omega) (by omega) (by omega)  (hm_n PS (by omega))
        · skip
          refine dr_iload_n rfl rfl ?_
          refine di_const rfl ?_
          refine di_aload_n rfl rfl ?_
          refine dr_iload_n rfl rfl ?_
          refine di_aload_n rfl rfl ?_
          refine dr_getf rfl c26 rfl ?_
          refine dr_iload_n rfl rfl ?_
          refine paaE (k0 := 28) er rfl hc13 (by omega) (by omega) ?_
          refine dr_iload rfl rfl ?_
          refine di_iald rfl hu au (by omega) (by omega) (fun x17 x17f x17a x17b x17v => ?_)
          have x17w : cv u i2 = x17 := cv_eq x17v x17a x17b
          have x17g : 0 ≤ x17 ∧ x17 ≤ 9999 ∧ x17 % 100 ≤ x17 / 100 := x17f
          refine dr_virt rfl rfl rfl rfl c26 (n_X8_rankOf l hl hI hM (a1 := a1) (by omega) (by omega) (a2 := x17) (by omega) (by omega) er eq hu hw au aw h35 as hr s0 s8) (by decide) (by decide) (by decide) (Nat.le_of_ble_eq_true rfl) kNP (kIP (fun y18 y18f y18a y18b => ?_))
          obtain ⟨y18c, y18d, y18k⟩ := y18f
          subst y18k
          refine di_shl8 rfl (by omega) (by omega) (fun w19 w19a w19b w19e => ?_)
          refine di_iadd rfl ?_
          have hmq : hmP (i1 + w19) (σ.1 a1) (cv u) a2 (i2 + 1) := hm_y (hT a1 h1a h1b) hr PS (by omega) (by omega) s8 (by omega) (by rw [x17w]) w19e
          have hmb := hmq.1
          refine di_istore_n (ls2 := [some (.ref 26), some (dI (a1)), some (dI (a2)), some (dI ((i1 + w19))), some (dI (i2))]) rfl rfl rfl ?_
          refine di_iinc (ls2 := [some (.ref 26), some (dI (a1)), some (dI (a2)), some (dI ((i1 + w19))), some (dI ((i2 + 1)))]) rfl rfl rfl rfl ?_
          refine dr_goto rfl rfl ?_
          exact ihL3 ((i1 + w19)) ((i2 + 1)) (by omega) (by omega) (by omega) (by omega) (by omega) (by omega)  hmq
  exact L3 _ (0) (0) (Nat.lt_succ_self _) (by omega) (by omega) (by omega) (by omega) (by omega)  hm_0
set_option maxHeartbeats 4000000 in
set_option maxRecDepth 100000 in
/-- EarlyendsModel.holders -/
theorem n_X8_holders (l : Launch) (hl : l.stackTraces = false) {kc km : Int} {h : dm_H} (hI : Inv kc km h) {th : Int} {σ : St} (hM : MSt km th σ h) {a1 : Int} (h1a : -2147483648 ≤ a1) (h1b : a1 ≤ 2147483647) {a2 : Int} (h2a : -2147483648 ≤ a2) (h2b : a2 ≤ 2147483647) (hT : sSt σ) : dm_M l 199 8 0 0 [.ref 26, dI (a1), dI (a2)] h (QM9 kc km h (spHolders σ a1 a2)) := by
  obtain ⟨⟨ni, c26, ni0, ni1⟩, ⟨⟨R1, R2⟩, ⟨R3, R4⟩, ⟨R5, R6⟩, ⟨R7, R8⟩, ⟨R9, R10⟩, ⟨R11, R12⟩, R13⟩, ⟨th0, th1⟩, -⟩ := id hM
  have R14 : σ.2.2.2.2.2.1 = -1 ∨ (0 ≤ σ.2.2.2.2.2.1 ∧ σ.2.2.2.2.2.1 ≤ 9999 ∧ σ.2.2.2.2.2.1 % 100 ≤ σ.2.2.2.2.2.1 / 100) := R13
  refine dm_M_of dk_199 hl rfl (Nat.le_of_ble_eq_true rfl) ?_
  show dm_W (fun _ _ _ => True) (dm_P (QM9 kc km h (spHolders σ a1 a2)) 0 0) l 199 8 0 0 0 [some (.ref 26), some (dI (a1)), some (dI (a2))] [] h 0 0
  refine di_aload_n rfl rfl ?_
  refine dr_iload_n rfl rfl ?_
  refine dr_stat rfl rfl rfl rfl (f_X8_isNoBook l hl hI (a0 := a1) (by omega) (by omega)) (by decide) (by decide) (by decide) (Nat.le_of_ble_eq_true rfl) kNP (kIP (fun y1 y1f y1a y1b => ?_))
  have y1g : 0 ≤ y1 ∧ y1 ≤ 1 ∧ (y1 = 0 → 0 ≤ a1 ∧ a1 ≤ 2) ∧ (y1 = 1 → a1 < 0 ∨ 2 < a1) := y1f
  clear y1f
  refine di_const rfl ?_
  rcases (by omega : y1 = 0 ∨ y1 = 1) with ey2 | ey2
  · skip
    rw [ey2]
    refine dr_virt rfl rfl rfl rfl c26 (f_X8_start0 l hl hI hM (a2 := 1) (by omega) (by omega)) (by decide) (by decide) (by decide) (Nat.le_of_ble_eq_true rfl) kNQN (kNQ (fun h3 hI4 hF5 hM6 => ?_))
    have hF7 := FrM_tr FrM_rf hF5
    refine di_if_ne rfl rfl (by omega) (by omega) (fun c9 => by exfalso; omega) (fun _ => ?_)
    refine di_aload_n rfl rfl ?_
    refine dr_iload_n rfl rfl ?_
    refine dr_stat rfl rfl rfl rfl (f_X8_isNo99 l hl hI4 (a0 := a2) (by omega) (by omega)) (by decide) (by decide) (by decide) (Nat.le_of_ble_eq_true rfl) kNP (kIP (fun y8 y8f y8a y8b => ?_))
    have y8g : 0 ≤ y8 ∧ y8 ≤ 1 ∧ (y8 = 0 → 0 ≤ a2 ∧ a2 ≤ 99) ∧ (y8 = 1 → a2 < 0 ∨ 99 < a2) := y8f
    clear y8f
    refine di_const rfl ?_
    obtain ⟨⟨ni10, ni10c, ni10a, ni10b⟩, -⟩ := id hM6
    rcases (by omega : y8 = 0 ∨ y8 = 1) with ey11 | ey11
    · skip
      rw [ey11]
      refine dr_virt rfl rfl rfl rfl ni10c (f_X8_refuse0 l hl hI4 hM6 (a2 := 2) (by omega) (by omega)) (by decide) (by decide) (by decide) (Nat.le_of_ble_eq_true rfl) kNQN (kNQ (fun h12 hI13 hF14 hM15 => ?_))
      have hF16 := FrM_tr hF7 hF14
      refine di_if_eq rfl rfl (by omega) (by omega) (fun _ => ?_) (fun c9 => by exfalso; omega)
      refine di_aload_n rfl rfl ?_
      refine dr_iload_n rfl rfl ?_
      refine dr_iload_n rfl rfl ?_
      obtain ⟨⟨ni17, ni17c, ni17a, ni17b⟩, -⟩ := id hM15
      obtain ⟨r18, q19, u20, w21, us22, er23, eq24, hu25, hw26, au27, aw28, hs29, as30, hr31, sa32, sb33⟩ := MSt_bk hM15 (k := a1) (by omega) (by omega)
      have hz34 : zF (σ.1 a1) = cv us22 a1 := zF_eq hr31
      have mr35 : isCR r18 := isCR_of er23 (by omega) (by omega)
      have mq36 : isNR q19 := isNR_of eq24 (by omega) (by omega)
      refine dr_virt rfl rfl rfl rfl ni17c (n_X8_holdersOf l hl hI13 hM15 (a1 := a1) (by omega) (by omega) (a2 := a2) (by omega) (by omega) er23 eq24 hu25 hw26 au27 aw28 hs29 as30 hr31 sa32 sb33 hT) (by decide) (by decide) (by decide) (Nat.le_of_ble_eq_true rfl) kNP (kIP (fun y37 y37f y37a y37b => ?_))
      obtain ⟨y37c, y37d, y37k⟩ := y37f
      have e9 : anHold (σ.1 a1) a2 = y37 := y37k
      exact dr_iret (ty := .int) rfl rfl rfl (by decide) (by decide) (QM_ok hI13 hF16 hM15 (by omega) (by omega) (by unfold spHolders; (try rw [e9]); (repeat' split) <;> first | rfl | (exfalso; omega) | (apply Prod.ext <;> first | rfl | (dsimp only; omega) | (apply Prod.ext <;> first | rfl | (dsimp only; omega)))))
    · skip
      rw [ey11]
      refine dr_virt rfl rfl rfl rfl ni10c (f_X8_refuse1 l hl hI4 hM6 (a2 := 2) (by omega) (by omega)) (by decide) (by decide) (by decide) (Nat.le_of_ble_eq_true rfl) kNQN (kNQ (fun h38 hI39 hF40 hM41 => ?_))
      have hF42 := FrM_tr hF7 hF40
      refine di_if_eq rfl rfl (by omega) (by omega) (fun c9 => by exfalso; omega) (fun _ => ?_)
      refine di_const rfl ?_
      exact dr_iret (ty := .int) rfl rfl rfl (by decide) (by decide) (QM_no (x := 0) hI39 hF42 hM41 (by omega) (by omega) (by omega) (by unfold spHolders; (repeat' split) <;> first | rfl | (exfalso; omega) | (apply Prod.ext <;> first | rfl | (dsimp only; omega) | (apply Prod.ext <;> first | rfl | (dsimp only; omega)))))
  · skip
    rw [ey2]
    refine dr_virt rfl rfl rfl rfl c26 (f_X8_start1 l hl hI hM (a2 := 1) (by omega) (by omega)) (by decide) (by decide) (by decide) (Nat.le_of_ble_eq_true rfl) kNQN (kNQ (fun h43 hI44 hF45 hM46 => ?_))
    have hF47 := FrM_tr FrM_rf hF45
    refine di_if_ne rfl rfl (by omega) (by omega) (fun _ => ?_) (fun c9 => by exfalso; omega)
    refine di_const rfl ?_
    exact dr_iret (ty := .int) rfl rfl rfl (by decide) (by decide) (QM_no (x := 0) hI44 hF47 hM46 (by omega) (by omega) (by omega) (by unfold spHolders; (repeat' split) <;> first | rfl | (exfalso; omega) | (apply Prod.ext <;> first | rfl | (dsimp only; omega) | (apply Prod.ext <;> first | rfl | (dsimp only; omega)))))
set_option maxHeartbeats 4000000 in
set_option maxRecDepth 100000 in
/-- EarlyendsModel.chosenAt -/
theorem n_X8_chosenAt (l : Launch) (hl : l.stackTraces = false) {kc km : Int} {h : dm_H} (hI : Inv kc km h) {th : Int} {σ : St} (hM : MSt km th σ h) {a1 : Int} (h1a : 0 ≤ a1) (h1b : a1 ≤ 2) {a2 : Int} (h2a : 0 ≤ a2) (h2b : a2 ≤ 2147483647) {r q : Nat} {u w us : List Value} (er : (r : Int) = (28 : Nat) + a1) (eq : (q : Int) = (32 : Nat) + a1) (hu : h[r]? = some (20, u)) (hw : h[q]? = some (20, w)) (au : arr 8 okC u) (aw : arr 8 anyI w) (h35 : h[35]? = some (20, us)) (as : arr 3 okS us) (hr : Rep (cv u) (cv w) (cv us a1) (σ.1 a1)) (s0 : 0 ≤ cv us a1) (s8 : cv us a1 ≤ 8) : dm_M l 189 0 0 0 [.ref 26, dI (a1), dI (a2)] h (QP h (RI (fun x => -1 ≤ x ∧ x ≤ 9999 ∧ (x = -1 ∨ (0 ≤ x ∧ x % 100 ≤ x / 100 ∧ a2 ≤ 99)) ∧ chn (σ.1 a1) a2.toNat = x)) []) := by
  obtain ⟨⟨ni, c26, ni0, ni1⟩, ⟨⟨R1, R2⟩, ⟨R3, R4⟩, ⟨R5, R6⟩, ⟨R7, R8⟩, ⟨R9, R10⟩, ⟨R11, R12⟩, R13⟩, ⟨th0, th1⟩, -⟩ := id hM
  have R14 : σ.2.2.2.2.2.1 = -1 ∨ (0 ≤ σ.2.2.2.2.2.1 ∧ σ.2.2.2.2.2.1 ≤ 9999 ∧ σ.2.2.2.2.2.1 % 100 ≤ σ.2.2.2.2.2.1 / 100) := R13
  have mr : isCR r := isCR_of er (by omega) (by omega)
  have mq : isNR q := isNR_of eq (by omega) (by omega)
  refine dm_M_of dk_189 hl rfl (Nat.le_of_ble_eq_true rfl) ?_
  show dm_W (fun _ _ _ => True) (dm_P (QP h (RI (fun x => -1 ≤ x ∧ x ≤ 9999 ∧ (x = -1 ∨ (0 ≤ x ∧ x % 100 ≤ x / 100 ∧ a2 ≤ 99)) ∧ chn (σ.1 a1) a2.toNat = x)) []) 0 0) l 189 0 0 0 0 [some (.ref 26), some (dI (a1)), some (dI (a2)), none, none, none, none] [] h 0 0
  refine di_const rfl ?_
  refine di_istore_n (ls2 := [some (.ref 26), some (dI (a1)), some (dI (a2)), some (dI ((-1))), none, none, none]) rfl rfl rfl ?_
  refine di_const rfl ?_
  refine di_istore (ls2 := [some (.ref 26), some (dI (a1)), some (dI (a2)), some (dI ((-1))), some (dI ((-1))), none, none]) rfl rfl rfl ?_
  refine di_const rfl ?_
  refine di_istore (ls2 := [some (.ref 26), some (dI (a1)), some (dI (a2)), some (dI ((-1))), some (dI ((-1))), some (dI (0)), none]) rfl rfl rfl ?_
  have L4 : ∀ (n : Nat) (i1 : Int) (i2 : Int) (i3 : Int), (100 - i3).toNat < n → -1 ≤ i1 → i1 ≤ 99 → -1 ≤ i2 → i2 ≤ 9999 → 0 ≤ i3 → i3 ≤ 100 → i3 ≤ i1 + 1 → (i2 = -1 ∨ (0 ≤ i2 ∧ i2 % 100 ≤ i2 / 100)) → i3 ≤ a2 + 1 → chQ (σ.1 a1) i3 i1 i2 → dm_W (fun _ _ _ => True) (dm_P (QP h (RI (fun x => -1 ≤ x ∧ x ≤ 9999 ∧ (x = -1 ∨ (0 ≤ x ∧ x % 100 ≤ x / 100 ∧ a2 ≤ 99)) ∧ chn (σ.1 a1) a2.toNat = x)) []) 0 0) l 189 0 0 0 8 [some (.ref 26), some (dI (a1)), some (dI (a2)), some (dI (i1)), some (dI (i2)), some (dI (i3)), none] [] h 0 0 := by
    intro n
    induction n with
    | zero => intro i1 i2 i3 hm; exact absurd hm (Nat.not_lt_zero _)
    | succ n ih =>
      intro i1 i2 i3 hm15 hb5 hb6 hb7 hb8 hb10 hb11 hx12 hx13 hx14 PQ
      have ihL4 := ih
      clear ih
      refine dr_iload rfl rfl ?_
      refine dr_iload_n rfl rfl ?_
      refine di_icmp_gt rfl rfl (by omega) (by omega) (by omega) (by omega) (fun c16 => ?_) (fun c16 => ?_)
      · skip
        refine dr_iload rfl rfl ?_
        exact dr_iret (ty := .int) rfl rfl rfl (by decide) (by decide) ⟨rfl, i2, ⟨by omega, by omega, by omega, chQ_e PQ (by omega) (by omega)⟩, by omega, by omega, rfl⟩
      · skip
        refine di_const rfl ?_
        refine di_istore (ls2 := [some (.ref 26), some (dI (a1)), some (dI (a2)), some (dI (i1)), some (dI ((-1))), some (dI (i3)), none]) rfl rfl rfl ?_
        refine di_const rfl ?_
        refine di_istore (ls2 := [some (.ref 26), some (dI (a1)), some (dI (a2)), some (dI (i1)), some (dI ((-1))), some (dI (i3)), some (dI (0))]) rfl rfl rfl ?_
        have L19 : ∀ (n : Nat) (i17 : Int) (i18 : Int), (8 - i18).toNat < n → -1 ≤ i17 → i17 ≤ 9999 → 0 ≤ i18 → i18 ≤ 8 → (i17 = -1 ∨ (0 ≤ i17 ∧ i17 % 100 ≤ i17 / 100 ∧ i1 < i17 % 100)) → i18 ≤ cv us a1 → ebP ((1 : Int) = 0) i17 (cv u) (frP i1) i18 → dm_W (fun _ _ _ => True) (dm_P (QP h (RI (fun x => -1 ≤ x ∧ x ≤ 9999 ∧ (x = -1 ∨ (0 ≤ x ∧ x % 100 ≤ x / 100 ∧ a2 ≤ 99)) ∧ chn (σ.1 a1) a2.toNat = x)) []) 0 0) l 189 0 0 0 20 [some (.ref 26), some (dI (a1)), some (dI (a2)), some (dI (i1)), some (dI (i17)), some (dI (i3)), some (dI (i18))] [] h 0 0 := by
          intro n
          induction n with
          | zero => intro i17 i18 hm; exact absurd hm (Nat.not_lt_zero _)
          | succ n ih =>
            intro i17 i18 hm26 hb20 hb21 hb22 hb23 hx24 hx25 PB
            have ihL19 := ih
            clear ih
            refine dr_iload rfl rfl ?_
            refine di_aload_n rfl rfl ?_
            refine dr_getf rfl c26 rfl ?_
            refine dr_iload_n rfl rfl ?_
            refine di_iald rfl h35 as (by omega) (by omega) (fun x27 x27f x27a x27b x27v => ?_)
            have x27w : cv us a1 = x27 := cv_eq x27v x27a x27b
            have x27g : 0 ≤ x27 ∧ x27 ≤ 8 := x27f
            refine di_icmp_ge rfl rfl (by omega) (by omega) (by omega) (by omega) (fun c28 => ?_) (fun c28 => ?_)
            · skip
              have ce9 := (eb_e PB hr (by omega)).2 (by decide)
              have cf9 := eb_fr PB
              refine dr_iload rfl rfl ?_
              refine di_const rfl ?_
              refine di_icmp_ne rfl rfl (by omega) (by omega) (by omega) (by omega) (fun c29 => ?_) (fun c29 => ?_)
              · skip
                refine dr_iload rfl rfl ?_
                refine di_bipush rfl (by decide) ?_
                refine di_idiv rfl (by omega) (by omega) (by omega) (by omega) ?_
                refine di_istore_n (ls2 := [some (.ref 26), some (dI (a1)), some (dI (a2)), some (dI ((i17 / 100))), some (dI (i17)), some (dI (i3)), some (dI (i18))]) rfl rfl rfl ?_
                refine di_iinc (ls2 := [some (.ref 26), some (dI (a1)), some (dI (a2)), some (dI ((i17 / 100))), some (dI (i17)), some (dI ((i3 + 1))), some (dI (i18))]) rfl rfl rfl rfl ?_
                refine dr_goto rfl rfl ?_
                refine dm_wk (ls2 := [some (.ref 26), some (dI (a1)), some (dI (a2)), some (dI ((i17 / 100))), some (dI (i17)), some (dI ((i3 + 1))), none]) ⟨Or.inr rfl, Or.inr rfl, Or.inr rfl, Or.inr rfl, Or.inr rfl, Or.inr rfl, Or.inl rfl, trivial⟩ ?_
                exact ihL4 ((i17 / 100)) (i17) ((i3 + 1)) (by omega) (by omega) (by omega) (by omega) (by omega) (by omega) (by omega) (by omega) (by omega) (by omega)  (chQ_s PQ (by omega) ce9 (by omega) (by omega))
              · skip
                refine di_const rfl ?_
                exact dr_iret (ty := .int) rfl rfl rfl (by decide) (by decide) ⟨rfl, (-1), ⟨by omega, by omega, by omega, chQ_d PQ ce9 (by omega) (by omega) (by omega)⟩, by omega, by omega, rfl⟩
            · skip
              refine di_aload_n rfl rfl ?_
              refine dr_getf rfl c26 rfl ?_
              refine dr_iload_n rfl rfl ?_
              have hc30 := I_mcs hI
              refine paaE (k0 := 28) er rfl hc30 (by omega) (by omega) ?_
              refine dr_iload rfl rfl ?_
              refine di_iald rfl hu au (by omega) (by omega) (fun x31 x31f x31a x31b x31v => ?_)
              have x31w : cv u i18 = x31 := cv_eq x31v x31a x31b
              have x31g : 0 ≤ x31 ∧ x31 ≤ 9999 ∧ x31 % 100 ≤ x31 / 100 := x31f
              refine di_bipush rfl (by decide) ?_
              refine di_irem rfl (by omega) (by omega) (by omega) (by omega) ?_
              refine dr_iload_n rfl rfl ?_
              refine di_icmp_le rfl rfl (by omega) (by omega) (by omega) (by omega) (fun c32 => ?_) (fun c32 => ?_)
              · skip
                refine di_iinc (ls2 := [some (.ref 26), some (dI (a1)), some (dI (a2)), some (dI (i1)), some (dI (i17)), some (dI (i3)), some (dI ((i18 + 1)))]) rfl rfl rfl rfl ?_
                refine dr_goto rfl rfl ?_
                exact ihL19 (i17) ((i18 + 1)) (by omega) (by omega) (by omega) (by omega) (by omega) (by omega) (by omega)  (eb_n PB x31w (frP_f (by omega)))
              · skip
                refine dr_iload rfl rfl ?_
                refine di_const rfl ?_
                refine di_icmp_eq rfl rfl (by omega) (by omega) (by omega) (by omega) (fun c33 => ?_) (fun c33 => ?_)
                · skip
                  refine di_aload_n rfl rfl ?_
                  refine dr_getf rfl c26 rfl ?_
                  refine dr_iload_n rfl rfl ?_
                  refine paaE (k0 := 28) er rfl hc30 (by omega) (by omega) ?_
                  refine dr_iload rfl rfl ?_
                  refine di_iald rfl hu au (by omega) (by omega) (fun x34 x34f x34a x34b x34v => ?_)
                  have x34w : cv u i18 = x34 := cv_eq x34v x34a x34b
                  have x34g : 0 ≤ x34 ∧ x34 ≤ 9999 ∧ x34 % 100 ≤ x34 / 100 := x34f
                  refine di_istore (ls2 := [some (.ref 26), some (dI (a1)), some (dI (a2)), some (dI (i1)), some (dI (x34)), some (dI (i3)), some (dI (i18))]) rfl rfl rfl ?_
                  refine di_iinc (ls2 := [some (.ref 26), some (dI (a1)), some (dI (a2)), some (dI (i1)), some (dI (x34)), some (dI (i3)), some (dI ((i18 + 1)))]) rfl rfl rfl rfl ?_
                  refine dr_goto rfl rfl ?_
                  exact ihL19 (x34) ((i18 + 1)) (by omega) (by omega) (by omega) (by omega) (by omega) (by omega) (by omega)  (eb_t PB (by omega) x34w (frP_t (by omega)) (by omega) (by omega) (by omega))
                · skip
                  refine di_aload_n rfl rfl ?_
                  refine dr_getf rfl c26 rfl ?_
                  refine dr_iload_n rfl rfl ?_
                  refine paaE (k0 := 28) er rfl hc30 (by omega) (by omega) ?_
                  refine dr_iload rfl rfl ?_
                  refine di_iald rfl hu au (by omega) (by omega) (fun x35 x35f x35a x35b x35v => ?_)
                  have x35w : cv u i18 = x35 := cv_eq x35v x35a x35b
                  have x35g : 0 ≤ x35 ∧ x35 ≤ 9999 ∧ x35 % 100 ≤ x35 / 100 := x35f
                  refine dr_iload rfl rfl ?_
                  refine di_icmp_ge rfl rfl (by omega) (by omega) (by omega) (by omega) (fun c36 => ?_) (fun c36 => ?_)
                  · skip
                    refine di_iinc (ls2 := [some (.ref 26), some (dI (a1)), some (dI (a2)), some (dI (i1)), some (dI (i17)), some (dI (i3)), some (dI ((i18 + 1)))]) rfl rfl rfl rfl ?_
                    refine dr_goto rfl rfl ?_
                    exact ihL19 (i17) ((i18 + 1)) (by omega) (by omega) (by omega) (by omega) (by omega) (by omega) (by omega)  (eb_k PB (by omega) x35w (by omega) (by omega))
                  · skip
                    refine di_aload_n rfl rfl ?_
                    refine dr_getf rfl c26 rfl ?_
                    refine dr_iload_n rfl rfl ?_
                    refine paaE (k0 := 28) er rfl hc30 (by omega) (by omega) ?_
                    refine dr_iload rfl rfl ?_
                    refine di_iald rfl hu au (by omega) (by omega) (fun x37 x37f x37a x37b x37v => ?_)
                    have x37w : cv u i18 = x37 := cv_eq x37v x37a x37b
                    have x37g : 0 ≤ x37 ∧ x37 ≤ 9999 ∧ x37 % 100 ≤ x37 / 100 := x37f
                    refine di_istore (ls2 := [some (.ref 26), some (dI (a1)), some (dI (a2)), some (dI (i1)), some (dI (x37)), some (dI (i3)), some (dI (i18))]) rfl rfl rfl ?_
                    refine di_iinc (ls2 := [some (.ref 26), some (dI (a1)), some (dI (a2)), some (dI (i1)), some (dI (x37)), some (dI (i3)), some (dI ((i18 + 1)))]) rfl rfl rfl rfl ?_
                    refine dr_goto rfl rfl ?_
                    exact ihL19 (x37) ((i18 + 1)) (by omega) (by omega) (by omega) (by omega) (by omega) (by omega) (by omega)  (eb_t PB (by omega) x37w (frP_t (by omega)) (by omega) (by omega) (by omega))
        exact L19 _ ((-1)) (0) (Nat.lt_succ_self _) (by omega) (by omega) (by omega) (by omega) (by omega) (by omega)  eb_0
  exact L4 _ ((-1)) ((-1)) (0) (Nat.lt_succ_self _) (by omega) (by omega) (by omega) (by omega) (by omega) (by omega) (by omega) (by omega) (by omega)  chQ_0
set_option maxHeartbeats 4000000 in
set_option maxRecDepth 100000 in
/-- EarlyendsModel.mostOf -/
theorem n_X8_mostOf (l : Launch) (hl : l.stackTraces = false) {kc km : Int} {h : dm_H} (hI : Inv kc km h) {th : Int} {σ : St} (hM : MSt km th σ h) {a1 : Int} (h1a : 0 ≤ a1) (h1b : a1 ≤ 2) {r q : Nat} {u w us : List Value} (er : (r : Int) = (28 : Nat) + a1) (eq : (q : Int) = (32 : Nat) + a1) (hu : h[r]? = some (20, u)) (hw : h[q]? = some (20, w)) (au : arr 8 okC u) (aw : arr 8 anyI w) (h35 : h[35]? = some (20, us)) (as : arr 3 okS us) (hr : Rep (cv u) (cv w) (cv us a1) (σ.1 a1)) (s0 : 0 ≤ cv us a1) (s8 : cv us a1 ≤ 8) : dm_M l 190 1 0 0 [.ref 26, dI (a1)] h (QP h (RI (fun x => 0 ≤ x ∧ x ≤ 100 ∧ anMost (σ.1 a1) = x)) []) := by
  obtain ⟨⟨ni, c26, ni0, ni1⟩, ⟨⟨R1, R2⟩, ⟨R3, R4⟩, ⟨R5, R6⟩, ⟨R7, R8⟩, ⟨R9, R10⟩, ⟨R11, R12⟩, R13⟩, ⟨th0, th1⟩, -⟩ := id hM
  have R14 : σ.2.2.2.2.2.1 = -1 ∨ (0 ≤ σ.2.2.2.2.2.1 ∧ σ.2.2.2.2.2.1 ≤ 9999 ∧ σ.2.2.2.2.2.1 % 100 ≤ σ.2.2.2.2.2.1 / 100) := R13
  have mr : isCR r := isCR_of er (by omega) (by omega)
  have mq : isNR q := isNR_of eq (by omega) (by omega)
  refine dm_M_of dk_190 hl rfl (Nat.le_of_ble_eq_true rfl) ?_
  show dm_W (fun _ _ _ => True) (dm_P (QP h (RI (fun x => 0 ≤ x ∧ x ≤ 100 ∧ anMost (σ.1 a1) = x)) []) 0 0) l 190 1 0 0 0 [some (.ref 26), some (dI (a1)), none] [] h 0 0
  refine di_const rfl ?_
  refine di_istore_n (ls2 := [some (.ref 26), some (dI (a1)), some (dI (0))]) rfl rfl rfl ?_
  have L2 : ∀ (n : Nat) (i1 : Int), (100 - i1).toNat < n → 0 ≤ i1 → i1 ≤ 100 → moP (σ.1 a1) (i1).toNat → dm_W (fun _ _ _ => True) (dm_P (QP h (RI (fun x => 0 ≤ x ∧ x ≤ 100 ∧ anMost (σ.1 a1) = x)) []) 0 0) l 190 1 0 0 2 [some (.ref 26), some (dI (a1)), some (dI (i1))] [] h 0 0 := by
    intro n
    induction n with
    | zero => intro i1 hm; exact absurd hm (Nat.not_lt_zero _)
    | succ n ih =>
      intro i1 hm5 hb3 hb4 PM
      have ihL2 := ih
      clear ih
      refine di_aload_n rfl rfl ?_
      refine dr_iload_n rfl rfl ?_
      refine dr_iload_n rfl rfl ?_
      refine dr_virt rfl rfl rfl rfl c26 (n_X8_chosenAt l hl hI hM (a1 := a1) (by omega) (by omega) (a2 := i1) (by omega) (by omega) er eq hu hw au aw h35 as hr s0 s8) (by decide) (by decide) (by decide) (Nat.le_of_ble_eq_true rfl) kNP (kIP (fun y6 y6f y6a y6b => ?_))
      obtain ⟨y6c, y6d, y6k⟩ := y6f
      refine di_const rfl ?_
      refine di_icmp_eq rfl rfl (by omega) (by omega) (by omega) (by omega) (fun c7 => ?_) (fun c7 => ?_)
      · skip
        refine dr_iload_n rfl rfl ?_
        exact dr_iret (ty := .int) rfl rfl rfl (by decide) (by decide) ⟨rfl, i1, ⟨by omega, by omega, most_e (by omega) PM (by rw [y6k.2]; omega)⟩, by omega, by omega, rfl⟩
      · skip
        refine di_iinc (ls2 := [some (.ref 26), some (dI (a1)), some (dI ((i1 + 1)))]) rfl rfl rfl rfl ?_
        refine dr_goto rfl rfl ?_
        exact ihL2 ((i1 + 1)) (by omega) (by omega) (by omega)  (mo_s PM (by omega) (by rw [y6k.2]; omega))
  exact L2 _ (0) (Nat.lt_succ_self _) (by omega) (by omega)  mo_0
set_option maxHeartbeats 4000000 in
set_option maxRecDepth 100000 in
/-- EarlyendsModel.most -/
theorem n_X8_most (l : Launch) (hl : l.stackTraces = false) {kc km : Int} {h : dm_H} (hI : Inv kc km h) {th : Int} {σ : St} (hM : MSt km th σ h) {a1 : Int} (h1a : -2147483648 ≤ a1) (h1b : a1 ≤ 2147483647) : dm_M l 191 8 0 0 [.ref 26, dI (a1)] h (QM9 kc km h (spMost σ a1)) := by
  obtain ⟨⟨ni, c26, ni0, ni1⟩, ⟨⟨R1, R2⟩, ⟨R3, R4⟩, ⟨R5, R6⟩, ⟨R7, R8⟩, ⟨R9, R10⟩, ⟨R11, R12⟩, R13⟩, ⟨th0, th1⟩, -⟩ := id hM
  have R14 : σ.2.2.2.2.2.1 = -1 ∨ (0 ≤ σ.2.2.2.2.2.1 ∧ σ.2.2.2.2.2.1 ≤ 9999 ∧ σ.2.2.2.2.2.1 % 100 ≤ σ.2.2.2.2.2.1 / 100) := R13
  refine dm_M_of dk_191 hl rfl (Nat.le_of_ble_eq_true rfl) ?_
  show dm_W (fun _ _ _ => True) (dm_P (QM9 kc km h (spMost σ a1)) 0 0) l 191 8 0 0 0 [some (.ref 26), some (dI (a1))] [] h 0 0
  refine di_aload_n rfl rfl ?_
  refine dr_iload_n rfl rfl ?_
  refine dr_stat rfl rfl rfl rfl (f_X8_isNoBook l hl hI (a0 := a1) (by omega) (by omega)) (by decide) (by decide) (by decide) (Nat.le_of_ble_eq_true rfl) kNP (kIP (fun y1 y1f y1a y1b => ?_))
  have y1g : 0 ≤ y1 ∧ y1 ≤ 1 ∧ (y1 = 0 → 0 ≤ a1 ∧ a1 ≤ 2) ∧ (y1 = 1 → a1 < 0 ∨ 2 < a1) := y1f
  clear y1f
  refine di_const rfl ?_
  rcases (by omega : y1 = 0 ∨ y1 = 1) with ey2 | ey2
  · skip
    rw [ey2]
    refine dr_virt rfl rfl rfl rfl c26 (f_X8_start0 l hl hI hM (a2 := 1) (by omega) (by omega)) (by decide) (by decide) (by decide) (Nat.le_of_ble_eq_true rfl) kNQN (kNQ (fun h3 hI4 hF5 hM6 => ?_))
    have hF7 := FrM_tr FrM_rf hF5
    refine di_if_eq rfl rfl (by omega) (by omega) (fun _ => ?_) (fun c9 => by exfalso; omega)
    refine di_aload_n rfl rfl ?_
    refine dr_iload_n rfl rfl ?_
    obtain ⟨⟨ni8, ni8c, ni8a, ni8b⟩, -⟩ := id hM6
    obtain ⟨r10, q11, u12, w13, us14, er15, eq16, hu17, hw18, au19, aw20, hs21, as22, hr23, sa24, sb25⟩ := MSt_bk hM6 (k := a1) (by omega) (by omega)
    have hz26 : zF (σ.1 a1) = cv us14 a1 := zF_eq hr23
    have mr27 : isCR r10 := isCR_of er15 (by omega) (by omega)
    have mq28 : isNR q11 := isNR_of eq16 (by omega) (by omega)
    refine dr_virt rfl rfl rfl rfl ni8c (n_X8_mostOf l hl hI4 hM6 (a1 := a1) (by omega) (by omega) er15 eq16 hu17 hw18 au19 aw20 hs21 as22 hr23 sa24 sb25) (by decide) (by decide) (by decide) (Nat.le_of_ble_eq_true rfl) kNP (kIP (fun y29 y29f y29a y29b => ?_))
    obtain ⟨y29c, y29d, y29k⟩ := y29f
    have e9 : anMost (σ.1 a1) = y29 := y29k
    exact dr_iret (ty := .int) rfl rfl rfl (by decide) (by decide) (QM_ok hI4 hF7 hM6 (by omega) (by omega) (by unfold spMost; (try rw [e9]); (repeat' split) <;> first | rfl | (exfalso; omega) | (apply Prod.ext <;> first | rfl | (dsimp only; omega) | (apply Prod.ext <;> first | rfl | (dsimp only; omega)))))
  · skip
    rw [ey2]
    refine dr_virt rfl rfl rfl rfl c26 (f_X8_start1 l hl hI hM (a2 := 1) (by omega) (by omega)) (by decide) (by decide) (by decide) (Nat.le_of_ble_eq_true rfl) kNQN (kNQ (fun h30 hI31 hF32 hM33 => ?_))
    have hF34 := FrM_tr FrM_rf hF32
    refine di_if_eq rfl rfl (by omega) (by omega) (fun c9 => by exfalso; omega) (fun _ => ?_)
    refine di_const rfl ?_
    exact dr_iret (ty := .int) rfl rfl rfl (by decide) (by decide) (QM_no (x := 0) hI31 hF34 hM33 (by omega) (by omega) (by omega) (by unfold spMost; (repeat' split) <;> first | rfl | (exfalso; omega) | (apply Prod.ext <;> first | rfl | (dsimp only; omega) | (apply Prod.ext <;> first | rfl | (dsimp only; omega)))))
set_option maxHeartbeats 4000000 in
set_option maxRecDepth 100000 in
/-- EarlyendsModel.chosen -/
theorem n_X8_chosen (l : Launch) (hl : l.stackTraces = false) {kc km : Int} {h : dm_H} (hI : Inv kc km h) {th : Int} {σ : St} (hM : MSt km th σ h) {a1 : Int} (h1a : -2147483648 ≤ a1) (h1b : a1 ≤ 2147483647) {a2 : Int} (h2a : -2147483648 ≤ a2) (h2b : a2 ≤ 2147483647) : dm_M l 192 8 0 0 [.ref 26, dI (a1), dI (a2)] h (QM9 kc km h (spChosen σ a1 a2)) := by
  obtain ⟨⟨ni, c26, ni0, ni1⟩, ⟨⟨R1, R2⟩, ⟨R3, R4⟩, ⟨R5, R6⟩, ⟨R7, R8⟩, ⟨R9, R10⟩, ⟨R11, R12⟩, R13⟩, ⟨th0, th1⟩, -⟩ := id hM
  have R14 : σ.2.2.2.2.2.1 = -1 ∨ (0 ≤ σ.2.2.2.2.2.1 ∧ σ.2.2.2.2.2.1 ≤ 9999 ∧ σ.2.2.2.2.2.1 % 100 ≤ σ.2.2.2.2.2.1 / 100) := R13
  refine dm_M_of dk_192 hl rfl (Nat.le_of_ble_eq_true rfl) ?_
  show dm_W (fun _ _ _ => True) (dm_P (QM9 kc km h (spChosen σ a1 a2)) 0 0) l 192 8 0 0 0 [some (.ref 26), some (dI (a1)), some (dI (a2))] [] h 0 0
  refine di_aload_n rfl rfl ?_
  refine dr_iload_n rfl rfl ?_
  refine dr_stat rfl rfl rfl rfl (f_X8_isNoBook l hl hI (a0 := a1) (by omega) (by omega)) (by decide) (by decide) (by decide) (Nat.le_of_ble_eq_true rfl) kNP (kIP (fun y1 y1f y1a y1b => ?_))
  have y1g : 0 ≤ y1 ∧ y1 ≤ 1 ∧ (y1 = 0 → 0 ≤ a1 ∧ a1 ≤ 2) ∧ (y1 = 1 → a1 < 0 ∨ 2 < a1) := y1f
  clear y1f
  refine di_const rfl ?_
  rcases (by omega : y1 = 0 ∨ y1 = 1) with ey2 | ey2
  · skip
    rw [ey2]
    refine dr_virt rfl rfl rfl rfl c26 (f_X8_start0 l hl hI hM (a2 := 1) (by omega) (by omega)) (by decide) (by decide) (by decide) (Nat.le_of_ble_eq_true rfl) kNQN (kNQ (fun h3 hI4 hF5 hM6 => ?_))
    have hF7 := FrM_tr FrM_rf hF5
    refine di_if_ne rfl rfl (by omega) (by omega) (fun c9 => by exfalso; omega) (fun _ => ?_)
    refine di_aload_n rfl rfl ?_
    refine dr_iload_n rfl rfl ?_
    refine di_if_ge rfl rfl (by omega) (by omega) (fun c8 => ?_) (fun c8 => ?_)
    · skip
      refine di_const rfl ?_
      refine di_const rfl ?_
      obtain ⟨⟨ni10, ni10c, ni10a, ni10b⟩, -⟩ := id hM6
      refine dr_virt rfl rfl rfl rfl ni10c (f_X8_refuse0 l hl hI4 hM6 (a2 := 2) (by omega) (by omega)) (by decide) (by decide) (by decide) (Nat.le_of_ble_eq_true rfl) kNQN (kNQ (fun h11 hI12 hF13 hM14 => ?_))
      have hF15 := FrM_tr hF7 hF13
      refine di_if_eq rfl rfl (by omega) (by omega) (fun _ => ?_) (fun c9 => by exfalso; omega)
      refine di_aload_n rfl rfl ?_
      refine dr_iload_n rfl rfl ?_
      refine dr_iload_n rfl rfl ?_
      obtain ⟨⟨ni16, ni16c, ni16a, ni16b⟩, -⟩ := id hM14
      obtain ⟨r17, q18, u19, w20, us21, er22, eq23, hu24, hw25, au26, aw27, hs28, as29, hr30, sa31, sb32⟩ := MSt_bk hM14 (k := a1) (by omega) (by omega)
      have hz33 : zF (σ.1 a1) = cv us21 a1 := zF_eq hr30
      have mr34 : isCR r17 := isCR_of er22 (by omega) (by omega)
      have mq35 : isNR q18 := isNR_of eq23 (by omega) (by omega)
      refine dr_virt rfl rfl rfl rfl ni16c (n_X8_chosenAt l hl hI12 hM14 (a1 := a1) (by omega) (by omega) (a2 := a2) (by omega) (by omega) er22 eq23 hu24 hw25 au26 aw27 hs28 as29 hr30 sa31 sb32) (by decide) (by decide) (by decide) (Nat.le_of_ble_eq_true rfl) kNP (kIP (fun y36 y36f y36a y36b => ?_))
      obtain ⟨y36c, y36d, y36k⟩ := y36f
      have e9 : anChosen (σ.1 a1) a2 = y36 := y36k.2
      exact dr_iret (ty := .int) rfl rfl rfl (by decide) (by decide) (QM_ok hI12 hF15 hM14 (by omega) (by omega) (by unfold spChosen; (try rw [e9]); (repeat' split) <;> first | rfl | (exfalso; omega) | (apply Prod.ext <;> first | rfl | (dsimp only; omega) | (apply Prod.ext <;> first | rfl | (dsimp only; omega)))))
    · skip
      refine di_const rfl ?_
      refine dr_goto rfl rfl ?_
      refine di_const rfl ?_
      obtain ⟨⟨ni37, ni37c, ni37a, ni37b⟩, -⟩ := id hM6
      refine dr_virt rfl rfl rfl rfl ni37c (f_X8_refuse1 l hl hI4 hM6 (a2 := 2) (by omega) (by omega)) (by decide) (by decide) (by decide) (Nat.le_of_ble_eq_true rfl) kNQN (kNQ (fun h38 hI39 hF40 hM41 => ?_))
      have hF42 := FrM_tr hF7 hF40
      refine di_if_eq rfl rfl (by omega) (by omega) (fun c9 => by exfalso; omega) (fun _ => ?_)
      refine di_const rfl ?_
      exact dr_iret (ty := .int) rfl rfl rfl (by decide) (by decide) (QM_no (x := 0) hI39 hF42 hM41 (by omega) (by omega) (by omega) (by unfold spChosen; (repeat' split) <;> first | rfl | (exfalso; omega) | (apply Prod.ext <;> first | rfl | (dsimp only; omega) | (apply Prod.ext <;> first | rfl | (dsimp only; omega)))))
  · skip
    rw [ey2]
    refine dr_virt rfl rfl rfl rfl c26 (f_X8_start1 l hl hI hM (a2 := 1) (by omega) (by omega)) (by decide) (by decide) (by decide) (Nat.le_of_ble_eq_true rfl) kNQN (kNQ (fun h43 hI44 hF45 hM46 => ?_))
    have hF47 := FrM_tr FrM_rf hF45
    refine di_if_ne rfl rfl (by omega) (by omega) (fun _ => ?_) (fun c9 => by exfalso; omega)
    refine di_const rfl ?_
    exact dr_iret (ty := .int) rfl rfl rfl (by decide) (by decide) (QM_no (x := 0) hI44 hF47 hM46 (by omega) (by omega) (by omega) (by unfold spChosen; (repeat' split) <;> first | rfl | (exfalso; omega) | (apply Prod.ext <;> first | rfl | (dsimp only; omega) | (apply Prod.ext <;> first | rfl | (dsimp only; omega)))))
set_option maxHeartbeats 4000000 in
set_option maxRecDepth 100000 in
/-- EarlyendsModel.holding -/
theorem n_X8_holding (l : Launch) (hl : l.stackTraces = false) {kc km : Int} {h : dm_H} (hI : Inv kc km h) {th : Int} {σ : St} (hM : MSt km th σ h) {a1 : Int} (h1a : 0 ≤ a1) (h1b : a1 ≤ 2) {a2 : Int} (h2a : -2147483648 ≤ a2) (h2b : a2 ≤ 2147483647) {r q : Nat} {u w us : List Value} (er : (r : Int) = (28 : Nat) + a1) (eq : (q : Int) = (32 : Nat) + a1) (hu : h[r]? = some (20, u)) (hw : h[q]? = some (20, w)) (au : arr 8 okC u) (aw : arr 8 anyI w) (h35 : h[35]? = some (20, us)) (as : arr 3 okS us) (hr : Rep (cv u) (cv w) (cv us a1) (σ.1 a1)) (s0 : 0 ≤ cv us a1) (s8 : cv us a1 ≤ 8) : dm_M l 200 1 0 0 [.ref 26, dI (a1), dI (a2)] h (QP h (RI (fun x => 0 ≤ x ∧ x ≤ 8 ∧ x = dpF (σ.1 a1) a2)) []) := by
  obtain ⟨⟨ni, c26, ni0, ni1⟩, ⟨⟨R1, R2⟩, ⟨R3, R4⟩, ⟨R5, R6⟩, ⟨R7, R8⟩, ⟨R9, R10⟩, ⟨R11, R12⟩, R13⟩, ⟨th0, th1⟩, -⟩ := id hM
  have R14 : σ.2.2.2.2.2.1 = -1 ∨ (0 ≤ σ.2.2.2.2.2.1 ∧ σ.2.2.2.2.2.1 ≤ 9999 ∧ σ.2.2.2.2.2.1 % 100 ≤ σ.2.2.2.2.2.1 / 100) := R13
  have mr : isCR r := isCR_of er (by omega) (by omega)
  have mq : isNR q := isNR_of eq (by omega) (by omega)
  refine dm_M_of dk_200 hl rfl (Nat.le_of_ble_eq_true rfl) ?_
  show dm_W (fun _ _ _ => True) (dm_P (QP h (RI (fun x => 0 ≤ x ∧ x ≤ 8 ∧ x = dpF (σ.1 a1) a2)) []) 0 0) l 200 1 0 0 0 [some (.ref 26), some (dI (a1)), some (dI (a2)), none, none] [] h 0 0
  refine di_const rfl ?_
  refine di_istore_n (ls2 := [some (.ref 26), some (dI (a1)), some (dI (a2)), some (dI (0)), none]) rfl rfl rfl ?_
  refine di_const rfl ?_
  refine di_istore (ls2 := [some (.ref 26), some (dI (a1)), some (dI (a2)), some (dI (0)), some (dI (0))]) rfl rfl rfl ?_
  have L3 : ∀ (n : Nat) (i1 : Int) (i2 : Int), (8 - i2).toNat < n → 0 ≤ i1 → i1 ≤ 8 → 0 ≤ i2 → i2 ≤ 8 → i2 ≤ cv us a1 → i1 ≤ i2 → cnP i1 (cv u) (hoP a2) i2 → dm_W (fun _ _ _ => True) (dm_P (QP h (RI (fun x => 0 ≤ x ∧ x ≤ 8 ∧ x = dpF (σ.1 a1) a2)) []) 0 0) l 200 1 0 0 5 [some (.ref 26), some (dI (a1)), some (dI (a2)), some (dI (i1)), some (dI (i2))] [] h 0 0 := by
    intro n
    induction n with
    | zero => intro i1 i2 hm; exact absurd hm (Nat.not_lt_zero _)
    | succ n ih =>
      intro i1 i2 hm11 hb4 hb5 hb6 hb7 hx8 hx10 PC
      have ihL3 := ih
      clear ih
      refine dr_iload rfl rfl ?_
      refine di_aload_n rfl rfl ?_
      refine dr_getf rfl c26 rfl ?_
      refine dr_iload_n rfl rfl ?_
      refine di_iald rfl h35 as (by omega) (by omega) (fun x12 x12f x12a x12b x12v => ?_)
      have x12w : cv us a1 = x12 := cv_eq x12v x12a x12b
      have x12g : 0 ≤ x12 ∧ x12 ≤ 8 := x12f
      refine di_icmp_ge rfl rfl (by omega) (by omega) (by omega) (by omega) (fun c13 => ?_) (fun c13 => ?_)
      · skip
        refine dr_iload_n rfl rfl ?_
        exact dr_iret (ty := .int) rfl rfl rfl (by decide) (by decide) ⟨rfl, i1, ⟨by omega, by omega, cn_e PC hr (by omega)⟩, by omega, by omega, rfl⟩
      · skip
        refine di_aload_n rfl rfl ?_
        refine dr_getf rfl c26 rfl ?_
        refine dr_iload_n rfl rfl ?_
        have hc14 := I_mcs hI
        refine paaE (k0 := 28) er rfl hc14 (by omega) (by omega) ?_
        refine dr_iload rfl rfl ?_
        refine di_iald rfl hu au (by omega) (by omega) (fun x15 x15f x15a x15b x15v => ?_)
        have x15w : cv u i2 = x15 := cv_eq x15v x15a x15b
        have x15g : 0 ≤ x15 ∧ x15 ≤ 9999 ∧ x15 % 100 ≤ x15 / 100 := x15f
        refine dr_iload_n rfl rfl ?_
        refine dr_stat rfl rfl rfl rfl (s_X8_isHolding_d l hl hI (a0 := x15) (by omega) (by omega) (a1 := a2) (by omega) (by omega)) (by decide) (by decide) (by decide) (Nat.le_of_ble_eq_true rfl) kNP (kIP (fun y16 y16f y16a y16b => ?_))
        obtain ⟨y16c, y16d, y16k, y16k2⟩ := y16f
        refine di_if_eq rfl rfl (by omega) (by omega) (fun c17 => ?_) (fun c17 => ?_)
        · skip
          refine di_iinc (ls2 := [some (.ref 26), some (dI (a1)), some (dI (a2)), some (dI (i1)), some (dI ((i2 + 1)))]) rfl rfl rfl rfl ?_
          refine dr_goto rfl rfl ?_
          exact ihL3 (i1) ((i2 + 1)) (by omega) (by omega) (by omega) (by omega) (by omega) (by omega) (by omega)  (cn_n PC (by omega) x15w (hoP_f (by omega)))
        · skip
          refine di_iinc (ls2 := [some (.ref 26), some (dI (a1)), some (dI (a2)), some (dI ((i1 + 1))), some (dI (i2))]) rfl rfl rfl rfl ?_
          refine di_iinc (ls2 := [some (.ref 26), some (dI (a1)), some (dI (a2)), some (dI ((i1 + 1))), some (dI ((i2 + 1)))]) rfl rfl rfl rfl ?_
          refine dr_goto rfl rfl ?_
          exact ihL3 ((i1 + 1)) ((i2 + 1)) (by omega) (by omega) (by omega) (by omega) (by omega) (by omega) (by omega)  (cn_y PC (by omega) x15w (hoP_t (by omega)))
  exact L3 _ (0) (0) (Nat.lt_succ_self _) (by omega) (by omega) (by omega) (by omega) (by omega) (by omega)  cn_0
set_option maxHeartbeats 4000000 in
set_option maxRecDepth 100000 in
/-- EarlyendsModel.deepestOf -/
theorem n_X8_deepestOf (l : Launch) (hl : l.stackTraces = false) {kc km : Int} {h : dm_H} (hI : Inv kc km h) {th : Int} {σ : St} (hM : MSt km th σ h) {a1 : Int} (h1a : 0 ≤ a1) (h1b : a1 ≤ 2) {a2 : Int} (h2a : 0 ≤ a2) (h2b : a2 ≤ 1) {r q : Nat} {u w us : List Value} (er : (r : Int) = (28 : Nat) + a1) (eq : (q : Int) = (32 : Nat) + a1) (hu : h[r]? = some (20, u)) (hw : h[q]? = some (20, w)) (au : arr 8 okC u) (aw : arr 8 anyI w) (h35 : h[35]? = some (20, us)) (as : arr 3 okS us) (hr : Rep (cv u) (cv w) (cv us a1) (σ.1 a1)) (s0 : 0 ≤ cv us a1) (s8 : cv us a1 ≤ 8) : dm_M l 201 2 0 0 [.ref 26, dI (a1), dI (a2)] h (QP h (RI (fun x => -1 ≤ x ∧ x ≤ 99 ∧ anDeep (σ.1 a1) a2 = x)) []) := by
  obtain ⟨⟨ni, c26, ni0, ni1⟩, ⟨⟨R1, R2⟩, ⟨R3, R4⟩, ⟨R5, R6⟩, ⟨R7, R8⟩, ⟨R9, R10⟩, ⟨R11, R12⟩, R13⟩, ⟨th0, th1⟩, -⟩ := id hM
  have R14 : σ.2.2.2.2.2.1 = -1 ∨ (0 ≤ σ.2.2.2.2.2.1 ∧ σ.2.2.2.2.2.1 ≤ 9999 ∧ σ.2.2.2.2.2.1 % 100 ≤ σ.2.2.2.2.2.1 / 100) := R13
  have mr : isCR r := isCR_of er (by omega) (by omega)
  have mq : isNR q := isNR_of eq (by omega) (by omega)
  refine dm_M_of dk_201 hl rfl (Nat.le_of_ble_eq_true rfl) ?_
  show dm_W (fun _ _ _ => True) (dm_P (QP h (RI (fun x => -1 ≤ x ∧ x ≤ 99 ∧ anDeep (σ.1 a1) a2 = x)) []) 0 0) l 201 2 0 0 0 [some (.ref 26), some (dI (a1)), some (dI (a2)), none, none, none] [] h 0 0
  refine di_const rfl ?_
  refine di_istore_n (ls2 := [some (.ref 26), some (dI (a1)), some (dI (a2)), some (dI (0)), none, none]) rfl rfl rfl ?_
  refine di_const rfl ?_
  refine di_istore (ls2 := [some (.ref 26), some (dI (a1)), some (dI (a2)), some (dI (0)), some (dI ((-1))), none]) rfl rfl rfl ?_
  refine di_const rfl ?_
  refine di_istore (ls2 := [some (.ref 26), some (dI (a1)), some (dI (a2)), some (dI (0)), some (dI ((-1))), some (dI (0))]) rfl rfl rfl ?_
  have L4 : ∀ (n : Nat) (i1 : Int) (i2 : Int) (i3 : Int), (100 - i3).toNat < n → 0 ≤ i1 → i1 ≤ 8 → -1 ≤ i2 → i2 ≤ 99 → 0 ≤ i3 → i3 ≤ 100 → dmQ (σ.1 a1) i1 i2 i3 → dm_W (fun _ _ _ => True) (dm_P (QP h (RI (fun x => -1 ≤ x ∧ x ≤ 99 ∧ anDeep (σ.1 a1) a2 = x)) []) 0 0) l 201 2 0 0 8 [some (.ref 26), some (dI (a1)), some (dI (a2)), some (dI (i1)), some (dI (i2)), some (dI (i3))] [] h 0 0 := by
    intro n
    induction n with
    | zero => intro i1 i2 i3 hm; exact absurd hm (Nat.not_lt_zero _)
    | succ n ih =>
      intro i1 i2 i3 hm12 hb5 hb6 hb7 hb8 hb10 hb11 PD
      have ihL4 := ih
      clear ih
      refine dr_iload rfl rfl ?_
      refine di_bipush rfl (by decide) ?_
      refine di_icmp_ge rfl rfl (by omega) (by omega) (by omega) (by omega) (fun c13 => ?_) (fun c13 => ?_)
      · skip
        refine dr_iload_n rfl rfl ?_
        refine di_if_eq rfl rfl (by omega) (by omega) (fun c14 => ?_) (fun c14 => ?_)
        · skip
          refine dr_iload_n rfl rfl ?_
          exact dr_iret (ty := .int) rfl rfl rfl (by decide) (by decide) ⟨rfl, i1, ⟨by omega, by omega, (dpz9p (dpz9e PD hr (CA_ok au s8) (by omega)) hr).2 (by omega)⟩, by omega, by omega, rfl⟩
        · skip
          refine dr_iload rfl rfl ?_
          refine dr_goto rfl rfl ?_
          exact dr_iret (ty := .int) rfl rfl rfl (by decide) (by decide) ⟨rfl, i2, ⟨by omega, by omega, (dpz9p (dpz9e PD hr (CA_ok au s8) (by omega)) hr).1 (by omega)⟩, by omega, by omega, rfl⟩
      · skip
        refine di_aload_n rfl rfl ?_
        refine dr_iload_n rfl rfl ?_
        refine dr_iload rfl rfl ?_
        refine dr_virt rfl rfl rfl rfl c26 (n_X8_holding l hl hI hM (a1 := a1) (by omega) (by omega) (a2 := i3) (by omega) (by omega) er eq hu hw au aw h35 as hr s0 s8) (by decide) (by decide) (by decide) (Nat.le_of_ble_eq_true rfl) kNP (kIP (fun y15 y15f y15a y15b => ?_))
        obtain ⟨y15c, y15d, y15k⟩ := y15f
        refine dr_iload_n rfl rfl ?_
        refine di_icmp_gt rfl rfl (by omega) (by omega) (by omega) (by omega) (fun c16 => ?_) (fun c16 => ?_)
        · skip
          refine di_aload_n rfl rfl ?_
          refine dr_iload_n rfl rfl ?_
          refine dr_iload rfl rfl ?_
          refine dr_virt rfl rfl rfl rfl c26 (n_X8_holding l hl hI hM (a1 := a1) (by omega) (by omega) (a2 := i3) (by omega) (by omega) er eq hu hw au aw h35 as hr s0 s8) (by decide) (by decide) (by decide) (Nat.le_of_ble_eq_true rfl) kNP (kIP (fun y17 y17f y17a y17b => ?_))
          obtain ⟨y17c, y17d, y17k⟩ := y17f
          have ey9 : y17 = y15 := y17k.trans y15k.symm
          refine di_istore_n (ls2 := [some (.ref 26), some (dI (a1)), some (dI (a2)), some (dI (y17)), some (dI (i2)), some (dI (i3))]) rfl rfl rfl ?_
          refine dr_iload rfl rfl ?_
          refine di_istore (ls2 := [some (.ref 26), some (dI (a1)), some (dI (a2)), some (dI (y17)), some (dI (i3)), some (dI (i3))]) rfl rfl rfl ?_
          refine di_iinc (ls2 := [some (.ref 26), some (dI (a1)), some (dI (a2)), some (dI (y17)), some (dI (i3)), some (dI ((i3 + 1)))]) rfl rfl rfl rfl ?_
          refine dr_goto rfl rfl ?_
          exact ihL4 (y17) (i3) ((i3 + 1)) (by omega) (by omega) (by omega) (by omega) (by omega) (by omega) (by omega)  (dpz9y PD (by omega) (by omega) y17k (by omega))
        · skip
          refine dr_goto rfl rfl ?_
          refine di_iinc (ls2 := [some (.ref 26), some (dI (a1)), some (dI (a2)), some (dI (i1)), some (dI (i2)), some (dI ((i3 + 1)))]) rfl rfl rfl rfl ?_
          refine dr_goto rfl rfl ?_
          exact ihL4 (i1) (i2) ((i3 + 1)) (by omega) (by omega) (by omega) (by omega) (by omega) (by omega) (by omega)  (dpz9n PD y15k (by omega))
  exact L4 _ (0) ((-1)) (0) (Nat.lt_succ_self _) (by omega) (by omega) (by omega) (by omega) (by omega) (by omega)  dpz90
set_option maxHeartbeats 4000000 in
set_option maxRecDepth 100000 in
/-- EarlyendsModel.deepest -/
theorem n_X8_deepest (l : Launch) (hl : l.stackTraces = false) {kc km : Int} {h : dm_H} (hI : Inv kc km h) {th : Int} {σ : St} (hM : MSt km th σ h) {a1 : Int} (h1a : -2147483648 ≤ a1) (h1b : a1 ≤ 2147483647) {a2 : Int} (h2a : 0 ≤ a2) (h2b : a2 ≤ 1) : dm_M l 202 8 0 0 [.ref 26, dI (a1), dI (a2)] h (QM9 kc km h (spDeepest σ a1 a2)) := by
  obtain ⟨⟨ni, c26, ni0, ni1⟩, ⟨⟨R1, R2⟩, ⟨R3, R4⟩, ⟨R5, R6⟩, ⟨R7, R8⟩, ⟨R9, R10⟩, ⟨R11, R12⟩, R13⟩, ⟨th0, th1⟩, -⟩ := id hM
  have R14 : σ.2.2.2.2.2.1 = -1 ∨ (0 ≤ σ.2.2.2.2.2.1 ∧ σ.2.2.2.2.2.1 ≤ 9999 ∧ σ.2.2.2.2.2.1 % 100 ≤ σ.2.2.2.2.2.1 / 100) := R13
  refine dm_M_of dk_202 hl rfl (Nat.le_of_ble_eq_true rfl) ?_
  show dm_W (fun _ _ _ => True) (dm_P (QM9 kc km h (spDeepest σ a1 a2)) 0 0) l 202 8 0 0 0 [some (.ref 26), some (dI (a1)), some (dI (a2))] [] h 0 0
  refine di_aload_n rfl rfl ?_
  refine dr_iload_n rfl rfl ?_
  refine dr_stat rfl rfl rfl rfl (f_X8_isNoBook l hl hI (a0 := a1) (by omega) (by omega)) (by decide) (by decide) (by decide) (Nat.le_of_ble_eq_true rfl) kNP (kIP (fun y1 y1f y1a y1b => ?_))
  have y1g : 0 ≤ y1 ∧ y1 ≤ 1 ∧ (y1 = 0 → 0 ≤ a1 ∧ a1 ≤ 2) ∧ (y1 = 1 → a1 < 0 ∨ 2 < a1) := y1f
  clear y1f
  refine di_const rfl ?_
  rcases (by omega : y1 = 0 ∨ y1 = 1) with ey2 | ey2
  · skip
    rw [ey2]
    refine dr_virt rfl rfl rfl rfl c26 (f_X8_start0 l hl hI hM (a2 := 1) (by omega) (by omega)) (by decide) (by decide) (by decide) (Nat.le_of_ble_eq_true rfl) kNQN (kNQ (fun h3 hI4 hF5 hM6 => ?_))
    have hF7 := FrM_tr FrM_rf hF5
    refine di_if_eq rfl rfl (by omega) (by omega) (fun _ => ?_) (fun c9 => by exfalso; omega)
    refine di_aload_n rfl rfl ?_
    refine dr_iload_n rfl rfl ?_
    refine dr_iload_n rfl rfl ?_
    obtain ⟨⟨ni8, ni8c, ni8a, ni8b⟩, -⟩ := id hM6
    obtain ⟨r10, q11, u12, w13, us14, er15, eq16, hu17, hw18, au19, aw20, hs21, as22, hr23, sa24, sb25⟩ := MSt_bk hM6 (k := a1) (by omega) (by omega)
    have hz26 : zF (σ.1 a1) = cv us14 a1 := zF_eq hr23
    have mr27 : isCR r10 := isCR_of er15 (by omega) (by omega)
    have mq28 : isNR q11 := isNR_of eq16 (by omega) (by omega)
    refine dr_virt rfl rfl rfl rfl ni8c (n_X8_deepestOf l hl hI4 hM6 (a1 := a1) (by omega) (by omega) (a2 := a2) (by omega) (by omega) er15 eq16 hu17 hw18 au19 aw20 hs21 as22 hr23 sa24 sb25) (by decide) (by decide) (by decide) (Nat.le_of_ble_eq_true rfl) kNP (kIP (fun y29 y29f y29a y29b => ?_))
    obtain ⟨y29c, y29d, y29k⟩ := y29f
    have e9 : anDeep (σ.1 a1) a2 = y29 := y29k
    exact dr_iret (ty := .int) rfl rfl rfl (by decide) (by decide) (QM_ok hI4 hF7 hM6 (by omega) (by omega) (by unfold spDeepest; (try rw [e9]); (repeat' split) <;> first | rfl | (exfalso; omega) | (apply Prod.ext <;> first | rfl | (dsimp only; omega) | (apply Prod.ext <;> first | rfl | (dsimp only; omega)))))
  · skip
    rw [ey2]
    refine dr_virt rfl rfl rfl rfl c26 (f_X8_start1 l hl hI hM (a2 := 1) (by omega) (by omega)) (by decide) (by decide) (by decide) (Nat.le_of_ble_eq_true rfl) kNQN (kNQ (fun h30 hI31 hF32 hM33 => ?_))
    have hF34 := FrM_tr FrM_rf hF32
    refine di_if_eq rfl rfl (by omega) (by omega) (fun c9 => by exfalso; omega) (fun _ => ?_)
    refine di_const rfl ?_
    exact dr_iret (ty := .int) rfl rfl rfl (by decide) (by decide) (QM_no (x := 0) hI31 hF34 hM33 (by omega) (by omega) (by omega) (by unfold spDeepest; (repeat' split) <;> first | rfl | (exfalso; omega) | (apply Prod.ext <;> first | rfl | (dsimp only; omega) | (apply Prod.ext <;> first | rfl | (dsimp only; omega)))))
set_option maxHeartbeats 4000000 in
set_option maxRecDepth 100000 in
/-- EarlyendsModel.farthest -/
theorem n_X8_farthest (l : Launch) (hl : l.stackTraces = false) {kc km : Int} {h : dm_H} (hI : Inv kc km h) {th : Int} {σ : St} (hM : MSt km th σ h) {a1 : Int} (h1a : 0 ≤ a1) (h1b : a1 ≤ 2) {a2 : Int} (h2a : -2147483648 ≤ a2) (h2b : a2 ≤ 2147483647) {r q : Nat} {u w us : List Value} (er : (r : Int) = (28 : Nat) + a1) (eq : (q : Int) = (32 : Nat) + a1) (hu : h[r]? = some (20, u)) (hw : h[q]? = some (20, w)) (au : arr 8 okC u) (aw : arr 8 anyI w) (h35 : h[35]? = some (20, us)) (as : arr 3 okS us) (hr : Rep (cv u) (cv w) (cv us a1) (σ.1 a1)) (s0 : 0 ≤ cv us a1) (s8 : cv us a1 ≤ 8) : dm_M l 209 1 0 0 [.ref 26, dI (a1), dI (a2)] h (QP h (RI (fun x => -1 ≤ x ∧ x ≤ 9999 ∧ (x = -1 ∨ (0 ≤ x ∧ x % 100 ≤ a2 ∧ a2 ≤ x / 100)) ∧ x = gh (σ.1 a1) a2)) []) := by
  obtain ⟨⟨ni, c26, ni0, ni1⟩, ⟨⟨R1, R2⟩, ⟨R3, R4⟩, ⟨R5, R6⟩, ⟨R7, R8⟩, ⟨R9, R10⟩, ⟨R11, R12⟩, R13⟩, ⟨th0, th1⟩, -⟩ := id hM
  have R14 : σ.2.2.2.2.2.1 = -1 ∨ (0 ≤ σ.2.2.2.2.2.1 ∧ σ.2.2.2.2.2.1 ≤ 9999 ∧ σ.2.2.2.2.2.1 % 100 ≤ σ.2.2.2.2.2.1 / 100) := R13
  have mr : isCR r := isCR_of er (by omega) (by omega)
  have mq : isNR q := isNR_of eq (by omega) (by omega)
  refine dm_M_of dk_209 hl rfl (Nat.le_of_ble_eq_true rfl) ?_
  show dm_W (fun _ _ _ => True) (dm_P (QP h (RI (fun x => -1 ≤ x ∧ x ≤ 9999 ∧ (x = -1 ∨ (0 ≤ x ∧ x % 100 ≤ a2 ∧ a2 ≤ x / 100)) ∧ x = gh (σ.1 a1) a2)) []) 0 0) l 209 1 0 0 0 [some (.ref 26), some (dI (a1)), some (dI (a2)), none, none] [] h 0 0
  refine di_const rfl ?_
  refine di_istore_n (ls2 := [some (.ref 26), some (dI (a1)), some (dI (a2)), some (dI ((-1))), none]) rfl rfl rfl ?_
  refine di_const rfl ?_
  refine di_istore (ls2 := [some (.ref 26), some (dI (a1)), some (dI (a2)), some (dI ((-1))), some (dI (0))]) rfl rfl rfl ?_
  have L3 : ∀ (n : Nat) (i1 : Int) (i2 : Int), (8 - i2).toNat < n → -1 ≤ i1 → i1 ≤ 9999 → 0 ≤ i2 → i2 ≤ 8 → i2 ≤ cv us a1 → (i1 = -1 ∨ (0 ≤ i1 ∧ i1 ≤ 9999 ∧ i1 % 100 ≤ i1 / 100)) → ebP ((0 : Int) = 0) i1 (cv u) (hoP a2) i2 → dm_W (fun _ _ _ => True) (dm_P (QP h (RI (fun x => -1 ≤ x ∧ x ≤ 9999 ∧ (x = -1 ∨ (0 ≤ x ∧ x % 100 ≤ a2 ∧ a2 ≤ x / 100)) ∧ x = gh (σ.1 a1) a2)) []) 0 0) l 209 1 0 0 5 [some (.ref 26), some (dI (a1)), some (dI (a2)), some (dI (i1)), some (dI (i2))] [] h 0 0 := by
    intro n
    induction n with
    | zero => intro i1 i2 hm; exact absurd hm (Nat.not_lt_zero _)
    | succ n ih =>
      intro i1 i2 hm11 hb4 hb5 hb6 hb7 hx8 hx10 PB
      have ihL3 := ih
      clear ih
      refine dr_iload rfl rfl ?_
      refine di_aload_n rfl rfl ?_
      refine dr_getf rfl c26 rfl ?_
      refine dr_iload_n rfl rfl ?_
      refine di_iald rfl h35 as (by omega) (by omega) (fun x12 x12f x12a x12b x12v => ?_)
      have x12w : cv us a1 = x12 := cv_eq x12v x12a x12b
      have x12g : 0 ≤ x12 ∧ x12 ≤ 8 := x12f
      refine di_icmp_ge rfl rfl (by omega) (by omega) (by omega) (by omega) (fun c13 => ?_) (fun c13 => ?_)
      · skip
        refine dr_iload_n rfl rfl ?_
        have fh9 := eb_ho PB
        exact dr_iret (ty := .int) rfl rfl rfl (by decide) (by decide) ⟨rfl, i1, ⟨by omega, by omega, (by omega), (eb_e PB hr (by omega)).1 rfl⟩, by omega, by omega, rfl⟩
      · skip
        refine di_aload_n rfl rfl ?_
        refine dr_getf rfl c26 rfl ?_
        refine dr_iload_n rfl rfl ?_
        have hc14 := I_mcs hI
        refine paaE (k0 := 28) er rfl hc14 (by omega) (by omega) ?_
        refine dr_iload rfl rfl ?_
        refine di_iald rfl hu au (by omega) (by omega) (fun x15 x15f x15a x15b x15v => ?_)
        have x15w : cv u i2 = x15 := cv_eq x15v x15a x15b
        have x15g : 0 ≤ x15 ∧ x15 ≤ 9999 ∧ x15 % 100 ≤ x15 / 100 := x15f
        refine dr_iload_n rfl rfl ?_
        refine dr_stat rfl rfl rfl rfl (s_X8_isHolding_d l hl hI (a0 := x15) (by omega) (by omega) (a1 := a2) (by omega) (by omega)) (by decide) (by decide) (by decide) (Nat.le_of_ble_eq_true rfl) kNP (kIP (fun y16 y16f y16a y16b => ?_))
        obtain ⟨y16c, y16d, y16k, y16k2⟩ := y16f
        refine di_if_eq rfl rfl (by omega) (by omega) (fun c17 => ?_) (fun c17 => ?_)
        · skip
          refine di_iinc (ls2 := [some (.ref 26), some (dI (a1)), some (dI (a2)), some (dI (i1)), some (dI ((i2 + 1)))]) rfl rfl rfl rfl ?_
          refine dr_goto rfl rfl ?_
          exact ihL3 (i1) ((i2 + 1)) (by omega) (by omega) (by omega) (by omega) (by omega) (by omega) (by omega)  (eb_n PB x15w (hoP_f (by omega)))
        · skip
          refine di_aload_n rfl rfl ?_
          refine dr_getf rfl c26 rfl ?_
          refine dr_iload_n rfl rfl ?_
          refine paaE (k0 := 28) er rfl hc14 (by omega) (by omega) ?_
          refine dr_iload rfl rfl ?_
          refine di_iald rfl hu au (by omega) (by omega) (fun x18 x18f x18a x18b x18v => ?_)
          have x18w : cv u i2 = x18 := cv_eq x18v x18a x18b
          have x18g : 0 ≤ x18 ∧ x18 ≤ 9999 ∧ x18 % 100 ≤ x18 / 100 := x18f
          refine dr_iload_n rfl rfl ?_
          refine di_icmp_le rfl rfl (by omega) (by omega) (by omega) (by omega) (fun c19 => ?_) (fun c19 => ?_)
          · skip
            refine di_iinc (ls2 := [some (.ref 26), some (dI (a1)), some (dI (a2)), some (dI (i1)), some (dI ((i2 + 1)))]) rfl rfl rfl rfl ?_
            refine dr_goto rfl rfl ?_
            exact ihL3 (i1) ((i2 + 1)) (by omega) (by omega) (by omega) (by omega) (by omega) (by omega) (by omega)  (eb_k PB (by omega) x18w (by omega) (by omega))
          · skip
            refine di_aload_n rfl rfl ?_
            refine dr_getf rfl c26 rfl ?_
            refine dr_iload_n rfl rfl ?_
            refine paaE (k0 := 28) er rfl hc14 (by omega) (by omega) ?_
            refine dr_iload rfl rfl ?_
            refine di_iald rfl hu au (by omega) (by omega) (fun x20 x20f x20a x20b x20v => ?_)
            have x20w : cv u i2 = x20 := cv_eq x20v x20a x20b
            have x20g : 0 ≤ x20 ∧ x20 ≤ 9999 ∧ x20 % 100 ≤ x20 / 100 := x20f
            refine di_istore_n (ls2 := [some (.ref 26), some (dI (a1)), some (dI (a2)), some (dI (x20)), some (dI (i2))]) rfl rfl rfl ?_
            refine di_iinc (ls2 := [some (.ref 26), some (dI (a1)), some (dI (a2)), some (dI (x20)), some (dI ((i2 + 1)))]) rfl rfl rfl rfl ?_
            refine dr_goto rfl rfl ?_
            exact ihL3 (x20) ((i2 + 1)) (by omega) (by omega) (by omega) (by omega) (by omega) (by omega) (by omega)  (eb_t PB (by omega) x20w (hoP_t (by omega)) (by omega) (by omega) (by omega))
  exact L3 _ ((-1)) (0) (Nat.lt_succ_self _) (by omega) (by omega) (by omega) (by omega) (by omega) (by omega)  eb_0
set_option maxHeartbeats 4000000 in
set_option maxRecDepth 100000 in
/-- EarlyendsModel.linkCount -/
theorem n_X8_linkCount (l : Launch) (hl : l.stackTraces = false) {kc km : Int} {h : dm_H} (hI : Inv kc km h) {th : Int} {σ : St} (hM : MSt km th σ h) {a1 : Int} (h1a : 0 ≤ a1) (h1b : a1 ≤ 2) {a2 : Int} (h2a : -1 ≤ a2) (h2b : a2 ≤ 99) {a3 : Int} (h3a : -1 ≤ a3) (h3b : a3 ≤ 99) {r q : Nat} {u w us : List Value} (er : (r : Int) = (28 : Nat) + a1) (eq : (q : Int) = (32 : Nat) + a1) (hu : h[r]? = some (20, u)) (hw : h[q]? = some (20, w)) (au : arr 8 okC u) (aw : arr 8 anyI w) (h35 : h[35]? = some (20, us)) (as : arr 3 okS us) (hr : Rep (cv u) (cv w) (cv us a1) (σ.1 a1)) (s0 : 0 ≤ cv us a1) (s8 : cv us a1 ≤ 8) : dm_M l 210 2 0 0 [.ref 26, dI (a1), dI (a2), dI (a3)] h (QP h (RI (fun x => -1 ≤ x ∧ x ≤ 100 ∧ lkX (σ.1 a1) a2 a3 x)) []) := by
  obtain ⟨⟨ni, c26, ni0, ni1⟩, ⟨⟨R1, R2⟩, ⟨R3, R4⟩, ⟨R5, R6⟩, ⟨R7, R8⟩, ⟨R9, R10⟩, ⟨R11, R12⟩, R13⟩, ⟨th0, th1⟩, -⟩ := id hM
  have R14 : σ.2.2.2.2.2.1 = -1 ∨ (0 ≤ σ.2.2.2.2.2.1 ∧ σ.2.2.2.2.2.1 ≤ 9999 ∧ σ.2.2.2.2.2.1 % 100 ≤ σ.2.2.2.2.2.1 / 100) := R13
  have mr : isCR r := isCR_of er (by omega) (by omega)
  have mq : isNR q := isNR_of eq (by omega) (by omega)
  refine dm_M_of dk_210 hl rfl (Nat.le_of_ble_eq_true rfl) ?_
  show dm_W (fun _ _ _ => True) (dm_P (QP h (RI (fun x => -1 ≤ x ∧ x ≤ 100 ∧ lkX (σ.1 a1) a2 a3 x)) []) 0 0) l 210 2 0 0 0 [some (.ref 26), some (dI (a1)), some (dI (a2)), some (dI (a3)), none, none] [] h 0 0
  refine di_const rfl ?_
  refine di_istore (ls2 := [some (.ref 26), some (dI (a1)), some (dI (a2)), some (dI (a3)), some (dI (0)), none]) rfl rfl rfl ?_
  refine dr_iload_n rfl rfl ?_
  refine di_istore (ls2 := [some (.ref 26), some (dI (a1)), some (dI (a2)), some (dI (a3)), some (dI (0)), some (dI (a2))]) rfl rfl rfl ?_
  have L3 : ∀ (n : Nat) (i1 : Int) (i2 : Int), (100 - i2).toNat < n → 0 ≤ i1 → i1 ≤ 100 → -1 ≤ i2 → i2 ≤ 100 → (i1 = 0 ∨ (i1 ≤ i2 ∧ i2 ≤ 100)) → lkOK (σ.1 a1) a2 a3 (i1).toNat → i2 = pl (σ.1 a1) a2 (i1).toNat → dm_W (fun _ _ _ => True) (dm_P (QP h (RI (fun x => -1 ≤ x ∧ x ≤ 100 ∧ lkX (σ.1 a1) a2 a3 x)) []) 0 0) l 210 2 0 0 6 [some (.ref 26), some (dI (a1)), some (dI (a2)), some (dI (a3)), some (dI (i1)), some (dI (i2))] [] h 0 0 := by
    intro n
    induction n with
    | zero => intro i1 i2 hm; exact absurd hm (Nat.not_lt_zero _)
    | succ n ih =>
      intro i1 i2 hm10 hb4 hb5 hb6 hb7 hx8 PO PP
      have ihL3 := ih
      clear ih
      refine dr_iload rfl rfl ?_
      refine dr_iload_n rfl rfl ?_
      refine di_icmp_gt rfl rfl (by omega) (by omega) (by omega) (by omega) (fun c11 => ?_) (fun c11 => ?_)
      · skip
        refine dr_iload rfl rfl ?_
        exact dr_iret (ty := .int) rfl rfl rfl (by decide) (by decide) ⟨rfl, i1, ⟨by omega, by omega, Or.inl ⟨by omega, PO, by rw [← PP]; omega⟩⟩, by omega, by omega, rfl⟩
      · skip
        refine di_aload_n rfl rfl ?_
        refine dr_iload_n rfl rfl ?_
        refine dr_iload rfl rfl ?_
        refine dr_virt rfl rfl rfl rfl c26 (n_X8_farthest l hl hI hM (a1 := a1) (by omega) (by omega) (a2 := i2) (by omega) (by omega) er eq hu hw au aw h35 as hr s0 s8) (by decide) (by decide) (by decide) (Nat.le_of_ble_eq_true rfl) kNP (kIP (fun y12 y12f y12a y12b => ?_))
        obtain ⟨y12c, y12d, y12k⟩ := y12f
        refine di_const rfl ?_
        refine di_icmp_ne rfl rfl (by omega) (by omega) (by omega) (by omega) (fun c13 => ?_) (fun c13 => ?_)
        · skip
          refine di_iinc (ls2 := [some (.ref 26), some (dI (a1)), some (dI (a2)), some (dI (a3)), some (dI ((i1 + 1))), some (dI (i2))]) rfl rfl rfl rfl ?_
          refine di_aload_n rfl rfl ?_
          refine dr_iload_n rfl rfl ?_
          refine dr_iload rfl rfl ?_
          refine dr_virt rfl rfl rfl rfl c26 (n_X8_farthest l hl hI hM (a1 := a1) (by omega) (by omega) (a2 := i2) (by omega) (by omega) er eq hu hw au aw h35 as hr s0 s8) (by decide) (by decide) (by decide) (Nat.le_of_ble_eq_true rfl) kNP (kIP (fun y14 y14f y14a y14b => ?_))
          obtain ⟨y14c, y14d, y14k⟩ := y14f
          have ey9 : y14 = y12 := y14k.2.trans y12k.2.symm
          refine di_bipush rfl (by decide) ?_
          refine di_idiv rfl (by omega) (by omega) (by omega) (by omega) ?_
          refine di_const rfl ?_
          refine di_iadd rfl ?_
          refine di_istore (ls2 := [some (.ref 26), some (dI (a1)), some (dI (a2)), some (dI (a3)), some (dI ((i1 + 1))), some (dI (((y14 / 100) + 1)))]) rfl rfl rfl ?_
          refine dr_goto rfl rfl ?_
          exact ihL3 ((i1 + 1)) (((y14 / 100) + 1)) (by omega) (by omega) (by omega) (by omega) (by omega) (by omega)  (lk_s PO (by omega) PP (by omega) y12k.2 (by omega)) (pl_s (by omega) PP y12k.2 (by omega))
        · skip
          refine di_const rfl ?_
          exact dr_iret (ty := .int) rfl rfl rfl (by decide) (by decide) ⟨rfl, (-1), ⟨by omega, by omega, Or.inr ⟨rfl, ⟨_, PO, by rw [← PP]; omega, by rw [← PP, ← y12k.2]; omega⟩⟩⟩, by omega, by omega, rfl⟩
  exact L3 _ (0) (a2) (Nat.lt_succ_self _) (by omega) (by omega) (by omega) (by omega) (by omega)  (fun j9 h9 => absurd h9 (Nat.not_lt_zero _)) rfl
set_option maxHeartbeats 4000000 in
set_option maxRecDepth 100000 in
/-- EarlyendsModel.links -/
theorem n_X8_links (l : Launch) (hl : l.stackTraces = false) {kc km : Int} {h : dm_H} (hI : Inv kc km h) {th : Int} {σ : St} (hM : MSt km th σ h) {a1 : Int} (h1a : -2147483648 ≤ a1) (h1b : a1 ≤ 2147483647) {a2 : Int} (h2a : -2147483648 ≤ a2) (h2b : a2 ≤ 2147483647) {a3 : Int} (h3a : -2147483648 ≤ a3) (h3b : a3 ≤ 2147483647) : dm_M l 211 8 0 0 [.ref 26, dI (a1), dI (a2), dI (a3)] h (QM9 kc km h (spLinks σ a1 a2 a3)) := by
  obtain ⟨⟨ni, c26, ni0, ni1⟩, ⟨⟨R1, R2⟩, ⟨R3, R4⟩, ⟨R5, R6⟩, ⟨R7, R8⟩, ⟨R9, R10⟩, ⟨R11, R12⟩, R13⟩, ⟨th0, th1⟩, -⟩ := id hM
  have R14 : σ.2.2.2.2.2.1 = -1 ∨ (0 ≤ σ.2.2.2.2.2.1 ∧ σ.2.2.2.2.2.1 ≤ 9999 ∧ σ.2.2.2.2.2.1 % 100 ≤ σ.2.2.2.2.2.1 / 100) := R13
  refine dm_M_of dk_211 hl rfl (Nat.le_of_ble_eq_true rfl) ?_
  show dm_W (fun _ _ _ => True) (dm_P (QM9 kc km h (spLinks σ a1 a2 a3)) 0 0) l 211 8 0 0 0 [some (.ref 26), some (dI (a1)), some (dI (a2)), some (dI (a3))] [] h 0 0
  refine di_aload_n rfl rfl ?_
  refine dr_iload_n rfl rfl ?_
  refine dr_stat rfl rfl rfl rfl (f_X8_isNoBook l hl hI (a0 := a1) (by omega) (by omega)) (by decide) (by decide) (by decide) (Nat.le_of_ble_eq_true rfl) kNP (kIP (fun y1 y1f y1a y1b => ?_))
  have y1g : 0 ≤ y1 ∧ y1 ≤ 1 ∧ (y1 = 0 → 0 ≤ a1 ∧ a1 ≤ 2) ∧ (y1 = 1 → a1 < 0 ∨ 2 < a1) := y1f
  clear y1f
  refine di_const rfl ?_
  rcases (by omega : y1 = 0 ∨ y1 = 1) with ey2 | ey2
  · skip
    rw [ey2]
    refine dr_virt rfl rfl rfl rfl c26 (f_X8_start0 l hl hI hM (a2 := 1) (by omega) (by omega)) (by decide) (by decide) (by decide) (Nat.le_of_ble_eq_true rfl) kNQN (kNQ (fun h3 hI4 hF5 hM6 => ?_))
    have hF7 := FrM_tr FrM_rf hF5
    refine di_if_ne rfl rfl (by omega) (by omega) (fun c9 => by exfalso; omega) (fun _ => ?_)
    refine di_aload_n rfl rfl ?_
    refine dr_iload_n rfl rfl ?_
    refine dr_iload_n rfl rfl ?_
    refine dr_stat rfl rfl rfl rfl (f_X8_isNoSpan l hl hI4 (a0 := a2) (by omega) (by omega) (a1 := a3) (by omega) (by omega)) (by decide) (by decide) (by decide) (Nat.le_of_ble_eq_true rfl) kNP (kIP (fun y8 y8f y8a y8b => ?_))
    have y8g : 0 ≤ y8 ∧ y8 ≤ 1 ∧ (y8 = 0 → 0 ≤ a2 ∧ a2 ≤ a3 ∧ a3 ≤ 99) ∧ (y8 = 1 → a2 < 0 ∨ a3 < a2 ∨ 99 < a3) := y8f
    clear y8f
    refine di_const rfl ?_
    obtain ⟨⟨ni10, ni10c, ni10a, ni10b⟩, -⟩ := id hM6
    rcases (by omega : y8 = 0 ∨ y8 = 1) with ey11 | ey11
    · skip
      rw [ey11]
      refine dr_virt rfl rfl rfl rfl ni10c (f_X8_refuse0 l hl hI4 hM6 (a2 := 2) (by omega) (by omega)) (by decide) (by decide) (by decide) (Nat.le_of_ble_eq_true rfl) kNQN (kNQ (fun h12 hI13 hF14 hM15 => ?_))
      have hF16 := FrM_tr hF7 hF14
      refine di_if_eq rfl rfl (by omega) (by omega) (fun _ => ?_) (fun c9 => by exfalso; omega)
      refine di_aload_n rfl rfl ?_
      refine dr_iload_n rfl rfl ?_
      refine dr_iload_n rfl rfl ?_
      refine dr_iload_n rfl rfl ?_
      obtain ⟨⟨ni17, ni17c, ni17a, ni17b⟩, -⟩ := id hM15
      obtain ⟨r18, q19, u20, w21, us22, er23, eq24, hu25, hw26, au27, aw28, hs29, as30, hr31, sa32, sb33⟩ := MSt_bk hM15 (k := a1) (by omega) (by omega)
      have hz34 : zF (σ.1 a1) = cv us22 a1 := zF_eq hr31
      have mr35 : isCR r18 := isCR_of er23 (by omega) (by omega)
      have mq36 : isNR q19 := isNR_of eq24 (by omega) (by omega)
      refine dr_virt rfl rfl rfl rfl ni17c (n_X8_linkCount l hl hI13 hM15 (a1 := a1) (by omega) (by omega) (a2 := a2) (by omega) (by omega) (a3 := a3) (by omega) (by omega) er23 eq24 hu25 hw26 au27 aw28 hs29 as30 hr31 sa32 sb33) (by decide) (by decide) (by decide) (Nat.le_of_ble_eq_true rfl) kNP (kIP (fun y37 y37f y37a y37b => ?_))
      obtain ⟨y37c, y37d, y37k⟩ := y37f
      have e9 : anLinks (σ.1 a1) a2 a3 = y37 := links_e y37k
      exact dr_iret (ty := .int) rfl rfl rfl (by decide) (by decide) (QM_ok hI13 hF16 hM15 (by omega) (by omega) (by unfold spLinks; (try rw [e9]); (repeat' split) <;> first | rfl | (exfalso; omega) | (apply Prod.ext <;> first | rfl | (dsimp only; omega) | (apply Prod.ext <;> first | rfl | (dsimp only; omega)))))
    · skip
      rw [ey11]
      refine dr_virt rfl rfl rfl rfl ni10c (f_X8_refuse1 l hl hI4 hM6 (a2 := 2) (by omega) (by omega)) (by decide) (by decide) (by decide) (Nat.le_of_ble_eq_true rfl) kNQN (kNQ (fun h38 hI39 hF40 hM41 => ?_))
      have hF42 := FrM_tr hF7 hF40
      refine di_if_eq rfl rfl (by omega) (by omega) (fun c9 => by exfalso; omega) (fun _ => ?_)
      refine di_const rfl ?_
      exact dr_iret (ty := .int) rfl rfl rfl (by decide) (by decide) (QM_no (x := 0) hI39 hF42 hM41 (by omega) (by omega) (by omega) (by unfold spLinks; (repeat' split) <;> first | rfl | (exfalso; omega) | (apply Prod.ext <;> first | rfl | (dsimp only; omega) | (apply Prod.ext <;> first | rfl | (dsimp only; omega)))))
  · skip
    rw [ey2]
    refine dr_virt rfl rfl rfl rfl c26 (f_X8_start1 l hl hI hM (a2 := 1) (by omega) (by omega)) (by decide) (by decide) (by decide) (Nat.le_of_ble_eq_true rfl) kNQN (kNQ (fun h43 hI44 hF45 hM46 => ?_))
    have hF47 := FrM_tr FrM_rf hF45
    refine di_if_ne rfl rfl (by omega) (by omega) (fun _ => ?_) (fun c9 => by exfalso; omega)
    refine di_const rfl ?_
    exact dr_iret (ty := .int) rfl rfl rfl (by decide) (by decide) (QM_no (x := 0) hI44 hF47 hM46 (by omega) (by omega) (by omega) (by unfold spLinks; (repeat' split) <;> first | rfl | (exfalso; omega) | (apply Prod.ext <;> first | rfl | (dsimp only; omega) | (apply Prod.ext <;> first | rfl | (dsimp only; omega)))))
set_option maxHeartbeats 4000000 in
set_option maxRecDepth 100000 in
/-- EarlyendsModel.link -/
theorem n_X8_link (l : Launch) (hl : l.stackTraces = false) {kc km : Int} {h : dm_H} (hI : Inv kc km h) {th : Int} {σ : St} (hM : MSt km th σ h) {a1 : Int} (h1a : -2147483648 ≤ a1) (h1b : a1 ≤ 2147483647) {a2 : Int} (h2a : -2147483648 ≤ a2) (h2b : a2 ≤ 2147483647) {a3 : Int} (h3a : -2147483648 ≤ a3) (h3b : a3 ≤ 2147483647) {a4 : Int} (h4a : -2147483648 ≤ a4) (h4b : a4 ≤ 2147483647) : dm_M l 212 8 0 0 [.ref 26, dI (a1), dI (a2), dI (a3), dI (a4)] h (QM9 kc km h (spLink σ a1 a2 a3 a4)) := by
  obtain ⟨⟨ni, c26, ni0, ni1⟩, ⟨⟨R1, R2⟩, ⟨R3, R4⟩, ⟨R5, R6⟩, ⟨R7, R8⟩, ⟨R9, R10⟩, ⟨R11, R12⟩, R13⟩, ⟨th0, th1⟩, -⟩ := id hM
  have R14 : σ.2.2.2.2.2.1 = -1 ∨ (0 ≤ σ.2.2.2.2.2.1 ∧ σ.2.2.2.2.2.1 ≤ 9999 ∧ σ.2.2.2.2.2.1 % 100 ≤ σ.2.2.2.2.2.1 / 100) := R13
  refine dm_M_of dk_212 hl rfl (Nat.le_of_ble_eq_true rfl) ?_
  show dm_W (fun _ _ _ => True) (dm_P (QM9 kc km h (spLink σ a1 a2 a3 a4)) 0 0) l 212 8 0 0 0 [some (.ref 26), some (dI (a1)), some (dI (a2)), some (dI (a3)), some (dI (a4)), none, none] [] h 0 0
  refine di_aload_n rfl rfl ?_
  refine dr_iload_n rfl rfl ?_
  refine dr_stat rfl rfl rfl rfl (f_X8_isNoBook l hl hI (a0 := a1) (by omega) (by omega)) (by decide) (by decide) (by decide) (Nat.le_of_ble_eq_true rfl) kNP (kIP (fun y1 y1f y1a y1b => ?_))
  have y1g : 0 ≤ y1 ∧ y1 ≤ 1 ∧ (y1 = 0 → 0 ≤ a1 ∧ a1 ≤ 2) ∧ (y1 = 1 → a1 < 0 ∨ 2 < a1) := y1f
  clear y1f
  refine di_const rfl ?_
  rcases (by omega : y1 = 0 ∨ y1 = 1) with ey2 | ey2
  · skip
    rw [ey2]
    refine dr_virt rfl rfl rfl rfl c26 (f_X8_start0 l hl hI hM (a2 := 1) (by omega) (by omega)) (by decide) (by decide) (by decide) (Nat.le_of_ble_eq_true rfl) kNQN (kNQ (fun h3 hI4 hF5 hM6 => ?_))
    have hF7 := FrM_tr FrM_rf hF5
    refine di_if_ne rfl rfl (by omega) (by omega) (fun c9 => by exfalso; omega) (fun _ => ?_)
    refine di_aload_n rfl rfl ?_
    refine dr_iload_n rfl rfl ?_
    refine dr_iload_n rfl rfl ?_
    refine dr_stat rfl rfl rfl rfl (f_X8_isNoSpan l hl hI4 (a0 := a2) (by omega) (by omega) (a1 := a3) (by omega) (by omega)) (by decide) (by decide) (by decide) (Nat.le_of_ble_eq_true rfl) kNP (kIP (fun y8 y8f y8a y8b => ?_))
    have y8g : 0 ≤ y8 ∧ y8 ≤ 1 ∧ (y8 = 0 → 0 ≤ a2 ∧ a2 ≤ a3 ∧ a3 ≤ 99) ∧ (y8 = 1 → a2 < 0 ∨ a3 < a2 ∨ 99 < a3) := y8f
    clear y8f
    refine di_if_ne rfl rfl (by omega) (by omega) (fun c10 => ?_) (fun c10 => ?_)
    · skip
      refine di_const rfl ?_
      refine dr_goto rfl rfl ?_
      refine di_const rfl ?_
      obtain ⟨⟨ni11, ni11c, ni11a, ni11b⟩, -⟩ := id hM6
      refine dr_virt rfl rfl rfl rfl ni11c (f_X8_refuse1 l hl hI4 hM6 (a2 := 2) (by omega) (by omega)) (by decide) (by decide) (by decide) (Nat.le_of_ble_eq_true rfl) kNQN (kNQ (fun h12 hI13 hF14 hM15 => ?_))
      have hF16 := FrM_tr hF7 hF14
      refine di_if_eq rfl rfl (by omega) (by omega) (fun c9 => by exfalso; omega) (fun _ => ?_)
      refine di_const rfl ?_
      exact dr_iret (ty := .int) rfl rfl rfl (by decide) (by decide) (QM_no (x := 0) hI13 hF16 hM15 (by omega) (by omega) (by omega) (by unfold spLink; (repeat' split) <;> first | rfl | (exfalso; omega) | (apply Prod.ext <;> first | rfl | (dsimp only; omega) | (apply Prod.ext <;> first | rfl | (dsimp only; omega)))))
    · skip
      refine dr_iload rfl rfl ?_
      refine di_if_ge rfl rfl (by omega) (by omega) (fun c17 => ?_) (fun c17 => ?_)
      · skip
        refine di_const rfl ?_
        refine di_const rfl ?_
        obtain ⟨⟨ni18, ni18c, ni18a, ni18b⟩, -⟩ := id hM6
        refine dr_virt rfl rfl rfl rfl ni18c (f_X8_refuse0 l hl hI4 hM6 (a2 := 2) (by omega) (by omega)) (by decide) (by decide) (by decide) (Nat.le_of_ble_eq_true rfl) kNQN (kNQ (fun h19 hI20 hF21 hM22 => ?_))
        have hF23 := FrM_tr hF7 hF21
        refine di_if_eq rfl rfl (by omega) (by omega) (fun _ => ?_) (fun c9 => by exfalso; omega)
        refine dr_iload rfl rfl ?_
        refine di_aload_n rfl rfl ?_
        refine dr_iload_n rfl rfl ?_
        refine dr_iload_n rfl rfl ?_
        refine dr_iload_n rfl rfl ?_
        obtain ⟨⟨ni24, ni24c, ni24a, ni24b⟩, -⟩ := id hM22
        obtain ⟨r25, q26, u27, w28, us29, er30, eq31, hu32, hw33, au34, aw35, hs36, as37, hr38, sa39, sb40⟩ := MSt_bk hM22 (k := a1) (by omega) (by omega)
        have hz41 : zF (σ.1 a1) = cv us29 a1 := zF_eq hr38
        have mr42 : isCR r25 := isCR_of er30 (by omega) (by omega)
        have mq43 : isNR q26 := isNR_of eq31 (by omega) (by omega)
        refine dr_virt rfl rfl rfl rfl ni24c (n_X8_linkCount l hl hI20 hM22 (a1 := a1) (by omega) (by omega) (a2 := a2) (by omega) (by omega) (a3 := a3) (by omega) (by omega) er30 eq31 hu32 hw33 au34 aw35 hs36 as37 hr38 sa39 sb40) (by decide) (by decide) (by decide) (Nat.le_of_ble_eq_true rfl) kNP (kIP (fun y44 y44f y44a y44b => ?_))
        obtain ⟨y44c, y44d, y44k⟩ := y44f
        refine di_icmp_lt rfl rfl (by omega) (by omega) (by omega) (by omega) (fun c45 => ?_) (fun c45 => ?_)
        · skip
          refine dr_iload_n rfl rfl ?_
          refine di_istore (ls2 := [some (.ref 26), some (dI (a1)), some (dI (a2)), some (dI (a3)), some (dI (a4)), some (dI (a2)), none]) rfl rfl rfl ?_
          refine di_const rfl ?_
          refine di_istore (ls2 := [some (.ref 26), some (dI (a1)), some (dI (a2)), some (dI (a3)), some (dI (a4)), some (dI (a2)), some (dI (0))]) rfl rfl rfl ?_
          have L48 : ∀ (n : Nat) (i46 : Int) (i47 : Int), (100 - i47).toNat < n → -1 ≤ i46 → i46 ≤ 100 → 0 ≤ i47 → i47 ≤ 100 → i47 ≤ a4 → i46 = pl (σ.1 a1) a2 (i47).toNat → dm_W (fun _ _ _ => True) (dm_P (QM9 kc km h (spLink σ a1 a2 a3 a4)) 0 0) l 212 8 0 0 60 [some (.ref 26), some (dI (a1)), some (dI (a2)), some (dI (a3)), some (dI (a4)), some (dI (i46)), some (dI (i47))] [] h19 0 0 := by
            intro n
            induction n with
            | zero => intro i46 i47 hm; exact absurd hm (Nat.not_lt_zero _)
            | succ n ih =>
              intro i46 i47 hm54 hb49 hb50 hb51 hb52 hx53 PP
              have ihL48 := ih
              clear ih
              refine dr_iload rfl rfl ?_
              refine dr_iload rfl rfl ?_
              refine di_icmp_ge rfl rfl (by omega) (by omega) (by omega) (by omega) (fun c55 => ?_) (fun c55 => ?_)
              · skip
                refine di_aload_n rfl rfl ?_
                refine dr_iload_n rfl rfl ?_
                refine dr_iload rfl rfl ?_
                refine dr_virt rfl rfl rfl rfl ni24c (n_X8_farthest l hl hI20 hM22 (a1 := a1) (by omega) (by omega) (a2 := i46) (by omega) (by omega) er30 eq31 hu32 hw33 au34 aw35 hs36 as37 hr38 sa39 sb40) (by decide) (by decide) (by decide) (Nat.le_of_ble_eq_true rfl) kNP (kIP (fun y56 y56f y56a y56b => ?_))
                obtain ⟨y56c, y56d, y56k⟩ := y56f
                have ei9 : i47 = a4 := by omega
                have e9 : anLink (σ.1 a1) a2 a3 a4 = y56 := anLink_y y44k (by omega) (by rw [← ei9]; exact PP) y56k.2
                exact dr_iret (ty := .int) rfl rfl rfl (by decide) (by decide) (QM_ok hI20 hF23 hM22 (by omega) (by omega) (by unfold spLink; (try rw [e9]); (repeat' split) <;> first | rfl | (exfalso; omega) | (apply Prod.ext <;> first | rfl | (dsimp only; omega) | (apply Prod.ext <;> first | rfl | (dsimp only; omega)))))
              · skip
                refine di_aload_n rfl rfl ?_
                refine dr_iload_n rfl rfl ?_
                refine dr_iload rfl rfl ?_
                refine dr_virt rfl rfl rfl rfl ni24c (n_X8_farthest l hl hI20 hM22 (a1 := a1) (by omega) (by omega) (a2 := i46) (by omega) (by omega) er30 eq31 hu32 hw33 au34 aw35 hs36 as37 hr38 sa39 sb40) (by decide) (by decide) (by decide) (Nat.le_of_ble_eq_true rfl) kNP (kIP (fun y57 y57f y57a y57b => ?_))
                obtain ⟨y57c, y57d, y57k⟩ := y57f
                have gn9 : y57 ≠ -1 := by rw [y57k.2]; exact lk_g y44k (by omega) (by omega) (by omega) PP
                refine di_bipush rfl (by decide) ?_
                refine di_idiv rfl (by omega) (by omega) (by omega) (by omega) ?_
                refine di_const rfl ?_
                refine di_iadd rfl ?_
                refine di_istore (ls2 := [some (.ref 26), some (dI (a1)), some (dI (a2)), some (dI (a3)), some (dI (a4)), some (dI (((y57 / 100) + 1))), some (dI (i47))]) rfl rfl rfl ?_
                refine di_iinc (ls2 := [some (.ref 26), some (dI (a1)), some (dI (a2)), some (dI (a3)), some (dI (a4)), some (dI (((y57 / 100) + 1))), some (dI ((i47 + 1)))]) rfl rfl rfl rfl ?_
                refine dr_goto rfl rfl ?_
                exact ihL48 (((y57 / 100) + 1)) ((i47 + 1)) (by omega) (by omega) (by omega) (by omega) (by omega) (by omega)  (pl_s (by omega) PP y57k.2 (by omega))
          exact L48 _ (a2) (0) (Nat.lt_succ_self _) (by omega) (by omega) (by omega) (by omega) (by omega)  rfl
        · skip
          refine di_const rfl ?_
          have e9 : anLink (σ.1 a1) a2 a3 a4 = -1 := anLink_n y44k (by omega)
          exact dr_iret (ty := .int) rfl rfl rfl (by decide) (by decide) (QM_ok hI20 hF23 hM22 (by omega) (by omega) (by unfold spLink; (try rw [e9]); (repeat' split) <;> first | rfl | (exfalso; omega) | (apply Prod.ext <;> first | rfl | (dsimp only; omega) | (apply Prod.ext <;> first | rfl | (dsimp only; omega)))))
      · skip
        refine di_const rfl ?_
        refine dr_goto rfl rfl ?_
        refine di_const rfl ?_
        obtain ⟨⟨ni58, ni58c, ni58a, ni58b⟩, -⟩ := id hM6
        refine dr_virt rfl rfl rfl rfl ni58c (f_X8_refuse1 l hl hI4 hM6 (a2 := 2) (by omega) (by omega)) (by decide) (by decide) (by decide) (Nat.le_of_ble_eq_true rfl) kNQN (kNQ (fun h59 hI60 hF61 hM62 => ?_))
        have hF63 := FrM_tr hF7 hF61
        refine di_if_eq rfl rfl (by omega) (by omega) (fun c9 => by exfalso; omega) (fun _ => ?_)
        refine di_const rfl ?_
        exact dr_iret (ty := .int) rfl rfl rfl (by decide) (by decide) (QM_no (x := 0) hI60 hF63 hM62 (by omega) (by omega) (by omega) (by unfold spLink; (repeat' split) <;> first | rfl | (exfalso; omega) | (apply Prod.ext <;> first | rfl | (dsimp only; omega) | (apply Prod.ext <;> first | rfl | (dsimp only; omega)))))
  · skip
    rw [ey2]
    refine dr_virt rfl rfl rfl rfl c26 (f_X8_start1 l hl hI hM (a2 := 1) (by omega) (by omega)) (by decide) (by decide) (by decide) (Nat.le_of_ble_eq_true rfl) kNQN (kNQ (fun h64 hI65 hF66 hM67 => ?_))
    have hF68 := FrM_tr FrM_rf hF66
    refine di_if_ne rfl rfl (by omega) (by omega) (fun _ => ?_) (fun c9 => by exfalso; omega)
    refine di_const rfl ?_
    exact dr_iret (ty := .int) rfl rfl rfl (by decide) (by decide) (QM_no (x := 0) hI65 hF68 hM67 (by omega) (by omega) (by omega) (by unfold spLink; (repeat' split) <;> first | rfl | (exfalso; omega) | (apply Prod.ext <;> first | rfl | (dsimp only; omega) | (apply Prod.ext <;> first | rfl | (dsimp only; omega)))))
/-! ===== rows of codes: what the model's helpers answer ===== -/
def mt (f : Int → Int) (k r : Int) : Prop := f k % 100 ≤ f r / 100 ∧ f r % 100 ≤ f k / 100
def okV (v : List Value) (n : Nat) : Prop := ∀ j : Int, 0 ≤ j → j < n → 0 ≤ cv v j ∧ cv v j % 100 ≤ cv v j / 100
theorem isof_h {S r x : Int} (h0 : 0 ≤ r) (e : bb S (r + 1) = bb S r + x) : (x = 1 → hbt S r) ∧ (x = 0 → ¬ hbt S r) := by
  rcases bb_s (S := S) (r := r) h0 with ⟨e1, e2⟩ | ⟨e1, e2⟩
  · exact ⟨fun _ => e2, fun q => by omega⟩
  · exact ⟨fun q => by omega, fun _ => e2⟩
def apO (f : Int → Int) (A a : Int) : Prop := ∀ r k : Int, 0 ≤ k → k < r → r < a → hbt A r → hbt A k → ¬ mt f k r
def apN (f : Int → Int) (A a b : Int) : Prop := ∀ k : Int, 0 ≤ k → k < b → hbt A a → hbt A k → ¬ mt f k a
section AP
variable {f : Int → Int} {A a b n h h2 m : Int}
theorem apO_0 : apO f A 0 := fun r k h0 h1 h2 => by omega
theorem apN_0 : apN f A a 0 := fun k h0 h1 => by omega
theorem apN_s (h : apN f A a b) (q : hbt A a → hbt A b → ¬ mt f b a) : apN f A a (b + 1) := fun k k0 k1 h1 h2 => by
  by_cases e : k = b
  · rw [e] at h2 ⊢; exact q h1 h2
  · exact h k k0 (by omega) h1 h2
theorem apO_s (h : apO f A a) (q : apN f A a b) (e : a ≤ b) : apO f A (a + 1) := fun r k k0 k1 r1 h1 h2 => by
  by_cases c : r = a
  · rw [c] at h1 k1 ⊢; exact q k k0 (by omega) h1 h2
  · exact h r k k0 k1 (by omega) h1 h2
theorem apO_e (h : apO f A a) (e : n ≤ a) : apt f n A := fun r k r0 r1 k0 k1 ar ak ne q => by
  rcases Int.lt_or_gt_of_ne ne with c | c
  · exact h k r r0 c (by omega) ak ar ⟨q.2, q.1⟩
  · exact h r k k0 c (by omega) ar ak ⟨q.1, q.2⟩
theorem ap_x (b0 : 0 ≤ b) (b1 : b < a) (a1 : a < n) (h1 : hbt A a) (h2 : hbt A b) (q : mt f b a) : ¬ apt f n A := fun h => h a b (by omega) a1 b0 (by omega) h1 h2 (by omega) ⟨q.1, q.2⟩
/-- the ranks held, and how many are not -/
def heQ (f : Int → Int) (n A r : Int) : Prop := ∃ k : Int, 0 ≤ k ∧ k < n ∧ hbt A k ∧ f r % 100 ≤ f k / 100 ∧ f k / 100 ≤ f r / 100
noncomputable def nhP (f : Int → Int) (n A : Int) : Int → Bool := fun r => @decide (¬ heQ f n A r) (Classical.propDecidable _)
noncomputable def unC (f : Int → Int) (n : Nat) (A : Int) : Int := cnt (fun j => j) (nhP f n A) n
def unP (f : Int → Int) (n A m a : Int) : Prop := m = cnt (fun j => j) (nhP f n A) a.toNat
def heI (f : Int → Int) (n A a h b : Int) : Prop := (h = 1 ∧ heQ f n A a) ∨ (h = 0 ∧ ∀ k : Int, 0 ≤ k → k < b → ¬ (hbt A k ∧ f a % 100 ≤ f k / 100 ∧ f k / 100 ≤ f a / 100))
theorem unP_0 : unP f n A 0 0 := rfl
theorem heI_0 : heI f n A a 0 0 := Or.inr ⟨rfl, fun k h0 h1 => by omega⟩
theorem heI_n (h9 : heI f n A a h b) (q : ¬ (hbt A b ∧ f a % 100 ≤ f b / 100 ∧ f b / 100 ≤ f a / 100)) : heI f n A a h (b + 1) := by
  rcases h9 with h9 | ⟨h0, h1⟩
  · exact Or.inl h9
  · refine Or.inr ⟨h0, fun k k0 k1 => ?_⟩
    by_cases e : k = b
    · rw [e]; exact q
    · exact h1 k k0 (by omega)
theorem heI_y {x : Int} (b0 : 0 ≤ b) (b1 : b < n) (e : x = 1) (q : hbt A b ∧ f a % 100 ≤ f b / 100 ∧ f b / 100 ≤ f a / 100) : heI f n A a x (b + 1) := Or.inl ⟨e, b, b0, b1, q⟩
theorem unP_y (h9 : unP f n A m a) (a0 : 0 ≤ a) (q : heI f n A a h b) (e : h ≠ 0) : unP f n A m (a + 1) := by
  unfold unP at *
  rw [cnt_st a0, ← h9]
  have : heQ f n A a := by
    rcases q with q | q
    · exact q.2
    · exact absurd q.1 e
  rw [if_neg (fun z => (@of_decide_eq_true _ (Classical.propDecidable _) z) this)]
  omega
theorem unP_n (h9 : unP f n A m a) (a0 : 0 ≤ a) (q : heI f n A a h b) (e : h = 0) (hb : n ≤ b) : unP f n A (m + 1) (a + 1) := by
  unfold unP at *
  rw [cnt_st a0, ← h9]
  have : ¬ heQ f n A a := by
    rcases q with q | q
    · omega
    · exact fun ⟨k, k0, k1, k2⟩ => q.2 k k0 (by omega) k2
  rw [if_pos (show nhP f n A a = true from @decide_eq_true _ (Classical.propDecidable _) this)]
theorem unP_e {N : Nat} (h9 : unP f (N : Int) A m a) (e : a = N) : m = unC f N A := by
  subst e
  exact h9
end AP
theorem hs_ex {H : Int → Prop} : ∀ n : Nat, n ≤ 8 → ∃ S : Int, hsP S n H
  | 0, _ => ⟨0, hs_0⟩
  | n + 1, h => by
    obtain ⟨S, hS⟩ := hs_ex (H := H) n (by omega)
    rw [show ((n + 1 : Nat) : Int) = (n : Int) + 1 by omega]
    by_cases q : H (n : Int)
    · exact ⟨_, hs_y hS (by omega) (by omega) q rfl rfl⟩
    · exact ⟨S, hs_n hS q⟩
theorem cnt_nt {f : Int → Int} {P Q : Int → Bool} : ∀ n : Nat, (∀ j : Int, 0 ≤ j → j < n → (P (f j) = true ↔ ¬ Q (f j) = true)) → cnt f P n + cnt f Q n = n
  | 0, _ => rfl
  | n + 1, h => by
    have ih := cnt_nt n (fun j j0 j1 => h j j0 (by omega))
    have k := h n (by omega) (by omega)
    show cnt f P n + (if P (f (n : Int)) then 1 else 0) + (cnt f Q n + (if Q (f (n : Int)) then 1 else 0)) = ((n + 1 : Nat) : Int)
    by_cases q : Q (f (n : Int)) = true
    · rw [if_pos q, if_neg (fun z => (k.mp z) q)]; omega
    · rw [if_neg q, if_pos (k.mpr q)]; omega
theorem un_e {F : Int → Int} {A : Int} {v : List Value} {n : Nat} (hT : sRp F) (n8 : n ≤ 8) (e : (n : Int) = zF F) (hv : ∀ j : Int, 0 ≤ j → j < n → cv v j = cR F j) : anUnheld F A = unC (cv v) n A := by
  obtain ⟨f0, g0, s0, r0, t0⟩ := hT
  have es : s0 = n := by rw [e, zF_eq r0]
  subst es
  have hf : ∀ j : Int, 0 ≤ j → j < (n : Int) → f0 j = cv v j := fun j j0 j1 => by rw [hv j j0 j1, cR_eq r0 t0 j0 j1]
  obtain ⟨S, hS⟩ := hs_ex (H := heQ f0 (n : Int) A) n n8
  have hP : heP S (n : Int) (n : Int) f0 A := hS
  rw [unh_e r0 t0 hP]
  have k1 := bb_cnt (f := fun j => j) (P := fun r => @decide (heQ f0 (n : Int) A r) (Classical.propDecidable _)) hS (by omega) (by omega) (fun r => @decide_eq_true_iff _ (Classical.propDecidable _))
  have k2 : cnt (fun j => j) (nhP (cv v) (n : Int) A) n + cnt (fun j => j) (fun r => @decide (heQ f0 (n : Int) A r) (Classical.propDecidable _)) n = n := cnt_nt n (fun j j0 j1 => by
    show (nhP (cv v) (n : Int) A j = true ↔ ¬ (@decide (heQ f0 (n : Int) A j) (Classical.propDecidable _)) = true)
    unfold nhP
    rw [@decide_eq_true_iff _ (Classical.propDecidable _), @decide_eq_true_iff _ (Classical.propDecidable _)]
    refine not_congr ⟨fun ⟨k, k0, k1, k2, k3⟩ => ⟨k, k0, k1, k2, ?_⟩, fun ⟨k, k0, k1, k2, k3⟩ => ⟨k, k0, k1, k2, ?_⟩⟩
    · rw [hf j j0 j1, hf k k0 k1]; exact k3
    · rw [← hf j j0 j1, ← hf k k0 k1]; exact k3)
  rw [show (n : Int).toNat = n by omega] at k1
  rw [k1]
  unfold unC
  omega
/-- the room of a rank among those that are housed -/
def fr1 (f v : Int → Int) (n r q i : Int) : Prop := ∀ k : Int, 0 ≤ k → k < i → v k = q → ¬ mt f k r
def hasR (f v : Int → Int) (n r q : Int) : Prop := ∃ k : Int, 0 ≤ k ∧ k < n ∧ v k = q ∧ mt f k r
def frV (f v : Int → Int) (n r x : Int) : Prop := 0 ≤ x ∧ fr1 f v n r x n ∧ ∀ q : Int, 0 ≤ q → q < x → hasR f v n r q
def frK (f v : Int → Int) (n r q h i : Int) : Prop := (h = 1 ∧ fr1 f v n r q i) ∨ (h = 0 ∧ hasR f v n r q)
section FRR
variable {f v : Int → Int} {n r q i h x : Int}
theorem frK_0 : frK f v n r q 1 0 := Or.inl ⟨rfl, fun k h0 h1 => by omega⟩
theorem frK_n (h9 : frK f v n r q h i) (z : v i = q → ¬ mt f i r) : frK f v n r q h (i + 1) := h9.imp (fun ⟨a, b⟩ => ⟨a, fun k k0 k1 kq => by
  by_cases e : k = i
  · rw [e] at kq ⊢; exact z kq
  · exact b k k0 (by omega) kq⟩) id
theorem frK_y {h2 : Int} (e : h2 = 0) (i0 : 0 ≤ i) (i1 : i < n) (a : v i = q) (b : mt f i r) : frK f v n r q h2 (i + 1) := Or.inr ⟨e, i, i0, i1, a, b⟩
theorem frK_f (h9 : frK f v n r q h i) (e : h ≠ 0) (hi : n ≤ i) : fr1 f v n r q n := by
  rcases h9 with h9 | h9
  · exact fun k k0 k1 => h9.2 k k0 (by omega)
  · exact absurd h9.1 e
theorem frK_h (h9 : frK f v n r q h i) (e : h = 0) : hasR f v n r q := by
  rcases h9 with h9 | h9
  · omega
  · exact h9.2
end FRR
set_option maxHeartbeats 4000000 in
set_option maxRecDepth 100000 in
/-- EarlyendsModel.areMeeting -/
theorem s_X8_areMeeting_d (l : Launch) (hl : l.stackTraces = false) {kc km : Int} {h : dm_H} (hI : Inv kc km h) {a0 : Int} (h0a : 0 ≤ a0) (h0b : a0 ≤ 9999) {a1 : Int} (h1a : 0 ≤ a1) (h1b : a1 ≤ 9999) (hp0 : a0 % 100 ≤ a0 / 100) (hp1 : a1 % 100 ≤ a1 / 100) : dm_M l 186 1 0 0 [dI (a0), dI (a1)] h (QP h (RI (fun x => 0 ≤ x ∧ x ≤ 1 ∧ (x = 1 → a0 % 100 ≤ a1 / 100 ∧ a1 % 100 ≤ a0 / 100) ∧ (x = 0 → a1 / 100 < a0 % 100 ∨ a0 / 100 < a1 % 100))) []) := by
  refine dm_M_of dk_186 hl rfl (Nat.le_of_ble_eq_true rfl) ?_
  show dm_W (fun _ _ _ => True) (dm_P (QP h (RI (fun x => 0 ≤ x ∧ x ≤ 1 ∧ (x = 1 → a0 % 100 ≤ a1 / 100 ∧ a1 % 100 ≤ a0 / 100) ∧ (x = 0 → a1 / 100 < a0 % 100 ∨ a0 / 100 < a1 % 100))) []) 0 0) l 186 1 0 0 0 [some (dI (a0)), some (dI (a1)), none] [] h 0 0
  refine dr_iload_n rfl rfl ?_
  refine di_bipush rfl (by decide) ?_
  refine di_irem rfl (by omega) (by omega) (by omega) (by omega) ?_
  refine dr_iload_n rfl rfl ?_
  refine di_bipush rfl (by decide) ?_
  refine di_irem rfl (by omega) (by omega) (by omega) (by omega) ?_
  refine di_icmp_le rfl rfl (by omega) (by omega) (by omega) (by omega) (fun c1 => ?_) (fun c1 => ?_)
  · skip
    refine dr_iload_n rfl rfl ?_
    refine di_bipush rfl (by decide) ?_
    refine di_irem rfl (by omega) (by omega) (by omega) (by omega) ?_
    refine di_istore_n (ls2 := [some (dI (a0)), some (dI (a1)), some (dI ((a1 % 100)))]) rfl rfl rfl ?_
    refine dr_iload_n rfl rfl ?_
    refine dr_iload_n rfl rfl ?_
    refine dr_stat rfl rfl rfl rfl (s_X8_isHolding_d l hl hI (a0 := a0) (by omega) (by omega) (a1 := (a1 % 100)) (by omega) (by omega)) (by decide) (by decide) (by decide) (Nat.le_of_ble_eq_true rfl) kNP (kIP (fun y2 y2f y2a y2b => ?_))
    have y2g : 0 ≤ y2 ∧ y2 ≤ 1 ∧ (y2 = 1 → (a0) % 100 ≤ ((a1 % 100)) ∧ ((a1 % 100)) ≤ (a0) / 100) ∧ (y2 = 0 → ((a1 % 100)) < (a0) % 100 ∨ (a0) / 100 < ((a1 % 100))) := y2f
    refine di_if_eq rfl rfl (by omega) (by omega) (fun c3 => ?_) (fun c3 => ?_)
    · skip
      refine di_const rfl ?_
      exact dr_iret (ty := .boolean) rfl rfl (nar_z (by omega) (by omega)) (by decide) (by decide) ⟨rfl, 0, (show 0 ≤ (0) ∧ (0) ≤ 1 ∧ ((0) = 1 → a0 % 100 ≤ a1 / 100 ∧ a1 % 100 ≤ a0 / 100) ∧ ((0) = 0 → a1 / 100 < a0 % 100 ∨ a0 / 100 < a1 % 100) by omega), by omega, by omega, rfl⟩
    · skip
      refine dr_iload_n rfl rfl ?_
      refine dr_iload_n rfl rfl ?_
      refine dr_stat rfl rfl rfl rfl (s_X8_isHolding_d l hl hI (a0 := a1) (by omega) (by omega) (a1 := (a1 % 100)) (by omega) (by omega)) (by decide) (by decide) (by decide) (Nat.le_of_ble_eq_true rfl) kNP (kIP (fun y4 y4f y4a y4b => ?_))
      have y4g : 0 ≤ y4 ∧ y4 ≤ 1 ∧ (y4 = 1 → (a1) % 100 ≤ ((a1 % 100)) ∧ ((a1 % 100)) ≤ (a1) / 100) ∧ (y4 = 0 → ((a1 % 100)) < (a1) % 100 ∨ (a1) / 100 < ((a1 % 100))) := y4f
      refine di_if_eq rfl rfl (by omega) (by omega) (fun c5 => ?_) (fun c5 => ?_)
      · skip
        refine di_const rfl ?_
        exact dr_iret (ty := .boolean) rfl rfl (nar_z (by omega) (by omega)) (by decide) (by decide) ⟨rfl, 0, (show 0 ≤ (0) ∧ (0) ≤ 1 ∧ ((0) = 1 → a0 % 100 ≤ a1 / 100 ∧ a1 % 100 ≤ a0 / 100) ∧ ((0) = 0 → a1 / 100 < a0 % 100 ∨ a0 / 100 < a1 % 100) by omega), by omega, by omega, rfl⟩
      · skip
        refine di_const rfl ?_
        refine dr_goto rfl rfl ?_
        exact dr_iret (ty := .boolean) rfl rfl (nar_z (by omega) (by omega)) (by decide) (by decide) ⟨rfl, 1, (show 0 ≤ (1) ∧ (1) ≤ 1 ∧ ((1) = 1 → a0 % 100 ≤ a1 / 100 ∧ a1 % 100 ≤ a0 / 100) ∧ ((1) = 0 → a1 / 100 < a0 % 100 ∨ a0 / 100 < a1 % 100) by omega), by omega, by omega, rfl⟩
  · skip
    refine dr_iload_n rfl rfl ?_
    refine di_bipush rfl (by decide) ?_
    refine di_irem rfl (by omega) (by omega) (by omega) (by omega) ?_
    refine dr_goto rfl rfl ?_
    refine di_istore_n (ls2 := [some (dI (a0)), some (dI (a1)), some (dI ((a0 % 100)))]) rfl rfl rfl ?_
    refine dr_iload_n rfl rfl ?_
    refine dr_iload_n rfl rfl ?_
    refine dr_stat rfl rfl rfl rfl (s_X8_isHolding_d l hl hI (a0 := a0) (by omega) (by omega) (a1 := (a0 % 100)) (by omega) (by omega)) (by decide) (by decide) (by decide) (Nat.le_of_ble_eq_true rfl) kNP (kIP (fun y6 y6f y6a y6b => ?_))
    have y6g : 0 ≤ y6 ∧ y6 ≤ 1 ∧ (y6 = 1 → (a0) % 100 ≤ ((a0 % 100)) ∧ ((a0 % 100)) ≤ (a0) / 100) ∧ (y6 = 0 → ((a0 % 100)) < (a0) % 100 ∨ (a0) / 100 < ((a0 % 100))) := y6f
    refine di_if_eq rfl rfl (by omega) (by omega) (fun c7 => ?_) (fun c7 => ?_)
    · skip
      refine di_const rfl ?_
      exact dr_iret (ty := .boolean) rfl rfl (nar_z (by omega) (by omega)) (by decide) (by decide) ⟨rfl, 0, (show 0 ≤ (0) ∧ (0) ≤ 1 ∧ ((0) = 1 → a0 % 100 ≤ a1 / 100 ∧ a1 % 100 ≤ a0 / 100) ∧ ((0) = 0 → a1 / 100 < a0 % 100 ∨ a0 / 100 < a1 % 100) by omega), by omega, by omega, rfl⟩
    · skip
      refine dr_iload_n rfl rfl ?_
      refine dr_iload_n rfl rfl ?_
      refine dr_stat rfl rfl rfl rfl (s_X8_isHolding_d l hl hI (a0 := a1) (by omega) (by omega) (a1 := (a0 % 100)) (by omega) (by omega)) (by decide) (by decide) (by decide) (Nat.le_of_ble_eq_true rfl) kNP (kIP (fun y8 y8f y8a y8b => ?_))
      have y8g : 0 ≤ y8 ∧ y8 ≤ 1 ∧ (y8 = 1 → (a1) % 100 ≤ ((a0 % 100)) ∧ ((a0 % 100)) ≤ (a1) / 100) ∧ (y8 = 0 → ((a0 % 100)) < (a1) % 100 ∨ (a1) / 100 < ((a0 % 100))) := y8f
      refine di_if_eq rfl rfl (by omega) (by omega) (fun c9 => ?_) (fun c9 => ?_)
      · skip
        refine di_const rfl ?_
        exact dr_iret (ty := .boolean) rfl rfl (nar_z (by omega) (by omega)) (by decide) (by decide) ⟨rfl, 0, (show 0 ≤ (0) ∧ (0) ≤ 1 ∧ ((0) = 1 → a0 % 100 ≤ a1 / 100 ∧ a1 % 100 ≤ a0 / 100) ∧ ((0) = 0 → a1 / 100 < a0 % 100 ∨ a0 / 100 < a1 % 100) by omega), by omega, by omega, rfl⟩
      · skip
        refine di_const rfl ?_
        refine dr_goto rfl rfl ?_
        exact dr_iret (ty := .boolean) rfl rfl (nar_z (by omega) (by omega)) (by decide) (by decide) ⟨rfl, 1, (show 0 ≤ (1) ∧ (1) ≤ 1 ∧ ((1) = 1 → a0 % 100 ≤ a1 / 100 ∧ a1 % 100 ≤ a0 / 100) ∧ ((1) = 0 → a1 / 100 < a0 % 100 ∨ a0 / 100 < a1 % 100) by omega), by omega, by omega, rfl⟩
set_option maxHeartbeats 4000000 in
set_option maxRecDepth 100000 in
/-- EarlyendsModel.isApart -/
theorem s_X8_isApart_f (l : Launch) (hl : l.stackTraces = false) {kc km : Int} {h : dm_H} (hI : Inv kc km h) {b0 n0 : Nat} {v0 : List Value} (hv0 : h[b0]? = some (20, v0)) (hz0 : arr n0 okR v0) (hn0 : n0 ≤ 8) {a1 : Int} (h1a : 0 ≤ a1) (h1b : a1 ≤ 255) (hv : okV v0 n0) : dm_M l 194 2 0 0 [.ref b0, dI (a1)] h (QP h (RI (fun x => 0 ≤ x ∧ x ≤ 1 ∧ (x = 1 → apt (cv v0) n0 a1) ∧ (x = 0 → ¬ apt (cv v0) n0 a1))) []) := by
  refine dm_M_of dk_194 hl rfl (Nat.le_of_ble_eq_true rfl) ?_
  show dm_W (fun _ _ _ => True) (dm_P (QP h (RI (fun x => 0 ≤ x ∧ x ≤ 1 ∧ (x = 1 → apt (cv v0) n0 a1) ∧ (x = 0 → ¬ apt (cv v0) n0 a1))) []) 0 0) l 194 2 0 0 0 [some (.ref b0), some (dI (a1)), none, none] [] h 0 0
  have lt0 := App_lt hv0
  refine di_const rfl ?_
  refine di_istore_n (ls2 := [some (.ref b0), some (dI (a1)), some (dI (0)), none]) rfl rfl rfl ?_
  have L2 : ∀ (n : Nat) (i1 : Int), (8 - i1).toNat < n → 0 ≤ i1 → i1 ≤ 8 → apO (cv v0) a1 i1 → dm_W (fun _ _ _ => True) (dm_P (QP h (RI (fun x => 0 ≤ x ∧ x ≤ 1 ∧ (x = 1 → apt (cv v0) n0 a1) ∧ (x = 0 → ¬ apt (cv v0) n0 a1))) []) 0 0) l 194 2 0 0 2 [some (.ref b0), some (dI (a1)), some (dI (i1)), none] [] h 0 0 := by
    intro n
    induction n with
    | zero => intro i1 hm; exact absurd hm (Nat.not_lt_zero _)
    | succ n ih =>
      intro i1 hm5 hb3 hb4 PO
      have ihL2 := ih
      clear ih
      refine dr_iload_n rfl rfl ?_
      refine di_aload_n rfl rfl ?_
      refine di_alen (n := n0) rfl hv0 (Or.inl rfl) hz0.1 ?_
      refine di_icmp_ge rfl rfl (by omega) (by omega) (by omega) (by omega) (fun c6 => ?_) (fun c6 => ?_)
      · skip
        refine di_const rfl ?_
        exact dr_iret (ty := .boolean) rfl rfl (nar_z (by omega) (by omega)) (by decide) (by decide) ⟨rfl, 1, ⟨by omega, by omega, fun _ => apO_e PO (by omega), fun e => absurd e (by decide)⟩, by omega, by omega, rfl⟩
      · skip
        refine di_const rfl ?_
        refine di_istore_n (ls2 := [some (.ref b0), some (dI (a1)), some (dI (i1)), some (dI (0))]) rfl rfl rfl ?_
        have L8 : ∀ (n : Nat) (i7 : Int), (8 - i7).toNat < n → 0 ≤ i7 → i7 ≤ 8 → apN (cv v0) a1 i1 i7 → dm_W (fun _ _ _ => True) (dm_P (QP h (RI (fun x => 0 ≤ x ∧ x ≤ 1 ∧ (x = 1 → apt (cv v0) n0 a1) ∧ (x = 0 → ¬ apt (cv v0) n0 a1))) []) 0 0) l 194 2 0 0 10 [some (.ref b0), some (dI (a1)), some (dI (i1)), some (dI (i7))] [] h 0 0 := by
          intro n
          induction n with
          | zero => intro i7 hm; exact absurd hm (Nat.not_lt_zero _)
          | succ n ih =>
            intro i7 hm11 hb9 hb10 PN
            have ihL8 := ih
            clear ih
            refine dr_iload_n rfl rfl ?_
            refine dr_iload_n rfl rfl ?_
            refine di_icmp_ge rfl rfl (by omega) (by omega) (by omega) (by omega) (fun c12 => ?_) (fun c12 => ?_)
            · skip
              refine di_iinc (ls2 := [some (.ref b0), some (dI (a1)), some (dI ((i1 + 1))), some (dI (i7))]) rfl rfl rfl rfl ?_
              refine dr_goto rfl rfl ?_
              refine dm_wk (ls2 := [some (.ref b0), some (dI (a1)), some (dI ((i1 + 1))), none]) ⟨Or.inr rfl, Or.inr rfl, Or.inr rfl, Or.inl rfl, trivial⟩ ?_
              exact ihL2 ((i1 + 1)) (by omega) (by omega) (by omega)  (apO_s PO PN (by omega))
            · skip
              refine dr_iload_n rfl rfl ?_
              refine dr_iload_n rfl rfl ?_
              refine dr_stat rfl rfl rfl rfl (s_X8_isOf_s l hl hI (a0 := a1) (by omega) (by omega) (a1 := i1) (by omega) (by omega)) (by decide) (by decide) (by decide) (Nat.le_of_ble_eq_true rfl) kNP (kIP (fun y13 y13f y13a y13b => ?_))
              have y13g : 0 ≤ y13 ∧ y13 ≤ 1 ∧ bb (a1) ((i1) + 1) = bb (a1) (i1) + y13 := y13f
              have y13h := isof_h (S := a1) (r := i1) (by omega) y13g.2.2
              refine di_if_eq rfl rfl (by omega) (by omega) (fun c14 => ?_) (fun c14 => ?_)
              · skip
                refine di_iinc (ls2 := [some (.ref b0), some (dI (a1)), some (dI (i1)), some (dI ((i7 + 1)))]) rfl rfl rfl rfl ?_
                refine dr_goto rfl rfl ?_
                exact ihL8 ((i7 + 1)) (by omega) (by omega) (by omega)  (apN_s PN (fun h1 _ => absurd h1 (y13h.2 (by omega))))
              · skip
                refine dr_iload_n rfl rfl ?_
                refine dr_iload_n rfl rfl ?_
                refine dr_stat rfl rfl rfl rfl (s_X8_isOf_s l hl hI (a0 := a1) (by omega) (by omega) (a1 := i7) (by omega) (by omega)) (by decide) (by decide) (by decide) (Nat.le_of_ble_eq_true rfl) kNP (kIP (fun y15 y15f y15a y15b => ?_))
                have y15g : 0 ≤ y15 ∧ y15 ≤ 1 ∧ bb (a1) ((i7) + 1) = bb (a1) (i7) + y15 := y15f
                have y15h := isof_h (S := a1) (r := i7) (by omega) y15g.2.2
                refine di_if_eq rfl rfl (by omega) (by omega) (fun c16 => ?_) (fun c16 => ?_)
                · skip
                  refine di_iinc (ls2 := [some (.ref b0), some (dI (a1)), some (dI (i1)), some (dI ((i7 + 1)))]) rfl rfl rfl rfl ?_
                  refine dr_goto rfl rfl ?_
                  exact ihL8 ((i7 + 1)) (by omega) (by omega) (by omega)  (apN_s PN (fun _ h2 => absurd h2 (y15h.2 (by omega))))
                · skip
                  refine di_aload_n rfl rfl ?_
                  refine dr_iload_n rfl rfl ?_
                  refine di_iald rfl hv0 hz0 (by omega) (by omega) (fun x17 x17f x17a x17b x17v => ?_)
                  have x17g : -1 ≤ x17 ∧ x17 ≤ 9999 := x17f
                  have x17w : cv v0 (i1) = x17 := cv_eq x17v x17a x17b
                  have x17o := hv (i1) (by omega) (by omega)
                  rw [x17w] at x17o
                  refine di_aload_n rfl rfl ?_
                  refine dr_iload_n rfl rfl ?_
                  refine di_iald rfl hv0 hz0 (by omega) (by omega) (fun x18 x18f x18a x18b x18v => ?_)
                  have x18g : -1 ≤ x18 ∧ x18 ≤ 9999 := x18f
                  have x18w : cv v0 (i7) = x18 := cv_eq x18v x18a x18b
                  have x18o := hv (i7) (by omega) (by omega)
                  rw [x18w] at x18o
                  refine dr_stat rfl rfl rfl rfl (s_X8_areMeeting_d l hl hI (a0 := x17) (by omega) (by omega) (a1 := x18) (by omega) (by omega) (by omega) (by omega)) (by decide) (by decide) (by decide) (Nat.le_of_ble_eq_true rfl) kNP (kIP (fun y19 y19f y19a y19b => ?_))
                  have y19g : 0 ≤ y19 ∧ y19 ≤ 1 ∧ (y19 = 1 → (x17) % 100 ≤ (x18) / 100 ∧ (x18) % 100 ≤ (x17) / 100) ∧ (y19 = 0 → (x18) / 100 < (x17) % 100 ∨ (x17) / 100 < (x18) % 100) := y19f
                  refine di_if_eq rfl rfl (by omega) (by omega) (fun c20 => ?_) (fun c20 => ?_)
                  · skip
                    refine di_iinc (ls2 := [some (.ref b0), some (dI (a1)), some (dI (i1)), some (dI ((i7 + 1)))]) rfl rfl rfl rfl ?_
                    refine dr_goto rfl rfl ?_
                    exact ihL8 ((i7 + 1)) (by omega) (by omega) (by omega)  (apN_s PN (fun _ _ (q9 : cv v0 i7 % 100 ≤ cv v0 i1 / 100 ∧ cv v0 i1 % 100 ≤ cv v0 i7 / 100) => by omega))
                  · skip
                    refine di_const rfl ?_
                    exact dr_iret (ty := .boolean) rfl rfl (nar_z (by omega) (by omega)) (by decide) (by decide) ⟨rfl, 0, ⟨by omega, by omega, fun e => absurd e (by decide), fun _ => ap_x (by omega) (by omega) (by omega) (y13h.1 (by omega)) (y15h.1 (by omega)) (show cv v0 i7 % 100 ≤ cv v0 i1 / 100 ∧ cv v0 i1 % 100 ≤ cv v0 i7 / 100 by omega)⟩, by omega, by omega, rfl⟩
        exact L8 _ (0) (Nat.lt_succ_self _) (by omega) (by omega)  apN_0
  exact L2 _ (0) (Nat.lt_succ_self _) (by omega) (by omega)  apO_0
set_option maxHeartbeats 4000000 in
set_option maxRecDepth 100000 in
/-- EarlyendsModel.unheldIn -/
theorem s_X8_unheldIn_f (l : Launch) (hl : l.stackTraces = false) {kc km : Int} {h : dm_H} (hI : Inv kc km h) {b0 n0 : Nat} {v0 : List Value} (hv0 : h[b0]? = some (20, v0)) (hz0 : arr n0 okR v0) (hn0 : n0 ≤ 8) {a1 : Int} (h1a : 0 ≤ a1) (h1b : a1 ≤ 255) (hv : okV v0 n0) : dm_M l 196 1 0 0 [.ref b0, dI (a1)] h (QP h (RI (fun x => 0 ≤ x ∧ x ≤ 8 ∧ x = unC (cv v0) n0 a1)) []) := by
  refine dm_M_of dk_196 hl rfl (Nat.le_of_ble_eq_true rfl) ?_
  show dm_W (fun _ _ _ => True) (dm_P (QP h (RI (fun x => 0 ≤ x ∧ x ≤ 8 ∧ x = unC (cv v0) n0 a1)) []) 0 0) l 196 1 0 0 0 [some (.ref b0), some (dI (a1)), none, none, none, none] [] h 0 0
  have lt0 := App_lt hv0
  refine di_const rfl ?_
  refine di_istore_n (ls2 := [some (.ref b0), some (dI (a1)), some (dI (0)), none, none, none]) rfl rfl rfl ?_
  refine di_const rfl ?_
  refine di_istore_n (ls2 := [some (.ref b0), some (dI (a1)), some (dI (0)), some (dI (0)), none, none]) rfl rfl rfl ?_
  have L3 : ∀ (n : Nat) (i1 : Int) (i2 : Int), (8 - i2).toNat < n → 0 ≤ i1 → i1 ≤ 8 → 0 ≤ i2 → i2 ≤ 8 → i1 ≤ i2 → i2 ≤ (n0 : Int) → unP (cv v0) (n0 : Int) a1 i1 i2 → dm_W (fun _ _ _ => True) (dm_P (QP h (RI (fun x => 0 ≤ x ∧ x ≤ 8 ∧ x = unC (cv v0) n0 a1)) []) 0 0) l 196 1 0 0 4 [some (.ref b0), some (dI (a1)), some (dI (i1)), some (dI (i2)), none, none] [] h 0 0 := by
    intro n
    induction n with
    | zero => intro i1 i2 hm; exact absurd hm (Nat.not_lt_zero _)
    | succ n ih =>
      intro i1 i2 hm10 hb4 hb5 hb6 hb7 hx8 hx9 PU
      have ihL3 := ih
      clear ih
      refine dr_iload_n rfl rfl ?_
      refine di_aload_n rfl rfl ?_
      refine di_alen (n := n0) rfl hv0 (Or.inl rfl) hz0.1 ?_
      refine di_icmp_ge rfl rfl (by omega) (by omega) (by omega) (by omega) (fun c11 => ?_) (fun c11 => ?_)
      · skip
        refine dr_iload_n rfl rfl ?_
        exact dr_iret (ty := .int) rfl rfl rfl (by decide) (by decide) ⟨rfl, i1, ⟨by omega, by omega, unP_e PU (by omega)⟩, by omega, by omega, rfl⟩
      · skip
        refine di_const rfl ?_
        refine di_istore (ls2 := [some (.ref b0), some (dI (a1)), some (dI (i1)), some (dI (i2)), some (dI (0)), none]) rfl rfl rfl ?_
        refine di_const rfl ?_
        refine di_istore (ls2 := [some (.ref b0), some (dI (a1)), some (dI (i1)), some (dI (i2)), some (dI (0)), some (dI (0))]) rfl rfl rfl ?_
        have L14 : ∀ (n : Nat) (i12 : Int) (i13 : Int), (8 - i13).toNat < n → 0 ≤ i12 → i12 ≤ 1 → 0 ≤ i13 → i13 ≤ 8 → heI (cv v0) (n0 : Int) a1 i2 i12 i13 → dm_W (fun _ _ _ => True) (dm_P (QP h (RI (fun x => 0 ≤ x ∧ x ≤ 8 ∧ x = unC (cv v0) n0 a1)) []) 0 0) l 196 1 0 0 16 [some (.ref b0), some (dI (a1)), some (dI (i1)), some (dI (i2)), some (dI (i12)), some (dI (i13))] [] h 0 0 := by
          intro n
          induction n with
          | zero => intro i12 i13 hm; exact absurd hm (Nat.not_lt_zero _)
          | succ n ih =>
            intro i12 i13 hm19 hb15 hb16 hb17 hb18 PH
            have ihL14 := ih
            clear ih
            refine dr_iload rfl rfl ?_
            refine di_aload_n rfl rfl ?_
            refine di_alen (n := n0) rfl hv0 (Or.inl rfl) hz0.1 ?_
            refine di_icmp_ge rfl rfl (by omega) (by omega) (by omega) (by omega) (fun c20 => ?_) (fun c20 => ?_)
            · skip
              refine dr_iload rfl rfl ?_
              refine di_if_ne rfl rfl (by omega) (by omega) (fun c21 => ?_) (fun c21 => ?_)
              · skip
                refine di_iinc (ls2 := [some (.ref b0), some (dI (a1)), some (dI (i1)), some (dI ((i2 + 1))), some (dI (i12)), some (dI (i13))]) rfl rfl rfl rfl ?_
                refine dr_goto rfl rfl ?_
                refine dm_wk (ls2 := [some (.ref b0), some (dI (a1)), some (dI (i1)), some (dI ((i2 + 1))), none, none]) ⟨Or.inr rfl, Or.inr rfl, Or.inr rfl, Or.inr rfl, Or.inl rfl, Or.inl rfl, trivial⟩ ?_
                exact ihL3 (i1) ((i2 + 1)) (by omega) (by omega) (by omega) (by omega) (by omega) (by omega) (by omega)  (unP_y PU (by omega) PH (by omega))
              · skip
                refine di_iinc (ls2 := [some (.ref b0), some (dI (a1)), some (dI ((i1 + 1))), some (dI (i2)), some (dI (i12)), some (dI (i13))]) rfl rfl rfl rfl ?_
                refine di_iinc (ls2 := [some (.ref b0), some (dI (a1)), some (dI ((i1 + 1))), some (dI ((i2 + 1))), some (dI (i12)), some (dI (i13))]) rfl rfl rfl rfl ?_
                refine dr_goto rfl rfl ?_
                refine dm_wk (ls2 := [some (.ref b0), some (dI (a1)), some (dI ((i1 + 1))), some (dI ((i2 + 1))), none, none]) ⟨Or.inr rfl, Or.inr rfl, Or.inr rfl, Or.inr rfl, Or.inl rfl, Or.inl rfl, trivial⟩ ?_
                exact ihL3 ((i1 + 1)) ((i2 + 1)) (by omega) (by omega) (by omega) (by omega) (by omega) (by omega) (by omega)  (unP_n PU (by omega) PH (by omega) (by omega))
            · skip
              refine dr_iload_n rfl rfl ?_
              refine dr_iload rfl rfl ?_
              refine dr_stat rfl rfl rfl rfl (s_X8_isOf_s l hl hI (a0 := a1) (by omega) (by omega) (a1 := i13) (by omega) (by omega)) (by decide) (by decide) (by decide) (Nat.le_of_ble_eq_true rfl) kNP (kIP (fun y22 y22f y22a y22b => ?_))
              have y22g : 0 ≤ y22 ∧ y22 ≤ 1 ∧ bb (a1) ((i13) + 1) = bb (a1) (i13) + y22 := y22f
              have y22h := isof_h (S := a1) (r := i13) (by omega) y22g.2.2
              refine di_if_eq rfl rfl (by omega) (by omega) (fun c23 => ?_) (fun c23 => ?_)
              · skip
                refine di_iinc (ls2 := [some (.ref b0), some (dI (a1)), some (dI (i1)), some (dI (i2)), some (dI (i12)), some (dI ((i13 + 1)))]) rfl rfl rfl rfl ?_
                refine dr_goto rfl rfl ?_
                exact ihL14 (i12) ((i13 + 1)) (by omega) (by omega) (by omega) (by omega) (by omega)  (heI_n PH (fun (q9 : hbt a1 i13 ∧ cv v0 i2 % 100 ≤ cv v0 i13 / 100 ∧ cv v0 i13 / 100 ≤ cv v0 i2 / 100) => absurd q9.1 (y22h.2 (by omega))))
              · skip
                refine di_aload_n rfl rfl ?_
                refine dr_iload_n rfl rfl ?_
                refine di_iald rfl hv0 hz0 (by omega) (by omega) (fun x24 x24f x24a x24b x24v => ?_)
                have x24g : -1 ≤ x24 ∧ x24 ≤ 9999 := x24f
                have x24w : cv v0 (i2) = x24 := cv_eq x24v x24a x24b
                have x24o := hv (i2) (by omega) (by omega)
                rw [x24w] at x24o
                refine di_aload_n rfl rfl ?_
                refine dr_iload rfl rfl ?_
                refine di_iald rfl hv0 hz0 (by omega) (by omega) (fun x25 x25f x25a x25b x25v => ?_)
                have x25g : -1 ≤ x25 ∧ x25 ≤ 9999 := x25f
                have x25w : cv v0 (i13) = x25 := cv_eq x25v x25a x25b
                have x25o := hv (i13) (by omega) (by omega)
                rw [x25w] at x25o
                refine di_bipush rfl (by decide) ?_
                refine di_idiv rfl (by omega) (by omega) (by omega) (by omega) ?_
                refine dr_stat rfl rfl rfl rfl (s_X8_isHolding_d l hl hI (a0 := x24) (by omega) (by omega) (a1 := (x25 / 100)) (by omega) (by omega)) (by decide) (by decide) (by decide) (Nat.le_of_ble_eq_true rfl) kNP (kIP (fun y26 y26f y26a y26b => ?_))
                have y26g : 0 ≤ y26 ∧ y26 ≤ 1 ∧ (y26 = 1 → (x24) % 100 ≤ ((x25 / 100)) ∧ ((x25 / 100)) ≤ (x24) / 100) ∧ (y26 = 0 → ((x25 / 100)) < (x24) % 100 ∨ (x24) / 100 < ((x25 / 100))) := y26f
                refine di_if_eq rfl rfl (by omega) (by omega) (fun c27 => ?_) (fun c27 => ?_)
                · skip
                  refine di_iinc (ls2 := [some (.ref b0), some (dI (a1)), some (dI (i1)), some (dI (i2)), some (dI (i12)), some (dI ((i13 + 1)))]) rfl rfl rfl rfl ?_
                  refine dr_goto rfl rfl ?_
                  exact ihL14 (i12) ((i13 + 1)) (by omega) (by omega) (by omega) (by omega) (by omega)  (heI_n PH (fun (q9 : hbt a1 i13 ∧ cv v0 i2 % 100 ≤ cv v0 i13 / 100 ∧ cv v0 i13 / 100 ≤ cv v0 i2 / 100) => by have q8 := q9.2; clear q9; omega))
                · skip
                  refine di_const rfl ?_
                  refine di_istore (ls2 := [some (.ref b0), some (dI (a1)), some (dI (i1)), some (dI (i2)), some (dI (1)), some (dI (i13))]) rfl rfl rfl ?_
                  refine di_iinc (ls2 := [some (.ref b0), some (dI (a1)), some (dI (i1)), some (dI (i2)), some (dI (1)), some (dI ((i13 + 1)))]) rfl rfl rfl rfl ?_
                  refine dr_goto rfl rfl ?_
                  exact ihL14 (1) ((i13 + 1)) (by omega) (by omega) (by omega) (by omega) (by omega)  (heI_y (by omega) (by omega) rfl ⟨y22h.1 (by omega), by omega, by omega⟩)
        exact L14 _ (0) (0) (Nat.lt_succ_self _) (by omega) (by omega) (by omega) (by omega)  heI_0
  exact L3 _ (0) (0) (Nat.lt_succ_self _) (by omega) (by omega) (by omega) (by omega) (by omega) (by omega)  unP_0
set_option maxHeartbeats 4000000 in
set_option maxRecDepth 100000 in
/-- EarlyendsModel.freeRoom -/
theorem s_X8_freeRoom_f (l : Launch) (hl : l.stackTraces = false) {kc km : Int} {h : dm_H} (hI : Inv kc km h) {b0 n0 : Nat} {v0 : List Value} (hv0 : h[b0]? = some (20, v0)) (hz0 : arr n0 okR v0) (hn0 : n0 ≤ 8) {b1 n1 : Nat} {v1 : List Value} (hv1 : h[b1]? = some (20, v1)) (hz1 : arr n1 okR v1) (hn1 : n1 ≤ 8) {a2 : Int} (h2a : 0 ≤ a2) (h2b : a2 ≤ 7) (hv : okV v0 n0) (hp0 : n1 = n0) (hp1 : a2 < (n0 : Int)) : dm_M l 203 2 0 0 [.ref b0, .ref b1, dI (a2)] h (QP h (RI (fun x => 0 ≤ x ∧ x ≤ 8 ∧ frV (cv v0) (cv v1) (n0 : Int) a2 x)) []) := by
  refine dm_M_of dk_203 hl rfl (Nat.le_of_ble_eq_true rfl) ?_
  show dm_W (fun _ _ _ => True) (dm_P (QP h (RI (fun x => 0 ≤ x ∧ x ≤ 8 ∧ frV (cv v0) (cv v1) (n0 : Int) a2 x)) []) 0 0) l 203 2 0 0 0 [some (.ref b0), some (.ref b1), some (dI (a2)), none, none, none] [] h 0 0
  have lt0 := App_lt hv0
  have lt1 := App_lt hv1
  refine di_const rfl ?_
  refine di_istore_n (ls2 := [some (.ref b0), some (.ref b1), some (dI (a2)), some (dI (0)), none, none]) rfl rfl rfl ?_
  have L2 : ∀ (n : Nat) (i1 : Int), (8 - i1).toNat < n → 0 ≤ i1 → i1 ≤ 8 → (∀ j9 : Int, 0 ≤ j9 → j9 < i1 → hasR (cv v0) (cv v1) (n0 : Int) a2 j9) → dm_W (fun _ _ _ => True) (dm_P (QP h (RI (fun x => 0 ≤ x ∧ x ≤ 8 ∧ frV (cv v0) (cv v1) (n0 : Int) a2 x)) []) 0 0) l 203 2 0 0 2 [some (.ref b0), some (.ref b1), some (dI (a2)), some (dI (i1)), none, none] [] h 0 0 := by
    intro n
    induction n with
    | zero => intro i1 hm; exact absurd hm (Nat.not_lt_zero _)
    | succ n ih =>
      intro i1 hm5 hb3 hb4 PH
      have ihL2 := ih
      clear ih
      refine di_const rfl ?_
      refine di_istore (ls2 := [some (.ref b0), some (.ref b1), some (dI (a2)), some (dI (i1)), some (dI (1)), none]) rfl rfl rfl ?_
      refine di_const rfl ?_
      refine di_istore (ls2 := [some (.ref b0), some (.ref b1), some (dI (a2)), some (dI (i1)), some (dI (1)), some (dI (0))]) rfl rfl rfl ?_
      have L8 : ∀ (n : Nat) (i6 : Int) (i7 : Int), (8 - i7).toNat < n → 0 ≤ i6 → i6 ≤ 1 → 0 ≤ i7 → i7 ≤ 8 → frK (cv v0) (cv v1) (n0 : Int) a2 i1 i6 i7 → dm_W (fun _ _ _ => True) (dm_P (QP h (RI (fun x => 0 ≤ x ∧ x ≤ 8 ∧ frV (cv v0) (cv v1) (n0 : Int) a2 x)) []) 0 0) l 203 2 0 0 8 [some (.ref b0), some (.ref b1), some (dI (a2)), some (dI (i1)), some (dI (i6)), some (dI (i7))] [] h 0 0 := by
        intro n
        induction n with
        | zero => intro i6 i7 hm; exact absurd hm (Nat.not_lt_zero _)
        | succ n ih =>
          intro i6 i7 hm13 hb9 hb10 hb11 hb12 PK
          have ihL8 := ih
          clear ih
          refine dr_iload rfl rfl ?_
          refine di_aload_n rfl rfl ?_
          refine di_alen (n := n0) rfl hv0 (Or.inl rfl) hz0.1 ?_
          refine di_icmp_ge rfl rfl (by omega) (by omega) (by omega) (by omega) (fun c14 => ?_) (fun c14 => ?_)
          · skip
            refine dr_iload rfl rfl ?_
            refine di_if_eq rfl rfl (by omega) (by omega) (fun c15 => ?_) (fun c15 => ?_)
            · skip
              have PK9 := frK_h PK (by omega)
              have PN : ∀ j9 : Int, 0 ≤ j9 → j9 < (i1 + 1) → hasR (cv v0) (cv v1) (n0 : Int) a2 j9 := fun j9 h1 h2 => (Int.lt_or_le j9 i1).elim (fun e9 => PH j9 h1 e9) (fun e9 => (show j9 = i1 by omega) ▸ PK9)
              have PB := pig n0 (cv v1) (i1 + 1) (fun j9 h1 h2 => by obtain ⟨k9, q1, q2, q3, -⟩ := PN j9 h1 h2; exact ⟨k9, q1, q2, q3⟩)
              refine di_iinc (ls2 := [some (.ref b0), some (.ref b1), some (dI (a2)), some (dI ((i1 + 1))), some (dI (i6)), some (dI (i7))]) rfl rfl rfl rfl ?_
              refine dr_goto rfl rfl ?_
              refine dm_wk (ls2 := [some (.ref b0), some (.ref b1), some (dI (a2)), some (dI ((i1 + 1))), none, none]) ⟨Or.inr rfl, Or.inr rfl, Or.inr rfl, Or.inr rfl, Or.inl rfl, Or.inl rfl, trivial⟩ ?_
              exact ihL2 ((i1 + 1)) (by omega) (by omega) (by omega)  PN
            · skip
              refine dr_iload_n rfl rfl ?_
              exact dr_iret (ty := .int) rfl rfl rfl (by decide) (by decide) ⟨rfl, i1, ⟨by omega, by omega, by omega, frK_f PK (by omega) (by omega), PH⟩, by omega, by omega, rfl⟩
          · skip
            refine di_aload_n rfl rfl ?_
            refine dr_iload rfl rfl ?_
            refine di_iald rfl hv1 hz1 (by omega) (by omega) (fun x16 x16f x16a x16b x16v => ?_)
            have x16g : -1 ≤ x16 ∧ x16 ≤ 9999 := x16f
            have x16w : cv v1 (i7) = x16 := cv_eq x16v x16a x16b
            refine dr_iload_n rfl rfl ?_
            refine di_icmp_ne rfl rfl (by omega) (by omega) (by omega) (by omega) (fun c17 => ?_) (fun c17 => ?_)
            · skip
              refine di_iinc (ls2 := [some (.ref b0), some (.ref b1), some (dI (a2)), some (dI (i1)), some (dI (i6)), some (dI ((i7 + 1)))]) rfl rfl rfl rfl ?_
              refine dr_goto rfl rfl ?_
              exact ihL8 (i6) ((i7 + 1)) (by omega) (by omega) (by omega) (by omega) (by omega)  (frK_n PK (fun e9 => absurd e9 (by omega)))
            · skip
              refine di_aload_n rfl rfl ?_
              refine dr_iload rfl rfl ?_
              refine di_iald rfl hv0 hz0 (by omega) (by omega) (fun x18 x18f x18a x18b x18v => ?_)
              have x18g : -1 ≤ x18 ∧ x18 ≤ 9999 := x18f
              have x18w : cv v0 (i7) = x18 := cv_eq x18v x18a x18b
              have x18o := hv (i7) (by omega) (by omega)
              rw [x18w] at x18o
              refine di_aload_n rfl rfl ?_
              refine dr_iload_n rfl rfl ?_
              refine di_iald rfl hv0 hz0 (by omega) (by omega) (fun x19 x19f x19a x19b x19v => ?_)
              have x19g : -1 ≤ x19 ∧ x19 ≤ 9999 := x19f
              have x19w : cv v0 (a2) = x19 := cv_eq x19v x19a x19b
              have x19o := hv (a2) (by omega) (by omega)
              rw [x19w] at x19o
              refine dr_stat rfl rfl rfl rfl (s_X8_areMeeting_d l hl hI (a0 := x18) (by omega) (by omega) (a1 := x19) (by omega) (by omega) (by omega) (by omega)) (by decide) (by decide) (by decide) (Nat.le_of_ble_eq_true rfl) kNP (kIP (fun y20 y20f y20a y20b => ?_))
              have y20g : 0 ≤ y20 ∧ y20 ≤ 1 ∧ (y20 = 1 → (x18) % 100 ≤ (x19) / 100 ∧ (x19) % 100 ≤ (x18) / 100) ∧ (y20 = 0 → (x19) / 100 < (x18) % 100 ∨ (x18) / 100 < (x19) % 100) := y20f
              refine di_if_eq rfl rfl (by omega) (by omega) (fun c21 => ?_) (fun c21 => ?_)
              · skip
                refine di_iinc (ls2 := [some (.ref b0), some (.ref b1), some (dI (a2)), some (dI (i1)), some (dI (i6)), some (dI ((i7 + 1)))]) rfl rfl rfl rfl ?_
                refine dr_goto rfl rfl ?_
                exact ihL8 (i6) ((i7 + 1)) (by omega) (by omega) (by omega) (by omega) (by omega)  (frK_n PK (fun _ (q9 : cv v0 i7 % 100 ≤ cv v0 a2 / 100 ∧ cv v0 a2 % 100 ≤ cv v0 i7 / 100) => by omega))
              · skip
                refine di_const rfl ?_
                refine di_istore (ls2 := [some (.ref b0), some (.ref b1), some (dI (a2)), some (dI (i1)), some (dI (0)), some (dI (i7))]) rfl rfl rfl ?_
                refine di_iinc (ls2 := [some (.ref b0), some (.ref b1), some (dI (a2)), some (dI (i1)), some (dI (0)), some (dI ((i7 + 1)))]) rfl rfl rfl rfl ?_
                refine dr_goto rfl rfl ?_
                exact ihL8 (0) ((i7 + 1)) (by omega) (by omega) (by omega) (by omega) (by omega)  (frK_y rfl (by omega) (by omega) (by omega) (show cv v0 i7 % 100 ≤ cv v0 a2 / 100 ∧ cv v0 a2 % 100 ≤ cv v0 i7 / 100 by omega))
      exact L8 _ (1) (0) (Nat.lt_succ_self _) (by omega) (by omega) (by omega) (by omega)  frK_0
  exact L2 _ (0) (Nat.lt_succ_self _) (by omega) (by omega)  (fun j9 h1 h2 => absurd h2 (by omega))
