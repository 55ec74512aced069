/-! ===== the model's asking calls without rows of its own ===== -/
theorem add_or : ∀ S : Fin 256, ∀ n : Fin 8, S.val.testBit n.val = false → S.val + 2 ^ n.val = S.val ||| 2 ^ n.val := by decide +kernel
theorem sB_add {S n w : Int} {Q : Int → Prop} (a : sB S Q) (n0 : 0 ≤ n) (n7 : n ≤ 7) (hn : ¬ Q n) (ew : w = pwI n) : sB (S + w) (fun r => Q r ∨ r = n) := by
  have e : S + w = orI S (pwI n) := by
    subst ew
    have hb : ¬ hbt S n := fun q => hn ((a.2 n n0 n7).mp q)
    have hs := a.1.2
    obtain ⟨s, rfl⟩ := Int.eq_ofNat_of_zero_le a.1.1
    obtain ⟨m, rfl⟩ := Int.eq_ofNat_of_zero_le n0
    have k : s + 2 ^ m = s ||| 2 ^ m := add_or ⟨s, by omega⟩ ⟨m, by omega⟩ (Bool.eq_false_iff.mpr (fun q => hb q))
    show (s : Int) + ((2 ^ m : Nat) : Int) = ((s ||| 2 ^ m : Nat) : Int)
    rw [← k]
    exact (Int.natCast_add _ _).symm
  rw [e]
  exact sB_or a (sB_pw n0 n7)
def sRp (F : Int → Int) : Prop := ∃ (f g : Int → Int) (s : Int), Rep f g s F ∧ Srt f s
theorem rk_ex {F f g : Int → Int} {s j : Int} (hT : sRp F) (hr : Rep f g s F) (j0 : 0 ≤ j) (j1 : j < s) : (0 ≤ nF F (ltP (f j)) ∧ nF F (ltP (f j)) < s) ∧ cR F (nF F (ltP (f j))) = f j := by
  obtain ⟨f0, g0, s0, r0, t0⟩ := hT
  have es := Rep_sz hr r0
  subst es
  obtain ⟨m, m0, m1, e⟩ := Rep_ex r0 (Rep_yes hr j0 j1 rfl).2.1
  rw [← e, rk_srt r0 t0 m0 m1]
  exact ⟨⟨m0, m1⟩, cR_eq r0 t0 m0 m1⟩
theorem rk_co {F f g : Int → Int} {s r : Int} (hT : sRp F) (hr : Rep f g s F) (r0 : 0 ≤ r) (r1 : r < s) : ∃ j : Int, 0 ≤ j ∧ j < s ∧ f j = cR F r ∧ nF F (ltP (f j)) = r := by
  obtain ⟨f0, g0, s0, q0, t0⟩ := hT
  have es := Rep_sz hr q0
  subst es
  obtain ⟨j, j0, j1, e⟩ := Rep_ex hr (Rep_yes q0 r0 r1 rfl).2.1
  refine ⟨j, j0, j1, by rw [e, cR_eq q0 t0 r0 r1], by rw [e, rk_srt q0 t0 r0 r1]⟩
def hmP (x : Int) (F f : Int → Int) (p k : Int) : Prop := sB x (fun r => ∃ j : Int, (0 ≤ j ∧ j < k) ∧ nF F (ltP (f j)) = r ∧ f j % 100 ≤ p ∧ p ≤ f j / 100)
section HM
variable {F f g : Int → Int} {x p k s y w i : Int}
theorem hm_0 : hmP 0 F f p 0 := sB_cg sB_0 (fun r _ _ => ⟨fun h => h.elim, fun ⟨j, hj, _⟩ => by omega⟩)
theorem hm_n (h : hmP x F f p k) (hn : ¬ (f k % 100 ≤ p ∧ p ≤ f k / 100)) : hmP x F f p (k + 1) := sB_cg h (fun r _ _ => ⟨fun ⟨j, hj, e, q⟩ => ⟨j, ⟨hj.1, by omega⟩, e, q⟩, fun ⟨j, hj, e, q⟩ => by
  by_cases c : j = k
  · subst c; exact absurd q hn
  · exact ⟨j, ⟨hj.1, by omega⟩, e, q⟩⟩)
theorem hm_y (hT : sRp F) (hr : Rep f g s F) (h : hmP x F f p k) (k0 : 0 ≤ k) (k1 : k < s) (s8 : s ≤ 8) (hh : f k % 100 ≤ p ∧ p ≤ f k / 100) (ey : y = nF F (ltP (f k))) (ew : w = pwI y) : hmP (x + w) F f p (k + 1) := by
  have hk := rk_ex hT hr k0 k1
  rw [← ey] at hk
  have a := sB_add h hk.1.1 (by omega) (fun ⟨j, hj, e, _⟩ => by
    have hj2 := rk_ex hT hr (j := j) hj.1 (by omega)
    rw [e] at hj2
    have := Rep_inj hr hj.1 (by omega) k0 k1 (hj2.2.symm.trans hk.2)
    omega) ew
  refine sB_cg a (fun r _ _ => ⟨fun q => ?_, fun ⟨j, hj, e, q⟩ => ?_⟩)
  · rcases q with ⟨j, hj, e, q⟩ | q
    · exact ⟨j, ⟨hj.1, by omega⟩, e, q⟩
    · exact ⟨k, ⟨k0, by omega⟩, by rw [← ey, q], hh⟩
  · by_cases c : j = k
    · subst c; exact Or.inr (by rw [← e, ey])
    · exact Or.inl ⟨j, ⟨hj.1, by omega⟩, e, q⟩
theorem hm_e (hT : sRp F) (hr : Rep f g s F) (h : hmP x F f p i) (e : i = s) : anHold F p = x := by
  subst e
  obtain ⟨f0, g0, s0, r0, t0⟩ := id hT
  have es := Rep_sz hr r0
  subst es
  refine hold_e r0 t0 (sB_cg h (fun r r0' _ => ⟨fun ⟨j, hj, e, q⟩ => ?_, fun ⟨q1, q2⟩ => ?_⟩))
  · obtain ⟨⟨a0, a1⟩, a2⟩ := rk_ex hT hr hj.1 hj.2
    rw [e] at a0 a1 a2
    refine ⟨a1, ?_⟩
    show f0 r % 100 ≤ p ∧ p ≤ f0 r / 100
    rw [← cR_eq r0 t0 a0 a1, a2]; exact q
  · obtain ⟨j, j0, j1, e, er⟩ := rk_co hT hr r0' q1
    have q2 : f0 r % 100 ≤ p ∧ p ≤ f0 r / 100 := q2
    rw [← cR_eq r0 t0 r0' q1, ← e] at q2
    exact ⟨j, ⟨j0, j1⟩, er, q2⟩
/-! the chain -/
/-! the deepest place, place by place -/
/-! the links -/
end HM
set_option maxHeartbeats 4000000 in
set_option maxRecDepth 100000 in
/-- EarlyendsModel.holdersOf -/
theorem n_X8_holdersOf (l : Launch) (hl : l.stackTraces = false) {kc km : Int} {h : dm_H} (hI : Inv kc km h) {th : Int} {σ : St} (hM : MSt km th σ h) {a1 : Int} (h1a : 0 ≤ a1) (h1b : a1 ≤ 2) {a2 : Int} (h2a : 0 ≤ a2) (h2b : a2 ≤ 99) {r q : Nat} {u w us : List Value} (er : (r : Int) = (28 : Nat) + a1) (eq : (q : Int) = (32 : Nat) + a1) (hu : h[r]? = some (20, u)) (hw : h[q]? = some (20, w)) (au : arr 8 okC u) (aw : arr 8 anyI w) (h35 : h[35]? = some (20, us)) (as : arr 3 okS us) (hr : Rep (cv u) (cv w) (cv us a1) (σ.1 a1)) (s0 : 0 ≤ cv us a1) (s8 : cv us a1 ≤ 8) (hT : sSt σ) : dm_M l 198 1 0 0 [.ref 26, dI (a1), dI (a2)] h (QP h (RI (fun x => 0 ≤ x ∧ x ≤ 255 ∧ anHold (σ.1 a1) a2 = x)) []) := by
  obtain ⟨⟨ni, c26, ni0, ni1⟩, ⟨⟨R1, R2⟩, ⟨R3, R4⟩, ⟨R5, R6⟩, ⟨R7, R8⟩, ⟨R9, R10⟩, ⟨R11, R12⟩, R13⟩, ⟨th0, th1⟩, -⟩ := id hM
  have R14 : σ.2.2.2.2.2 = -1 ∨ (0 ≤ σ.2.2.2.2.2 ∧ σ.2.2.2.2.2 ≤ 9999 ∧ σ.2.2.2.2.2 % 100 ≤ σ.2.2.2.2.2 / 100) := R13
  have mr : isCR r := isCR_of er (by omega) (by omega)
  have mq : isNR q := isNR_of eq (by omega) (by omega)
  refine dm_M_of dk_198 hl rfl (Nat.le_of_ble_eq_true rfl) ?_
  show dm_W (fun _ _ _ => True) (dm_P (QP h (RI (fun x => 0 ≤ x ∧ x ≤ 255 ∧ anHold (σ.1 a1) a2 = x)) []) 0 0) l 198 1 0 0 0 [some (.ref 26), some (dI (a1)), some (dI (a2)), none, none] [] h 0 0
  refine di_const rfl ?_
  refine di_istore_n (ls2 := [some (.ref 26), some (dI (a1)), some (dI (a2)), some (dI (0)), none]) rfl rfl rfl ?_
  refine di_const rfl ?_
  refine di_istore (ls2 := [some (.ref 26), some (dI (a1)), some (dI (a2)), some (dI (0)), some (dI (0))]) rfl rfl rfl ?_
  have L3 : ∀ (n : Nat) (i1 : Int) (i2 : Int), (8 - i2).toNat < n → 0 ≤ i1 → i1 ≤ 255 → 0 ≤ i2 → i2 ≤ 8 → i2 ≤ cv us a1 → hmP i1 (σ.1 a1) (cv u) a2 i2 → dm_W (fun _ _ _ => True) (dm_P (QP h (RI (fun x => 0 ≤ x ∧ x ≤ 255 ∧ anHold (σ.1 a1) a2 = x)) []) 0 0) l 198 1 0 0 5 [some (.ref 26), some (dI (a1)), some (dI (a2)), some (dI (i1)), some (dI (i2))] [] h 0 0 := by
    intro n
    induction n with
    | zero => intro i1 i2 hm; exact absurd hm (Nat.not_lt_zero _)
    | succ n ih =>
      intro i1 i2 hm10 hb4 hb5 hb6 hb7 hx8 PS
      have ihL3 := ih
      clear ih
      refine dr_iload rfl rfl ?_
      refine di_aload_n rfl rfl ?_
      refine dr_getf rfl c26 rfl ?_
      refine dr_iload_n rfl rfl ?_
      refine di_iald rfl h35 as (by omega) (by omega) (fun x11 x11f x11a x11b x11v => ?_)
      have x11w : cv us a1 = x11 := cv_eq x11v x11a x11b
      have x11g : 0 ≤ x11 ∧ x11 ≤ 8 := x11f
      refine di_icmp_ge rfl rfl (by omega) (by omega) (by omega) (by omega) (fun c12 => ?_) (fun c12 => ?_)
      · skip
        refine dr_iload_n rfl rfl ?_
        exact dr_iret (ty := .int) rfl rfl rfl (by decide) (by decide) ⟨rfl, i1, ⟨by omega, by omega, hm_e (hT a1 h1a h1b) hr PS (by omega)⟩, by omega, by omega, rfl⟩
      · skip
        refine di_aload_n rfl rfl ?_
        refine dr_getf rfl c26 rfl ?_
        refine dr_iload_n rfl rfl ?_
        have hc13 := I_mcs hI
        refine paaE (k0 := 28) er rfl hc13 (by omega) (by omega) ?_
        refine dr_iload rfl rfl ?_
        refine di_iald rfl hu au (by omega) (by omega) (fun x14 x14f x14a x14b x14v => ?_)
        have x14w : cv u i2 = x14 := cv_eq x14v x14a x14b
        have x14g : 0 ≤ x14 ∧ x14 ≤ 9999 ∧ x14 % 100 ≤ x14 / 100 := x14f
        refine dr_iload_n rfl rfl ?_
        refine dr_stat rfl rfl rfl rfl (s_X8_isHolding_d l hl hI (a0 := x14) (by omega) (by omega) (a1 := a2) (by omega) (by omega)) (by decide) (by decide) (by decide) (Nat.le_of_ble_eq_true rfl) kNP (kIP (fun y15 y15f y15a y15b => ?_))
        obtain ⟨y15c, y15d, y15k, y15k2⟩ := y15f
        refine di_if_eq rfl rfl (by omega) (by omega) (fun c16 => ?_) (fun c16 => ?_)
        · skip
          refine di_iinc (ls2 := [some (.ref 26), some (dI (a1)), some (dI (a2)), some (dI (i1)), some (dI ((i2 + 1)))]) rfl rfl rfl rfl ?_
          refine dr_goto rfl rfl ?_
          exact ihL3 (i1) ((i2 + 1)) (by omega) (by omega) (by omega) (by omega) (by omega) (by omega)  (hm_n PS (by omega))
        · skip
          refine dr_iload_n rfl rfl ?_
          refine di_const rfl ?_
          refine di_aload_n rfl rfl ?_
          refine dr_iload_n rfl rfl ?_
          refine di_aload_n rfl rfl ?_
          refine dr_getf rfl c26 rfl ?_
          refine dr_iload_n rfl rfl ?_
          refine paaE (k0 := 28) er rfl hc13 (by omega) (by omega) ?_
          refine dr_iload rfl rfl ?_
          refine di_iald rfl hu au (by omega) (by omega) (fun x17 x17f x17a x17b x17v => ?_)
          have x17w : cv u i2 = x17 := cv_eq x17v x17a x17b
          have x17g : 0 ≤ x17 ∧ x17 ≤ 9999 ∧ x17 % 100 ≤ x17 / 100 := x17f
          refine dr_virt rfl rfl rfl rfl c26 (n_X8_rankOf l hl hI hM (a1 := a1) (by omega) (by omega) (a2 := x17) (by omega) (by omega) er eq hu hw au aw h35 as hr s0 s8) (by decide) (by decide) (by decide) (Nat.le_of_ble_eq_true rfl) kNP (kIP (fun y18 y18f y18a y18b => ?_))
          obtain ⟨y18c, y18d, y18k⟩ := y18f
          subst y18k
          refine di_shl8 rfl (by omega) (by omega) (fun w19 w19a w19b w19e => ?_)
          refine di_iadd rfl ?_
          have hmq : hmP (i1 + w19) (σ.1 a1) (cv u) a2 (i2 + 1) := hm_y (hT a1 h1a h1b) hr PS (by omega) (by omega) s8 (by omega) (by rw [x17w]) w19e
          have hmb := hmq.1
          refine di_istore_n (ls2 := [some (.ref 26), some (dI (a1)), some (dI (a2)), some (dI ((i1 + w19))), some (dI (i2))]) rfl rfl rfl ?_
          refine di_iinc (ls2 := [some (.ref 26), some (dI (a1)), some (dI (a2)), some (dI ((i1 + w19))), some (dI ((i2 + 1)))]) rfl rfl rfl rfl ?_
          refine dr_goto rfl rfl ?_
          exact ihL3 ((i1 + w19)) ((i2 + 1)) (by omega) (by omega) (by omega) (by omega) (by omega) (by omega)  hmq
  exact L3 _ (0) (0) (Nat.lt_succ_self _) (by omega) (by omega) (by omega) (by omega) (by omega)  hm_0
set_option maxHeartbeats 4000000 in
set_option maxRecDepth 100000 in
/-- EarlyendsModel.holders -/
theorem n_X8_holders (l : Launch) (hl : l.stackTraces = false) {kc km : Int} {h : dm_H} (hI : Inv kc km h) {th : Int} {σ : St} (hM : MSt km th σ h) {a1 : Int} (h1a : -2147483648 ≤ a1) (h1b : a1 ≤ 2147483647) {a2 : Int} (h2a : -2147483648 ≤ a2) (h2b : a2 ≤ 2147483647) (hT : sSt σ) : dm_M l 199 8 0 0 [.ref 26, dI (a1), dI (a2)] h (QM9 kc km h (spHolders σ a1 a2)) := by
  obtain ⟨⟨ni, c26, ni0, ni1⟩, ⟨⟨R1, R2⟩, ⟨R3, R4⟩, ⟨R5, R6⟩, ⟨R7, R8⟩, ⟨R9, R10⟩, ⟨R11, R12⟩, R13⟩, ⟨th0, th1⟩, -⟩ := id hM
  have R14 : σ.2.2.2.2.2 = -1 ∨ (0 ≤ σ.2.2.2.2.2 ∧ σ.2.2.2.2.2 ≤ 9999 ∧ σ.2.2.2.2.2 % 100 ≤ σ.2.2.2.2.2 / 100) := R13
  refine dm_M_of dk_199 hl rfl (Nat.le_of_ble_eq_true rfl) ?_
  show dm_W (fun _ _ _ => True) (dm_P (QM9 kc km h (spHolders σ a1 a2)) 0 0) l 199 8 0 0 0 [some (.ref 26), some (dI (a1)), some (dI (a2))] [] h 0 0
  refine di_aload_n rfl rfl ?_
  refine dr_iload_n rfl rfl ?_
  refine dr_stat rfl rfl rfl rfl (f_X8_isNoBook l hl hI (a0 := a1) (by omega) (by omega)) (by decide) (by decide) (by decide) (Nat.le_of_ble_eq_true rfl) kNP (kIP (fun y1 y1f y1a y1b => ?_))
  have y1g : 0 ≤ y1 ∧ y1 ≤ 1 ∧ (y1 = 0 → 0 ≤ a1 ∧ a1 ≤ 2) ∧ (y1 = 1 → a1 < 0 ∨ 2 < a1) := y1f
  clear y1f
  refine di_const rfl ?_
  rcases (by omega : y1 = 0 ∨ y1 = 1) with ey2 | ey2
  · skip
    rw [ey2]
    refine dr_virt rfl rfl rfl rfl c26 (f_X8_start0 l hl hI hM (a2 := 1) (by omega) (by omega)) (by decide) (by decide) (by decide) (Nat.le_of_ble_eq_true rfl) kNQN (kNQ (fun h3 hI4 hF5 hM6 => ?_))
    have hF7 := FrM_tr FrM_rf hF5
    refine di_if_ne rfl rfl (by omega) (by omega) (fun c9 => by exfalso; omega) (fun _ => ?_)
    refine di_aload_n rfl rfl ?_
    refine dr_iload_n rfl rfl ?_
    refine dr_stat rfl rfl rfl rfl (f_X8_isNo99 l hl hI4 (a0 := a2) (by omega) (by omega)) (by decide) (by decide) (by decide) (Nat.le_of_ble_eq_true rfl) kNP (kIP (fun y8 y8f y8a y8b => ?_))
    have y8g : 0 ≤ y8 ∧ y8 ≤ 1 ∧ (y8 = 0 → 0 ≤ a2 ∧ a2 ≤ 99) ∧ (y8 = 1 → a2 < 0 ∨ 99 < a2) := y8f
    clear y8f
    refine di_const rfl ?_
    obtain ⟨⟨ni10, ni10c, ni10a, ni10b⟩, -⟩ := id hM6
    rcases (by omega : y8 = 0 ∨ y8 = 1) with ey11 | ey11
    · skip
      rw [ey11]
      refine dr_virt rfl rfl rfl rfl ni10c (f_X8_refuse0 l hl hI4 hM6 (a2 := 2) (by omega) (by omega)) (by decide) (by decide) (by decide) (Nat.le_of_ble_eq_true rfl) kNQN (kNQ (fun h12 hI13 hF14 hM15 => ?_))
      have hF16 := FrM_tr hF7 hF14
      refine di_if_eq rfl rfl (by omega) (by omega) (fun _ => ?_) (fun c9 => by exfalso; omega)
      refine di_aload_n rfl rfl ?_
      refine dr_iload_n rfl rfl ?_
      refine dr_iload_n rfl rfl ?_
      obtain ⟨⟨ni17, ni17c, ni17a, ni17b⟩, -⟩ := id hM15
      obtain ⟨r18, q19, u20, w21, us22, er23, eq24, hu25, hw26, au27, aw28, hs29, as30, hr31, sa32, sb33⟩ := MSt_bk hM15 (k := a1) (by omega) (by omega)
      have hz34 : zF (σ.1 a1) = cv us22 a1 := zF_eq hr31
      have mr35 : isCR r18 := isCR_of er23 (by omega) (by omega)
      have mq36 : isNR q19 := isNR_of eq24 (by omega) (by omega)
      refine dr_virt rfl rfl rfl rfl ni17c (n_X8_holdersOf l hl hI13 hM15 (a1 := a1) (by omega) (by omega) (a2 := a2) (by omega) (by omega) er23 eq24 hu25 hw26 au27 aw28 hs29 as30 hr31 sa32 sb33 hT) (by decide) (by decide) (by decide) (Nat.le_of_ble_eq_true rfl) kNP (kIP (fun y37 y37f y37a y37b => ?_))
      obtain ⟨y37c, y37d, y37k⟩ := y37f
      have e9 : anHold (σ.1 a1) a2 = y37 := y37k
      exact dr_iret (ty := .int) rfl rfl rfl (by decide) (by decide) (QM_ok hI13 hF16 hM15 (by omega) (by omega) (by unfold spHolders; (try rw [e9]); (repeat' split) <;> first | rfl | (exfalso; omega) | (apply Prod.ext <;> first | rfl | (dsimp only; omega) | (apply Prod.ext <;> first | rfl | (dsimp only; omega)))))
    · skip
      rw [ey11]
      refine dr_virt rfl rfl rfl rfl ni10c (f_X8_refuse1 l hl hI4 hM6 (a2 := 2) (by omega) (by omega)) (by decide) (by decide) (by decide) (Nat.le_of_ble_eq_true rfl) kNQN (kNQ (fun h38 hI39 hF40 hM41 => ?_))
      have hF42 := FrM_tr hF7 hF40
      refine di_if_eq rfl rfl (by omega) (by omega) (fun c9 => by exfalso; omega) (fun _ => ?_)
      refine di_const rfl ?_
      exact dr_iret (ty := .int) rfl rfl rfl (by decide) (by decide) (QM_no (x := 0) hI39 hF42 hM41 (by omega) (by omega) (by omega) (by unfold spHolders; (repeat' split) <;> first | rfl | (exfalso; omega) | (apply Prod.ext <;> first | rfl | (dsimp only; omega) | (apply Prod.ext <;> first | rfl | (dsimp only; omega)))))
  · skip
    rw [ey2]
    refine dr_virt rfl rfl rfl rfl c26 (f_X8_start1 l hl hI hM (a2 := 1) (by omega) (by omega)) (by decide) (by decide) (by decide) (Nat.le_of_ble_eq_true rfl) kNQN (kNQ (fun h43 hI44 hF45 hM46 => ?_))
    have hF47 := FrM_tr FrM_rf hF45
    refine di_if_ne rfl rfl (by omega) (by omega) (fun _ => ?_) (fun c9 => by exfalso; omega)
    refine di_const rfl ?_
    exact dr_iret (ty := .int) rfl rfl rfl (by decide) (by decide) (QM_no (x := 0) hI44 hF47 hM46 (by omega) (by omega) (by omega) (by unfold spHolders; (repeat' split) <;> first | rfl | (exfalso; omega) | (apply Prod.ext <;> first | rfl | (dsimp only; omega) | (apply Prod.ext <;> first | rfl | (dsimp only; omega)))))
