/-! ===== sums over a book's codes, in any order ===== -/
def sm (f w : Int → Int) : Nat → Int
  | 0 => 0
  | n + 1 => sm f w n + w (f (n : Int))
theorem sm_cg {f f' w : Int → Int} : ∀ n : Nat, (∀ j : Int, 0 ≤ j → j < n → f j = f' j) → sm f w n = sm f' w n
  | 0, _ => rfl
  | n + 1, h => by
    show sm f w n + w (f (n : Int)) = sm f' w n + w (f' (n : Int))
    rw [sm_cg n (fun j h0 h1 => h j h0 (by omega)), h n (by omega) (by omega)]
theorem sm_out {b w : Int → Int} : ∀ (n : Nat) (k : Int), 0 ≤ k → k ≤ n → sm b w (n + 1) = sm (fun j => if j < k then b j else b (j + 1)) w n + w (b k)
  | 0, k, h0, h1 => by
    have e : k = 0 := by omega
    subst e
    rfl
  | n + 1, k, h0, h1 => by
    show sm b w (n + 1) + w (b ((n + 1 : Nat) : Int)) = (sm (fun j => if j < k then b j else b (j + 1)) w n + w (if (n : Int) < k then b (n : Int) else b ((n : Int) + 1))) + w (b k)
    by_cases q : k ≤ (n : Int)
    · rw [sm_out n k h0 q, if_neg (by omega), show ((n + 1 : Nat) : Int) = (n : Int) + 1 by omega]
      omega
    · have e : k = (n : Int) + 1 := by omega
      have e2 : sm b w (n + 1) = sm (fun j => if j < k then b j else b (j + 1)) w n + w (b (n : Int)) := by
        show sm b w n + w (b (n : Int)) = _
        rw [sm_cg (f := b) (f' := fun j => if j < k then b j else b (j + 1)) n (fun j j0 j1 => by
          show b j = if j < k then b j else b (j + 1)
          rw [if_pos (by omega)])]
      rw [e2, if_pos (by omega), show ((n + 1 : Nat) : Int) = k by omega]
theorem sm_inv {w : Int → Int} : ∀ (n : Nat) (a b : Int → Int), (∀ i j : Int, 0 ≤ i → i < j → j < n → a i ≠ a j) → (∀ i : Int, 0 ≤ i → i < n → ∃ j : Int, 0 ≤ j ∧ j < n ∧ b j = a i) → sm a w n = sm b w n
  | 0, _, _, _, _ => rfl
  | n + 1, a, b, h1, h2 => by
    obtain ⟨k, k0, k1, ek⟩ := h2 n (by omega) (by omega)
    have ih := sm_inv (w := w) n a (fun j => if j < k then b j else b (j + 1)) (fun i j i0 ij j1 => h1 i j i0 ij (by omega)) (fun i i0 i1 => by
      obtain ⟨j, j0, j1, e⟩ := h2 i i0 (by omega)
      have hne : j ≠ k := fun q => h1 i n i0 (by omega) (by omega) (by rw [← e, ← ek, q])
      by_cases q : j < k
      · exact ⟨j, j0, by omega, by show (if j < k then b j else b (j + 1)) = a i; rw [if_pos q]; exact e⟩
      · exact ⟨j - 1, by omega, by omega, by show (if j - 1 < k then b (j - 1) else b (j - 1 + 1)) = a i; rw [if_neg (by omega), show j - 1 + 1 = j by omega]; exact e⟩)
    rw [sm_out (b := b) (w := w) n k k0 (by omega)]
    show sm a w n + w (a (n : Int)) = _
    rw [ih, ek]
theorem sm_rep {f g f' g' F w : Int → Int} {s s' : Int} (h : Rep f g s F) (h' : Rep f' g' s' F) : sm f w s.toNat = sm f' w s'.toNat := by
  have e := Rep_sz h h'
  subst e
  have hs := h.1.1
  refine sm_inv s.toNat f f' (fun i j i0 ij j1 => h.2.2 i j i0 ij (by omega)) (fun i i0 i1 => ?_)
  obtain ⟨q1, q2, -⟩ := Rep_yes h (j := i) i0 (by omega) rfl
  obtain ⟨j, j0, j1, e⟩ := h'.2.1 _ q2
  exact ⟨j, j0, by omega, e⟩
noncomputable def sF (F w : Int → Int) : Int := Classical.epsilon (fun n : Int => ∃ (f g : Int → Int) (s : Int), Rep f g s F ∧ n = sm f w s.toNat)
theorem sF_eq {f g F w : Int → Int} {s : Int} (h : Rep f g s F) : sF F w = sm f w s.toNat := by
  obtain ⟨f', g', s', k, e⟩ := Classical.epsilon_spec (p := fun n : Int => ∃ (f g : Int → Int) (s : Int), Rep f g s F ∧ n = sm f w s.toNat) ⟨_, f, g, s, h, rfl⟩
  exact e.trans (sm_rep k h)
def smP (n : Int) (f w : Int → Int) (i : Int) : Prop := n = sm f w i.toNat
theorem smP_0 {f w : Int → Int} : smP 0 f w 0 := rfl
theorem smP_s {n x v i : Int} {f w : Int → Int} (h : smP n f w i) (h0 : 0 ≤ i) (e : f i = x) (ev : w x = v) : smP (n + v) f w (i + 1) := by
  unfold smP at *
  rw [show (i + 1).toNat = i.toNat + 1 by omega]
  show n + v = sm f w i.toNat + w (f (i.toNat : Int))
  rw [Int.toNat_of_nonneg h0, e, ev, ← h]
theorem smP_e {n i s : Int} {f g F w : Int → Int} (h : smP n f w i) (hr : Rep f g s F) (e : i = s) : sF F w = n := by
  subst e
  exact (sF_eq hr).trans h.symm
/-! xor of small numbers -/
def xr (a b : Int) : Int := ((a.toNat ^^^ b.toNat : Nat) : Int)
theorem xr_b {a b : Int} (ha : a ≤ 9999) (hb : b ≤ 99) : 0 ≤ xr a b ∧ xr a b ≤ 16383 := by
  have h := Nat.xor_lt_two_pow (x := a.toNat) (y := b.toNat) (n := 14) (by omega) (by omega)
  unfold xr
  omega
theorem xr_i {a b : Int} (ha : 0 ≤ a) (hb : 0 ≤ b) : Int32.ofInt a ^^^ Int32.ofInt b = Int32.ofInt (xr a b) := by
  obtain ⟨n, rfl⟩ := Int.eq_ofNat_of_zero_le ha
  obtain ⟨m, rfl⟩ := Int.eq_ofNat_of_zero_le hb
  show Int32.ofInt (n : Int) ^^^ Int32.ofInt (m : Int) = Int32.ofInt ((n ^^^ m : Nat) : Int)
  apply Int32.toBitVec_inj.mp
  simp only [Int32.toBitVec_xor, Int32.toBitVec_ofInt]
  apply BitVec.eq_of_toNat_eq
  simp [BitVec.toNat_xor, Nat.xor_mod_two_pow]
section XRR
variable {E : dm_Ex} {P : dm_Po} {l : Launch} {z d MC MS pc ce sl : Nat} {ls : List (Option Value)} {st : List Value} {h : dm_H}
theorem di_xor {a b : Int} (hi : dm_at z pc = some (.ixor, 1, [])) (ha : 0 ≤ a) (ha2 : a ≤ 9999) (hb : 0 ≤ b) (hb2 : b ≤ 99) (kk : 0 ≤ xr a b → xr a b ≤ 16383 → dm_W E P l z d MC MS (pc + 1) ls (dI (xr a b) :: st) h ce sl) : dm_W E P l z d MC MS pc ls (dI b :: dI a :: st) h ce sl := dr_ixor hi (xr_i ha hb) (kk (xr_b ha2 hb2).1 (xr_b ha2 hb2).2)
end XRR
def wX (F : Int → Int) : Int → Int := fun c => xr c (F c)
/-! the places of a part -/
theorem blw_ex {f : Int → Int} {s : Int} (ht : Srt f s) (hs : 0 ≤ s) (c : Int) : ∃ x, blw f s c x := by
  have k : ∀ n : Nat, (n : Int) ≤ s → ∃ x : Int, 0 ≤ x ∧ x ≤ n ∧ (∀ j : Int, 0 ≤ j → j < x → f j < c) ∧ (x < n → c ≤ f x) := by
    intro n
    induction n with
    | zero => intro _; exact ⟨0, by omega, by omega, fun j j0 j1 => by omega, fun h => by omega⟩
    | succ n ih =>
      intro hn
      obtain ⟨x, x0, x1, x2, x3⟩ := ih (by omega)
      by_cases q : x < (n : Int)
      · exact ⟨x, x0, by omega, x2, fun _ => x3 q⟩
      · by_cases q2 : f n < c
        · refine ⟨n + 1, by omega, by omega, fun j j0 j1 => ?_, fun h => by omega⟩
          by_cases q3 : j < x
          · exact x2 j j0 q3
          · rw [show j = (n : Int) by omega]; exact q2
        · exact ⟨n, by omega, by omega, fun j j0 j1 => x2 j j0 (by omega), fun _ => by omega⟩
  obtain ⟨x, x0, x1, x2, x3⟩ := k s.toNat (by omega)
  exact ⟨x, x0, by omega, x2, fun h => x3 (by omega)⟩
theorem enb_ex {f : Int → Int} {s hi : Int} (ht : Srt f s) (hs : 0 ≤ s) (h : -1 ≤ hi) : ∃ x, enb f s hi x := by
  by_cases q : hi = -1
  · exact ⟨s, enb_0 hs q⟩
  · obtain ⟨x, hx⟩ := blw_ex ht hs (100 * (hi + 1))
    exact ⟨x, enb_1 ht hx (by omega)⟩
theorem stb_ex {f : Int → Int} {s lo : Int} (ht : Srt f s) (hs : 0 ≤ s) (h : -1 ≤ lo) : ∃ x, stb f s lo x := by
  by_cases q : lo = -1
  · exact ⟨0, stb_0 hs q⟩
  · obtain ⟨x, hx⟩ := blw_ex ht hs (100 * lo)
    exact ⟨x, stb_1 ht hx (by omega)⟩
def pOK (lo hi : Int) : Prop := -1 ≤ lo ∧ -1 ≤ hi ∧ (0 ≤ lo → 0 ≤ hi → lo ≤ hi)
theorem pt_0 {f g F : Int → Int} {s lo hi : Int} (hr : Rep f g s F) (h : nF F (inP lo hi) = 0) : lst F (inP lo hi) = -1 ∧ grt F (inP lo hi) = -1 := ⟨lst_no (nF_z hr h), grt_no (nF_z hr h)⟩
theorem pt_l {f g F : Int → Int} {s lo hi a y : Int} (hr : Rep f g s F) (ht : Srt f s) (hp : pOK lo hi) (ha : stb f s lo a) (h : nF F (inP lo hi) ≠ 0) (k1 : 0 ≤ a → a < s → y = f a) : lst F (inP lo hi) = y := by
  obtain ⟨e, he⟩ := enb_ex ht hr.1.1 hp.2.1
  have hn := ci_e hr ha he hp.1 hp.2.1 hp.2.2
  have hl := rg_le ha he hp.1 hp.2.1 hp.2.2
  rw [dw_l hr ht (rg_P ha he) (by omega), k1 ha.1 (by have := he.2.1; omega)]
theorem pt_g {f g F : Int → Int} {s lo hi e y : Int} (hr : Rep f g s F) (ht : Srt f s) (hp : pOK lo hi) (he : enb f s hi e) (h : nF F (inP lo hi) ≠ 0) (k1 : 0 ≤ e - 1 → e - 1 < s → y = f (e - 1)) : grt F (inP lo hi) = y := by
  obtain ⟨a, ha⟩ := stb_ex ht hr.1.1 hp.1
  have hn := ci_e hr ha he hp.1 hp.2.1 hp.2.2
  have hl := rg_le ha he hp.1 hp.2.1 hp.2.2
  have a0 := ha.1
  rw [dw_g hr ht (rg_P ha he) (by omega), k1 (by omega) (by have := he.2.1; omega)]
theorem bk_l {f g F : Int → Int} {s y : Int} (hr : Rep f g s F) (ht : Srt f s) (k1 : 0 ≤ (0 : Int) → 0 < s → y = f 0) (k3 : s ≤ 0 → y = -1) : lst F (fun _ => true) = y := by
  have hs := hr.1.1
  by_cases q : 0 < s
  · rw [dw_l hr ht rg_all q, k1 (Int.le_refl _) q]
  · rw [(dw_no hr rg_all (by omega)).1, k3 (by omega)]
theorem bk_g {f g F : Int → Int} {s y : Int} (hr : Rep f g s F) (ht : Srt f s) (k1 : 0 ≤ s - 1 → s - 1 < s → y = f (s - 1)) (k2 : s - 1 < 0 → y = -1) : grt F (fun _ => true) = y := by
  have hs := hr.1.1
  by_cases q : 0 < s
  · rw [dw_g hr ht rg_all q, k1 (by omega) (by omega)]
  · rw [(dw_no hr rg_all (by omega)).2, k2 (by omega)]
theorem bn_l {f g F : Int → Int} {s y : Int} (hr : Rep f g s F) (ht : Srt f s) (k1 : 0 ≤ (0 : Int) → 0 < s → y = g 0) (k3 : s ≤ 0 → y = -1) : F (lst F (fun _ => true)) = y := by
  have hs := hr.1.1
  by_cases q : 0 < s
  · rw [dw_l hr ht rg_all q, k1 (Int.le_refl _) q]; exact (Rep_yes hr (Int.le_refl _) q rfl).1
  · rw [(dw_no hr rg_all (by omega)).1, k3 (by omega)]; exact Rep_neg hr (by omega)
theorem bn_g {f g F : Int → Int} {s y : Int} (hr : Rep f g s F) (ht : Srt f s) (k1 : 0 ≤ s - 1 → s - 1 < s → y = g (s - 1)) (k2 : s - 1 < 0 → y = -1) : F (grt F (fun _ => true)) = y := by
  have hs := hr.1.1
  by_cases q : 0 < s
  · rw [dw_g hr ht rg_all q, k1 (by omega) (by omega)]; exact (Rep_yes hr (j := s - 1) (by omega) (by omega) rfl).1
  · rw [(dw_no hr rg_all (by omega)).2, k2 (by omega)]; exact Rep_neg hr (by omega)
noncomputable def anBook (F : Int → Int) (k : Int) : Int := if k = 0 then zF F else if k = 1 then lst F (fun _ => true) else if k = 2 then grt F (fun _ => true) else if k = 3 then F (lst F (fun _ => true)) else if k = 4 then F (grt F (fun _ => true)) else sF F (wX F)
noncomputable def anPart (σ : St) (k : Int) : Int := if k = 0 then σ.2.1.1 else if k = 1 then σ.2.1.2.1 else if k = 2 then σ.2.1.2.2 else if k = 3 then nP σ else if k = 4 then lst (σ.1 σ.2.1.1) (inP σ.2.1.2.1 σ.2.1.2.2) else grt (σ.1 σ.2.1.1) (inP σ.2.1.2.1 σ.2.1.2.2)
noncomputable def spOfBook (σ : St) (b k : Int) : Int × Int × St := if b < 0 ∨ 2 < b then (1, 0, σ) else if k < 0 ∨ 5 < k then (2, 0, σ) else (0, anBook (σ.1 b) k, σ)
noncomputable def spOfPart (σ : St) (k : Int) : Int × Int × St := if k < 0 ∨ 5 < k then (1, 0, σ) else if σ.2.1.1 = -1 then (2, 0, σ) else (0, anPart σ k, σ)

set_option maxHeartbeats 4000000 in
set_option maxRecDepth 100000 in
/-- Earlyends$Book.checkSum -/
theorem f_X0_checkSum (l : Launch) (hl : l.stackTraces = false) {kc km : Int} {h : dm_H} (hI : Inv kc km h) {b0 : Nat} (hb0 : isBk b0) {s0 m0 : Int} {u0 w0 : List Value} (hC0 : CA b0 s0 m0 u0 w0 h) {F : Int → Int} (hR : Rep (cv u0) (cv w0) s0 F) : dm_M l 18 0 0 0 [.ref b0] h (QP h (RI (fun x => 0 ≤ x ∧ x ≤ 131064 ∧ x = sF F (wX F))) []) := by
  obtain ⟨hq0, hu0, hw0, hau0, haw0, hs0a, hs0b, hm0a, hm0b⟩ := id hC0
  refine dm_M_of dk_18 hl rfl (Nat.le_of_ble_eq_true rfl) ?_
  show dm_W (fun _ _ _ => True) (dm_P (QP h (RI (fun x => 0 ≤ x ∧ x ≤ 131064 ∧ x = sF F (wX F))) []) 0 0) l 18 0 0 0 0 [some (.ref b0), none, none] [] h 0 0
  refine di_const rfl ?_
  refine di_istore_n (ls2 := [some (.ref b0), some (dI (0)), none]) rfl rfl rfl ?_
  refine di_const rfl ?_
  refine di_istore_n (ls2 := [some (.ref b0), some (dI (0)), some (dI (0))]) rfl rfl rfl ?_
  have L3 : ∀ (n : Nat) (i1 : Int) (i2 : Int), (8 - i2).toNat < n → 0 ≤ i1 → i1 ≤ 131064 → 0 ≤ i2 → i2 ≤ 8 → i1 ≤ 16383 * i2 → i2 ≤ s0 → smP i1 (cv u0) (wX F) i2 → dm_W (fun _ _ _ => True) (dm_P (QP h (RI (fun x => 0 ≤ x ∧ x ≤ 131064 ∧ x = sF F (wX F))) []) 0 0) l 18 0 0 0 4 [some (.ref b0), some (dI (i1)), some (dI (i2))] [] h 0 0 := by
    intro n
    induction n with
    | zero => intro i1 i2 hm; exact absurd hm (Nat.not_lt_zero _)
    | succ n ih =>
      intro i1 i2 hm11 hb4 hb5 hb6 hb7 hx8 hx10 PS
      have ihL3 := ih
      clear ih
      refine dr_iload_n rfl rfl ?_
      refine di_aload_n rfl rfl ?_
      refine dr_getf rfl hq0 rfl ?_
      refine di_icmp_ge rfl rfl (by omega) (by omega) (by omega) (by omega) (fun c12 => ?_) (fun c12 => ?_)
      · skip
        refine dr_iload_n rfl rfl ?_
        exact dr_iret (ty := .int) rfl rfl rfl (by decide) (by decide) ⟨rfl, i1, ⟨by omega, by omega, (smP_e PS hR (by omega)).symm⟩, by omega, by omega, rfl⟩
      · skip
        refine dr_iload_n rfl rfl ?_
        refine di_aload_n rfl rfl ?_
        refine dr_getf rfl hq0 rfl ?_
        refine dr_iload_n rfl rfl ?_
        refine di_iald rfl hu0 hau0 (by omega) (by omega) (fun x13 x13f x13a x13b x13v => ?_)
        have x13w : cv u0 (i2) = x13 := cv_eq x13v x13a x13b
        have x13g : 0 ≤ x13 ∧ x13 ≤ 9999 ∧ x13 % 100 ≤ x13 / 100 := x13f
        refine di_aload_n rfl rfl ?_
        refine dr_getf rfl hq0 rfl ?_
        refine dr_iload_n rfl rfl ?_
        refine di_iald rfl hw0 haw0 (by omega) (by omega) (fun x14 x14f x14a x14b x14v => ?_)
        have x14w : cv w0 (i2) = x14 := cv_eq x14v x14a x14b
        have ra15 := Rep_at hR (j := i2) (by omega) (by omega)
        refine di_xor rfl (by omega) (by omega) (by omega) (by omega) (fun xb16a xb16b => ?_)
        refine di_iadd rfl ?_
        refine di_istore_n (ls2 := [some (.ref b0), some (dI ((i1 + (xr x13 x14)))), some (dI (i2))]) rfl rfl rfl ?_
        refine di_iinc (ls2 := [some (.ref b0), some (dI ((i1 + (xr x13 x14)))), some (dI ((i2 + 1)))]) rfl rfl rfl rfl ?_
        refine dr_goto rfl rfl ?_
        exact ihL3 ((i1 + (xr x13 x14))) ((i2 + 1)) (by omega) (by omega) (by omega) (by omega) (by omega) (by omega) (by omega)  (smP_s PS (by omega) x13w (show xr x13 (F x13) = (xr x13 x14) by rw [show F x13 = x14 by have q9 := ra15.2.2; rw [x13w, x14w] at q9; exact q9]))
  exact L3 _ (0) (0) (Nat.lt_succ_self _) (by omega) (by omega) (by omega) (by omega) (by omega) (by omega)  smP_0
set_option maxHeartbeats 4000000 in
set_option maxRecDepth 100000 in
/-- Earlyends.ofBook -/
theorem c_X6_ofBook (l : Launch) (hl : l.stackTraces = false) {kc km : Int} {h : dm_H} (hI : Inv kc km h) {B : Int} {σ : St} (hS : CSt B σ h) (hB : B ≤ 80000) {a1 : Int} (h1a : -2147483648 ≤ a1) (h1b : a1 ≤ 2147483647) {a2 : Int} (h2a : -2147483648 ≤ a2) (h2b : a2 ≤ 2147483647) : dm_M l 80 6 8 48 [.ref 0, dI (a1), dI (a2)] h (QX kc km h B XB XA (spOfBook σ a1 a2)) := by
  refine dm_M_of dk_80 hl rfl (Nat.le_of_ble_eq_true rfl) ?_
  show dm_W (fun _ _ _ => True) (dm_P (QX kc km h B XB XA (spOfBook σ a1 a2)) 8 48) l 80 6 8 48 0 [some (.ref 0), some (dI (a1)), some (dI (a2)), none, none] [] h 0 0
  refine di_aload_n rfl rfl ?_
  refine dr_iload_n rfl rfl ?_
  obtain ⟨r1, c2, c3, hc4⟩ := I_cls hI
  refine dr_virt rfl rfl rfl rfl hc4 (f_X6_bookAt l hl hI (a1 := a1) (by omega) (by omega)) (by decide) (by decide) (by decide) (Nat.le_of_ble_eq_true rfl) (fun Y h9 q9 => by obtain ⟨rfl, rfl, hC⟩ := q9; exact dr_out rfl (by decide) (by decide) (QX_1 (a := 0) hI FrC_rf hS (by omega) (by unfold spOfBook; (repeat' split) <;> first | rfl | (exfalso; omega) | (apply Prod.ext <;> first | rfl | (dsimp only; omega) | (apply Prod.ext <;> first | rfl | (dsimp only; omega)))))) (kPXR (fun r5 ⟨q6, q7, q8, q10⟩ => ?_))
  refine di_astore_n (ls2 := [some (.ref 0), some (dI (a1)), some (dI (a2)), some (.ref r5), none]) rfl rfl rfl ?_
  refine dr_iload_n rfl rfl ?_
  refine di_const rfl ?_
  refine dr_stat rfl rfl rfl rfl (f_X6_needUpTo l hl hI (a0 := a2) (by omega) (by omega) (a1 := 5) (by omega) (by omega)) (by decide) (by decide) (by decide) (Nat.le_of_ble_eq_true rfl) (fun Y h9 q9 => by obtain ⟨rfl, rfl, hC⟩ := q9; exact dr_out rfl (by decide) (by decide) (QX_2 (a := 0) hI FrC_rf hS (by omega) (by unfold spOfBook; (repeat' split) <;> first | rfl | (exfalso; omega) | (apply Prod.ext <;> first | rfl | (dsimp only; omega) | (apply Prod.ext <;> first | rfl | (dsimp only; omega)))))) (kPXV (fun q11 => ?_))
  refine di_aload_n rfl rfl ?_
  obtain ⟨s12, m13, u14, w15, hc16, hr17, ht18, ma19, mb20⟩ := CSt_bk hS (k := a1) q8 q10 q7
  have sq21 : 0 ≤ s12 ∧ s12 ≤ 8 := ⟨hc16.2.2.2.2.2.1, hc16.2.2.2.2.2.2.1⟩
  have hz22 : zF (σ.1 a1) = s12 := zF_eq hr17
  refine dr_virt rfl rfl rfl rfl hc16.1 (f_X0_count l hl hI q6 hc16 ) (by decide) (by decide) (by decide) (Nat.le_of_ble_eq_true rfl) kNP (kIP (fun y23 y23f y23a y23b => ?_))
  obtain ⟨y23c, y23d, y23e⟩ := y23f
  have y23e2 := y23e.symm
  subst y23e2
  refine di_const rfl ?_
  refine di_isub rfl ?_
  refine di_istore (ls2 := [some (.ref 0), some (dI (a1)), some (dI (a2)), some (.ref r5), some (dI ((s12 - 1)))]) rfl rfl rfl ?_
  refine dr_iload_n rfl rfl ?_
  rcases (by omega : (a2 < 0 ∨ 4 < a2) ∨ a2 = 0 ∨ a2 = 1 ∨ a2 = 2 ∨ a2 = 3 ∨ a2 = 4) with c24 | c24 | c24 | c24 | c24 | c24
  · skip
    refine di_tabOut rfl (by omega) (by omega) c24 rfl ?_
    refine di_aload_n rfl rfl ?_
    refine dr_virt rfl rfl rfl rfl hc16.1 (f_X0_checkSum l hl hI q6 hc16 hr17) (by decide) (by decide) (by decide) (Nat.le_of_ble_eq_true rfl) kNP (kIP (fun y25 y25f y25a y25b => ?_))
    obtain ⟨y25c, y25d, y25k⟩ := y25f
    have e9 : anBook (σ.1 a1) a2 = y25 := by rw [show a2 = 5 by omega]; unfold anBook; rw [if_neg (by decide), if_neg (by decide), if_neg (by decide), if_neg (by decide), if_neg (by decide)]; exact y25k.symm
    exact dr_iret (ty := .int) rfl rfl rfl (by decide) (by decide) (QX_ok hI FrC_rf hS (by omega) (by unfold spOfBook; (try rw [e9]); (repeat' split) <;> first | rfl | (exfalso; omega) | (apply Prod.ext <;> first | rfl | (dsimp only; omega) | (apply Prod.ext <;> first | rfl | (dsimp only; omega)))))
  · skip
    refine di_tabIn 0 rfl (by omega) (by omega) (by omega) (by omega) rfl rfl ?_
    refine di_aload_n rfl rfl ?_
    refine dr_virt rfl rfl rfl rfl hc16.1 (f_X0_count l hl hI q6 hc16 ) (by decide) (by decide) (by decide) (Nat.le_of_ble_eq_true rfl) kNP (kIP (fun y26 y26f y26a y26b => ?_))
    obtain ⟨y26c, y26d, y26e⟩ := y26f
    have y26e2 := y26e.symm
    subst y26e2
    have e9 : anBook (σ.1 a1) a2 = s12 := by rw [show a2 = 0 by omega]; unfold anBook; rw [if_pos rfl]; exact zF_eq hr17
    exact dr_iret (ty := .int) rfl rfl rfl (by decide) (by decide) (QX_ok hI FrC_rf hS (by omega) (by unfold spOfBook; (try rw [e9]); (repeat' split) <;> first | rfl | (exfalso; omega) | (apply Prod.ext <;> first | rfl | (dsimp only; omega) | (apply Prod.ext <;> first | rfl | (dsimp only; omega)))))
  · skip
    refine di_tabIn 1 rfl (by omega) (by omega) (by omega) (by omega) rfl rfl ?_
    refine di_aload_n rfl rfl ?_
    refine di_const rfl ?_
    refine dr_virt rfl rfl rfl rfl hc16.1 (f_X0_codeAt l hl hI q6 hc16 (a1 := 0) (by omega) (by omega)) (by decide) (by decide) (by decide) (Nat.le_of_ble_eq_true rfl) kNP (kIP (fun y27 y27f y27a y27b => ?_))
    obtain ⟨y27c, y27d, y27k, y27k2, y27k3⟩ := y27f
    have e9 : anBook (σ.1 a1) a2 = y27 := by rw [show a2 = 1 by omega]; unfold anBook; rw [if_neg (by decide), if_pos rfl]; exact bk_l hr17 ht18 y27k y27k3
    exact dr_iret (ty := .int) rfl rfl rfl (by decide) (by decide) (QX_ok hI FrC_rf hS (by omega) (by unfold spOfBook; (try rw [e9]); (repeat' split) <;> first | rfl | (exfalso; omega) | (apply Prod.ext <;> first | rfl | (dsimp only; omega) | (apply Prod.ext <;> first | rfl | (dsimp only; omega)))))
  · skip
    refine di_tabIn 2 rfl (by omega) (by omega) (by omega) (by omega) rfl rfl ?_
    refine di_aload_n rfl rfl ?_
    refine dr_iload rfl rfl ?_
    refine dr_virt rfl rfl rfl rfl hc16.1 (f_X0_codeAt l hl hI q6 hc16 (a1 := (s12 - 1)) (by omega) (by omega)) (by decide) (by decide) (by decide) (Nat.le_of_ble_eq_true rfl) kNP (kIP (fun y28 y28f y28a y28b => ?_))
    obtain ⟨y28c, y28d, y28k, y28k2, y28k3⟩ := y28f
    have e9 : anBook (σ.1 a1) a2 = y28 := by rw [show a2 = 2 by omega]; unfold anBook; rw [if_neg (by decide), if_neg (by decide), if_pos rfl]; exact bk_g hr17 ht18 y28k y28k2
    exact dr_iret (ty := .int) rfl rfl rfl (by decide) (by decide) (QX_ok hI FrC_rf hS (by omega) (by unfold spOfBook; (try rw [e9]); (repeat' split) <;> first | rfl | (exfalso; omega) | (apply Prod.ext <;> first | rfl | (dsimp only; omega) | (apply Prod.ext <;> first | rfl | (dsimp only; omega)))))
  · skip
    refine di_tabIn 3 rfl (by omega) (by omega) (by omega) (by omega) rfl rfl ?_
    refine di_aload_n rfl rfl ?_
    refine di_const rfl ?_
    refine dr_virt rfl rfl rfl rfl hc16.1 (f_X0_noteAt l hl hI q6 hc16 (a1 := 0) (by omega) (by omega)) (by decide) (by decide) (by decide) (Nat.le_of_ble_eq_true rfl) kNP (kIP (fun y29 y29f y29a y29b => ?_))
    obtain ⟨y29c, y29d, y29k, y29k2, y29k3⟩ := y29f
    have e9 : anBook (σ.1 a1) a2 = y29 := by rw [show a2 = 3 by omega]; unfold anBook; rw [if_neg (by decide), if_neg (by decide), if_neg (by decide), if_pos rfl]; exact bn_l hr17 ht18 y29k y29k3
    exact dr_iret (ty := .int) rfl rfl rfl (by decide) (by decide) (QX_ok hI FrC_rf hS (by omega) (by unfold spOfBook; (try rw [e9]); (repeat' split) <;> first | rfl | (exfalso; omega) | (apply Prod.ext <;> first | rfl | (dsimp only; omega) | (apply Prod.ext <;> first | rfl | (dsimp only; omega)))))
  · skip
    refine di_tabIn 4 rfl (by omega) (by omega) (by omega) (by omega) rfl rfl ?_
    refine di_aload_n rfl rfl ?_
    refine dr_iload rfl rfl ?_
    refine dr_virt rfl rfl rfl rfl hc16.1 (f_X0_noteAt l hl hI q6 hc16 (a1 := (s12 - 1)) (by omega) (by omega)) (by decide) (by decide) (by decide) (Nat.le_of_ble_eq_true rfl) kNP (kIP (fun y30 y30f y30a y30b => ?_))
    obtain ⟨y30c, y30d, y30k, y30k2, y30k3⟩ := y30f
    have e9 : anBook (σ.1 a1) a2 = y30 := by rw [show a2 = 4 by omega]; unfold anBook; rw [if_neg (by decide), if_neg (by decide), if_neg (by decide), if_neg (by decide), if_pos rfl]; exact bn_g hr17 ht18 y30k y30k2
    exact dr_iret (ty := .int) rfl rfl rfl (by decide) (by decide) (QX_ok hI FrC_rf hS (by omega) (by unfold spOfBook; (try rw [e9]); (repeat' split) <;> first | rfl | (exfalso; omega) | (apply Prod.ext <;> first | rfl | (dsimp only; omega) | (apply Prod.ext <;> first | rfl | (dsimp only; omega)))))
set_option maxHeartbeats 4000000 in
set_option maxRecDepth 100000 in
/-- Earlyends.ofPart -/
theorem c_X6_ofPart (l : Launch) (hl : l.stackTraces = false) {kc km : Int} {h : dm_H} (hI : Inv kc km h) {B : Int} {σ : St} (hS : CSt B σ h) (hB : B ≤ 80000) {a1 : Int} (h1a : -2147483648 ≤ a1) (h1b : a1 ≤ 2147483647) : dm_M l 74 6 8 48 [.ref 0, dI (a1)] h (QX kc km h B XA XS (spOfPart σ a1)) := by
  refine dm_M_of dk_74 hl rfl (Nat.le_of_ble_eq_true rfl) ?_
  show dm_W (fun _ _ _ => True) (dm_P (QX kc km h B XA XS (spOfPart σ a1)) 8 48) l 74 6 8 48 0 [some (.ref 0), some (dI (a1)), none, none] [] h 0 0
  refine dr_iload_n rfl rfl ?_
  refine di_const rfl ?_
  refine dr_stat rfl rfl rfl rfl (f_X6_needUpTo l hl hI (a0 := a1) (by omega) (by omega) (a1 := 5) (by omega) (by omega)) (by decide) (by decide) (by decide) (Nat.le_of_ble_eq_true rfl) (fun Y h9 q9 => by obtain ⟨rfl, rfl, hC⟩ := q9; exact dr_out rfl (by decide) (by decide) (QX_1 (a := 0) hI FrC_rf hS (by omega) (by unfold spOfPart; (repeat' split) <;> first | rfl | (exfalso; omega) | (apply Prod.ext <;> first | rfl | (dsimp only; omega) | (apply Prod.ext <;> first | rfl | (dsimp only; omega)))))) (kPXV (fun q1 => ?_))
  refine di_aload_n rfl rfl ?_
  obtain ⟨r2, c3, c4, hc5⟩ := I_cls hI
  refine dr_virt rfl rfl rfl rfl hc5 (f_X6_bookOfPart l hl hI hS (by omega)) (by decide) (by decide) (by decide) (Nat.le_of_ble_eq_true rfl) (fun Y h9 q9 => by obtain ⟨rfl, rfl, hC⟩ := q9; exact dr_out rfl (by decide) (by decide) (QX_2 (a := 0) hI FrC_rf hS (by omega) (by unfold spOfPart; (repeat' split) <;> first | rfl | (exfalso; omega) | (apply Prod.ext <;> first | rfl | (dsimp only; omega) | (apply Prod.ext <;> first | rfl | (dsimp only; omega)))))) (kPXR (fun r6 ⟨q7, q8, q10, q11⟩ => ?_))
  refine di_astore_n (ls2 := [some (.ref 0), some (dI (a1)), some (.ref r6), none]) rfl rfl rfl ?_
  refine di_aload_n rfl rfl ?_
  refine dr_getf rfl hc5 rfl ?_
  refine di_aload_n rfl rfl ?_
  have pr12 := hS.2
  obtain ⟨pr12a, pr12b, pr12c, pr12d⟩ := pr12
  obtain ⟨s13, m14, u15, w16, hc17, hr18, ht19, ma20, mb21⟩ := CSt_bk hS (k := σ.2.1.1) q10 q11 q8
  have sq22 : 0 ≤ s13 ∧ s13 ≤ 8 := ⟨hc17.2.2.2.2.2.1, hc17.2.2.2.2.2.2.1⟩
  have hz23 : zF (σ.1 σ.2.1.1) = s13 := zF_eq hr18
  refine dr_virt rfl rfl rfl rfl pr12a (f_X4_countIn l hl hI hS (by omega) q7 q10 q11 q8 hc17 hr18 ht19 ma20 mb21) (by decide) (by decide) (by decide) (Nat.le_of_ble_eq_true rfl) kNP (kIP (fun y24 y24f y24a y24b => ?_))
  obtain ⟨y24c, y24d, y24k⟩ := y24f
  have y24z : y24 = nP σ := y24k
  subst y24z
  refine di_if_ne rfl rfl (by omega) (by omega) (fun c25 => ?_) (fun c25 => ?_)
  · skip
    refine di_const rfl ?_
    refine di_istore_n (ls2 := [some (.ref 0), some (dI (a1)), some (.ref r6), some (dI (0))]) rfl rfl rfl ?_
    refine dr_iload_n rfl rfl ?_
    rcases (by omega : (a1 < 0 ∨ 4 < a1) ∨ a1 = 0 ∨ a1 = 1 ∨ a1 = 2 ∨ a1 = 3 ∨ a1 = 4) with c26 | c26 | c26 | c26 | c26 | c26
    · skip
      refine di_tabOut rfl (by omega) (by omega) c26 rfl ?_
      refine dr_iload_n rfl rfl ?_
      refine di_if_eq rfl rfl (by omega) (by omega) (fun c27 => ?_) (fun c27 => ?_)
      · skip
        refine di_aload_n rfl rfl ?_
        refine di_aload_n rfl rfl ?_
        refine dr_getf rfl hc5 rfl ?_
        refine di_aload_n rfl rfl ?_
        refine dr_virt rfl rfl rfl rfl pr12a (f_X4_endIn l hl hI hS (by omega) q7 q10 q11 q8 hc17 hr18 ht19 ma20 mb21) (by decide) (by decide) (by decide) (Nat.le_of_ble_eq_true rfl) kNP (kIP (fun y28 y28f y28a y28b => ?_))
        obtain ⟨y28c, y28d, y28k⟩ := y28f
        have y28l : y28 ≤ s13 := y28k.2.1
        refine di_const rfl ?_
        refine di_isub rfl ?_
        refine dr_virt rfl rfl rfl rfl hc17.1 (f_X0_codeAt l hl hI q7 hc17 (a1 := (y28 - 1)) (by omega) (by omega)) (by decide) (by decide) (by decide) (Nat.le_of_ble_eq_true rfl) kNP (kIP (fun y29 y29f y29a y29b => ?_))
        obtain ⟨y29c, y29d, y29k, y29k2, y29k3⟩ := y29f
        obtain ⟨-, zp2, zp3, zp4, zp5⟩ := hS.2
        have hp9 : pOK σ.2.1.2.1 σ.2.1.2.2 := ⟨zp3.1, zp4.1, zp5⟩
        have hz9 : nF (σ.1 σ.2.1.1) (inP σ.2.1.2.1 σ.2.1.2.2) ≠ 0 := (by omega : nP σ ≠ 0)
        have e9 : anPart σ a1 = y29 := by rw [show a1 = 5 by omega]; unfold anPart; rw [if_neg (by decide), if_neg (by decide), if_neg (by decide), if_neg (by decide), if_neg (by decide)]; exact pt_g hr18 ht19 hp9 y28k hz9 y29k
        exact dr_iret (ty := .int) rfl rfl rfl (by decide) (by decide) (QX_ok hI FrC_rf hS (by omega) (by unfold spOfPart; (try rw [e9]); (repeat' split) <;> first | rfl | (exfalso; omega) | (apply Prod.ext <;> first | rfl | (dsimp only; omega) | (apply Prod.ext <;> first | rfl | (dsimp only; omega)))))
      · skip
        refine di_const rfl ?_
        refine dr_goto rfl rfl ?_
        obtain ⟨-, zp2, zp3, zp4, zp5⟩ := hS.2
        have hp9 : pOK σ.2.1.2.1 σ.2.1.2.2 := ⟨zp3.1, zp4.1, zp5⟩
        have hz9 : nF (σ.1 σ.2.1.1) (inP σ.2.1.2.1 σ.2.1.2.2) = 0 := (by omega : nP σ = 0)
        have e9 : anPart σ a1 = (-1) := by rw [show a1 = 5 by omega]; unfold anPart; rw [if_neg (by decide), if_neg (by decide), if_neg (by decide), if_neg (by decide), if_neg (by decide)]; exact (pt_0 hr18 hz9).2
        exact dr_iret (ty := .int) rfl rfl rfl (by decide) (by decide) (QX_ok hI FrC_rf hS (by omega) (by unfold spOfPart; (try rw [e9]); (repeat' split) <;> first | rfl | (exfalso; omega) | (apply Prod.ext <;> first | rfl | (dsimp only; omega) | (apply Prod.ext <;> first | rfl | (dsimp only; omega)))))
    · skip
      refine di_tabIn 0 rfl (by omega) (by omega) (by omega) (by omega) rfl rfl ?_
      refine di_aload_n rfl rfl ?_
      refine dr_getf rfl hc5 rfl ?_
      refine dr_getf rfl pr12a rfl ?_
      have e9 : anPart σ a1 = σ.2.1.1 := by rw [show a1 = 0 by omega]; unfold anPart; rw [if_pos rfl]
      exact dr_iret (ty := .int) rfl rfl rfl (by decide) (by decide) (QX_ok hI FrC_rf hS (by omega) (by unfold spOfPart; (try rw [e9]); (repeat' split) <;> first | rfl | (exfalso; omega) | (apply Prod.ext <;> first | rfl | (dsimp only; omega) | (apply Prod.ext <;> first | rfl | (dsimp only; omega)))))
    · skip
      refine di_tabIn 1 rfl (by omega) (by omega) (by omega) (by omega) rfl rfl ?_
      refine di_aload_n rfl rfl ?_
      refine dr_getf rfl hc5 rfl ?_
      refine dr_getf rfl pr12a rfl ?_
      have e9 : anPart σ a1 = σ.2.1.2.1 := by rw [show a1 = 1 by omega]; unfold anPart; rw [if_neg (by decide), if_pos rfl]
      exact dr_iret (ty := .int) rfl rfl rfl (by decide) (by decide) (QX_ok hI FrC_rf hS (by omega) (by unfold spOfPart; (try rw [e9]); (repeat' split) <;> first | rfl | (exfalso; omega) | (apply Prod.ext <;> first | rfl | (dsimp only; omega) | (apply Prod.ext <;> first | rfl | (dsimp only; omega)))))
    · skip
      refine di_tabIn 2 rfl (by omega) (by omega) (by omega) (by omega) rfl rfl ?_
      refine di_aload_n rfl rfl ?_
      refine dr_getf rfl hc5 rfl ?_
      refine dr_getf rfl pr12a rfl ?_
      have e9 : anPart σ a1 = σ.2.1.2.2 := by rw [show a1 = 2 by omega]; unfold anPart; rw [if_neg (by decide), if_neg (by decide), if_pos rfl]
      exact dr_iret (ty := .int) rfl rfl rfl (by decide) (by decide) (QX_ok hI FrC_rf hS (by omega) (by unfold spOfPart; (try rw [e9]); (repeat' split) <;> first | rfl | (exfalso; omega) | (apply Prod.ext <;> first | rfl | (dsimp only; omega) | (apply Prod.ext <;> first | rfl | (dsimp only; omega)))))
    · skip
      refine di_tabIn 3 rfl (by omega) (by omega) (by omega) (by omega) rfl rfl ?_
      refine di_aload_n rfl rfl ?_
      refine dr_getf rfl hc5 rfl ?_
      refine di_aload_n rfl rfl ?_
      refine dr_virt rfl rfl rfl rfl pr12a (f_X4_countIn l hl hI hS (by omega) q7 q10 q11 q8 hc17 hr18 ht19 ma20 mb21) (by decide) (by decide) (by decide) (Nat.le_of_ble_eq_true rfl) kNP (kIP (fun y30 y30f y30a y30b => ?_))
      obtain ⟨y30c, y30d, y30k⟩ := y30f
      have y30z : y30 = nP σ := y30k
      subst y30z
      have e9 : anPart σ a1 = (nP σ) := by rw [show a1 = 3 by omega]; unfold anPart; rw [if_neg (by decide), if_neg (by decide), if_neg (by decide), if_pos rfl]
      exact dr_iret (ty := .int) rfl rfl rfl (by decide) (by decide) (QX_ok hI FrC_rf hS (by omega) (by unfold spOfPart; (try rw [e9]); (repeat' split) <;> first | rfl | (exfalso; omega) | (apply Prod.ext <;> first | rfl | (dsimp only; omega) | (apply Prod.ext <;> first | rfl | (dsimp only; omega)))))
    · skip
      refine di_tabIn 4 rfl (by omega) (by omega) (by omega) (by omega) rfl rfl ?_
      refine dr_iload_n rfl rfl ?_
      refine di_if_eq rfl rfl (by omega) (by omega) (fun c31 => ?_) (fun c31 => ?_)
      · skip
        refine di_aload_n rfl rfl ?_
        refine di_aload_n rfl rfl ?_
        refine dr_getf rfl hc5 rfl ?_
        refine di_aload_n rfl rfl ?_
        refine dr_virt rfl rfl rfl rfl pr12a (f_X4_startIn l hl hI hS (by omega) q7 q10 q11 q8 hc17 hr18 ht19 ma20 mb21) (by decide) (by decide) (by decide) (Nat.le_of_ble_eq_true rfl) kNP (kIP (fun y32 y32f y32a y32b => ?_))
        obtain ⟨y32c, y32d, y32k⟩ := y32f
        have y32l : y32 ≤ s13 := y32k.2.1
        refine dr_virt rfl rfl rfl rfl hc17.1 (f_X0_codeAt l hl hI q7 hc17 (a1 := y32) (by omega) (by omega)) (by decide) (by decide) (by decide) (Nat.le_of_ble_eq_true rfl) kNP (kIP (fun y33 y33f y33a y33b => ?_))
        obtain ⟨y33c, y33d, y33k, y33k2, y33k3⟩ := y33f
        obtain ⟨-, zp2, zp3, zp4, zp5⟩ := hS.2
        have hp9 : pOK σ.2.1.2.1 σ.2.1.2.2 := ⟨zp3.1, zp4.1, zp5⟩
        have hz9 : nF (σ.1 σ.2.1.1) (inP σ.2.1.2.1 σ.2.1.2.2) ≠ 0 := (by omega : nP σ ≠ 0)
        have e9 : anPart σ a1 = y33 := by rw [show a1 = 4 by omega]; unfold anPart; rw [if_neg (by decide), if_neg (by decide), if_neg (by decide), if_neg (by decide), if_pos rfl]; exact pt_l hr18 ht19 hp9 y32k hz9 y33k
        exact dr_iret (ty := .int) rfl rfl rfl (by decide) (by decide) (QX_ok hI FrC_rf hS (by omega) (by unfold spOfPart; (try rw [e9]); (repeat' split) <;> first | rfl | (exfalso; omega) | (apply Prod.ext <;> first | rfl | (dsimp only; omega) | (apply Prod.ext <;> first | rfl | (dsimp only; omega)))))
      · skip
        refine di_const rfl ?_
        refine dr_goto rfl rfl ?_
        obtain ⟨-, zp2, zp3, zp4, zp5⟩ := hS.2
        have hp9 : pOK σ.2.1.2.1 σ.2.1.2.2 := ⟨zp3.1, zp4.1, zp5⟩
        have hz9 : nF (σ.1 σ.2.1.1) (inP σ.2.1.2.1 σ.2.1.2.2) = 0 := (by omega : nP σ = 0)
        have e9 : anPart σ a1 = (-1) := by rw [show a1 = 4 by omega]; unfold anPart; rw [if_neg (by decide), if_neg (by decide), if_neg (by decide), if_neg (by decide), if_pos rfl]; exact (pt_0 hr18 hz9).1
        exact dr_iret (ty := .int) rfl rfl rfl (by decide) (by decide) (QX_ok hI FrC_rf hS (by omega) (by unfold spOfPart; (try rw [e9]); (repeat' split) <;> first | rfl | (exfalso; omega) | (apply Prod.ext <;> first | rfl | (dsimp only; omega) | (apply Prod.ext <;> first | rfl | (dsimp only; omega)))))
  · skip
    refine di_const rfl ?_
    refine dr_goto rfl rfl ?_
    refine di_istore_n (ls2 := [some (.ref 0), some (dI (a1)), some (.ref r6), some (dI (1))]) rfl rfl rfl ?_
    refine dr_iload_n rfl rfl ?_
    rcases (by omega : (a1 < 0 ∨ 4 < a1) ∨ a1 = 0 ∨ a1 = 1 ∨ a1 = 2 ∨ a1 = 3 ∨ a1 = 4) with c34 | c34 | c34 | c34 | c34 | c34
    · skip
      refine di_tabOut rfl (by omega) (by omega) c34 rfl ?_
      refine dr_iload_n rfl rfl ?_
      refine di_if_eq rfl rfl (by omega) (by omega) (fun c35 => ?_) (fun c35 => ?_)
      · skip
        refine di_aload_n rfl rfl ?_
        refine di_aload_n rfl rfl ?_
        refine dr_getf rfl hc5 rfl ?_
        refine di_aload_n rfl rfl ?_
        refine dr_virt rfl rfl rfl rfl pr12a (f_X4_endIn l hl hI hS (by omega) q7 q10 q11 q8 hc17 hr18 ht19 ma20 mb21) (by decide) (by decide) (by decide) (Nat.le_of_ble_eq_true rfl) kNP (kIP (fun y36 y36f y36a y36b => ?_))
        obtain ⟨y36c, y36d, y36k⟩ := y36f
        have y36l : y36 ≤ s13 := y36k.2.1
        refine di_const rfl ?_
        refine di_isub rfl ?_
        refine dr_virt rfl rfl rfl rfl hc17.1 (f_X0_codeAt l hl hI q7 hc17 (a1 := (y36 - 1)) (by omega) (by omega)) (by decide) (by decide) (by decide) (Nat.le_of_ble_eq_true rfl) kNP (kIP (fun y37 y37f y37a y37b => ?_))
        obtain ⟨y37c, y37d, y37k, y37k2, y37k3⟩ := y37f
        obtain ⟨-, zp2, zp3, zp4, zp5⟩ := hS.2
        have hp9 : pOK σ.2.1.2.1 σ.2.1.2.2 := ⟨zp3.1, zp4.1, zp5⟩
        have hz9 : nF (σ.1 σ.2.1.1) (inP σ.2.1.2.1 σ.2.1.2.2) ≠ 0 := (by omega : nP σ ≠ 0)
        have e9 : anPart σ a1 = y37 := by rw [show a1 = 5 by omega]; unfold anPart; rw [if_neg (by decide), if_neg (by decide), if_neg (by decide), if_neg (by decide), if_neg (by decide)]; exact pt_g hr18 ht19 hp9 y36k hz9 y37k
        exact dr_iret (ty := .int) rfl rfl rfl (by decide) (by decide) (QX_ok hI FrC_rf hS (by omega) (by unfold spOfPart; (try rw [e9]); (repeat' split) <;> first | rfl | (exfalso; omega) | (apply Prod.ext <;> first | rfl | (dsimp only; omega) | (apply Prod.ext <;> first | rfl | (dsimp only; omega)))))
      · skip
        refine di_const rfl ?_
        refine dr_goto rfl rfl ?_
        obtain ⟨-, zp2, zp3, zp4, zp5⟩ := hS.2
        have hp9 : pOK σ.2.1.2.1 σ.2.1.2.2 := ⟨zp3.1, zp4.1, zp5⟩
        have hz9 : nF (σ.1 σ.2.1.1) (inP σ.2.1.2.1 σ.2.1.2.2) = 0 := (by omega : nP σ = 0)
        have e9 : anPart σ a1 = (-1) := by rw [show a1 = 5 by omega]; unfold anPart; rw [if_neg (by decide), if_neg (by decide), if_neg (by decide), if_neg (by decide), if_neg (by decide)]; exact (pt_0 hr18 hz9).2
        exact dr_iret (ty := .int) rfl rfl rfl (by decide) (by decide) (QX_ok hI FrC_rf hS (by omega) (by unfold spOfPart; (try rw [e9]); (repeat' split) <;> first | rfl | (exfalso; omega) | (apply Prod.ext <;> first | rfl | (dsimp only; omega) | (apply Prod.ext <;> first | rfl | (dsimp only; omega)))))
    · skip
      refine di_tabIn 0 rfl (by omega) (by omega) (by omega) (by omega) rfl rfl ?_
      refine di_aload_n rfl rfl ?_
      refine dr_getf rfl hc5 rfl ?_
      refine dr_getf rfl pr12a rfl ?_
      have e9 : anPart σ a1 = σ.2.1.1 := by rw [show a1 = 0 by omega]; unfold anPart; rw [if_pos rfl]
      exact dr_iret (ty := .int) rfl rfl rfl (by decide) (by decide) (QX_ok hI FrC_rf hS (by omega) (by unfold spOfPart; (try rw [e9]); (repeat' split) <;> first | rfl | (exfalso; omega) | (apply Prod.ext <;> first | rfl | (dsimp only; omega) | (apply Prod.ext <;> first | rfl | (dsimp only; omega)))))
    · skip
      refine di_tabIn 1 rfl (by omega) (by omega) (by omega) (by omega) rfl rfl ?_
      refine di_aload_n rfl rfl ?_
      refine dr_getf rfl hc5 rfl ?_
      refine dr_getf rfl pr12a rfl ?_
      have e9 : anPart σ a1 = σ.2.1.2.1 := by rw [show a1 = 1 by omega]; unfold anPart; rw [if_neg (by decide), if_pos rfl]
      exact dr_iret (ty := .int) rfl rfl rfl (by decide) (by decide) (QX_ok hI FrC_rf hS (by omega) (by unfold spOfPart; (try rw [e9]); (repeat' split) <;> first | rfl | (exfalso; omega) | (apply Prod.ext <;> first | rfl | (dsimp only; omega) | (apply Prod.ext <;> first | rfl | (dsimp only; omega)))))
    · skip
      refine di_tabIn 2 rfl (by omega) (by omega) (by omega) (by omega) rfl rfl ?_
      refine di_aload_n rfl rfl ?_
      refine dr_getf rfl hc5 rfl ?_
      refine dr_getf rfl pr12a rfl ?_
      have e9 : anPart σ a1 = σ.2.1.2.2 := by rw [show a1 = 2 by omega]; unfold anPart; rw [if_neg (by decide), if_neg (by decide), if_pos rfl]
      exact dr_iret (ty := .int) rfl rfl rfl (by decide) (by decide) (QX_ok hI FrC_rf hS (by omega) (by unfold spOfPart; (try rw [e9]); (repeat' split) <;> first | rfl | (exfalso; omega) | (apply Prod.ext <;> first | rfl | (dsimp only; omega) | (apply Prod.ext <;> first | rfl | (dsimp only; omega)))))
    · skip
      refine di_tabIn 3 rfl (by omega) (by omega) (by omega) (by omega) rfl rfl ?_
      refine di_aload_n rfl rfl ?_
      refine dr_getf rfl hc5 rfl ?_
      refine di_aload_n rfl rfl ?_
      refine dr_virt rfl rfl rfl rfl pr12a (f_X4_countIn l hl hI hS (by omega) q7 q10 q11 q8 hc17 hr18 ht19 ma20 mb21) (by decide) (by decide) (by decide) (Nat.le_of_ble_eq_true rfl) kNP (kIP (fun y38 y38f y38a y38b => ?_))
      obtain ⟨y38c, y38d, y38k⟩ := y38f
      have y38z : y38 = nP σ := y38k
      subst y38z
      have e9 : anPart σ a1 = (nP σ) := by rw [show a1 = 3 by omega]; unfold anPart; rw [if_neg (by decide), if_neg (by decide), if_neg (by decide), if_pos rfl]
      exact dr_iret (ty := .int) rfl rfl rfl (by decide) (by decide) (QX_ok hI FrC_rf hS (by omega) (by unfold spOfPart; (try rw [e9]); (repeat' split) <;> first | rfl | (exfalso; omega) | (apply Prod.ext <;> first | rfl | (dsimp only; omega) | (apply Prod.ext <;> first | rfl | (dsimp only; omega)))))
    · skip
      refine di_tabIn 4 rfl (by omega) (by omega) (by omega) (by omega) rfl rfl ?_
      refine dr_iload_n rfl rfl ?_
      refine di_if_eq rfl rfl (by omega) (by omega) (fun c39 => ?_) (fun c39 => ?_)
      · skip
        refine di_aload_n rfl rfl ?_
        refine di_aload_n rfl rfl ?_
        refine dr_getf rfl hc5 rfl ?_
        refine di_aload_n rfl rfl ?_
        refine dr_virt rfl rfl rfl rfl pr12a (f_X4_startIn l hl hI hS (by omega) q7 q10 q11 q8 hc17 hr18 ht19 ma20 mb21) (by decide) (by decide) (by decide) (Nat.le_of_ble_eq_true rfl) kNP (kIP (fun y40 y40f y40a y40b => ?_))
        obtain ⟨y40c, y40d, y40k⟩ := y40f
        have y40l : y40 ≤ s13 := y40k.2.1
        refine dr_virt rfl rfl rfl rfl hc17.1 (f_X0_codeAt l hl hI q7 hc17 (a1 := y40) (by omega) (by omega)) (by decide) (by decide) (by decide) (Nat.le_of_ble_eq_true rfl) kNP (kIP (fun y41 y41f y41a y41b => ?_))
        obtain ⟨y41c, y41d, y41k, y41k2, y41k3⟩ := y41f
        obtain ⟨-, zp2, zp3, zp4, zp5⟩ := hS.2
        have hp9 : pOK σ.2.1.2.1 σ.2.1.2.2 := ⟨zp3.1, zp4.1, zp5⟩
        have hz9 : nF (σ.1 σ.2.1.1) (inP σ.2.1.2.1 σ.2.1.2.2) ≠ 0 := (by omega : nP σ ≠ 0)
        have e9 : anPart σ a1 = y41 := by rw [show a1 = 4 by omega]; unfold anPart; rw [if_neg (by decide), if_neg (by decide), if_neg (by decide), if_neg (by decide), if_pos rfl]; exact pt_l hr18 ht19 hp9 y40k hz9 y41k
        exact dr_iret (ty := .int) rfl rfl rfl (by decide) (by decide) (QX_ok hI FrC_rf hS (by omega) (by unfold spOfPart; (try rw [e9]); (repeat' split) <;> first | rfl | (exfalso; omega) | (apply Prod.ext <;> first | rfl | (dsimp only; omega) | (apply Prod.ext <;> first | rfl | (dsimp only; omega)))))
      · skip
        refine di_const rfl ?_
        refine dr_goto rfl rfl ?_
        obtain ⟨-, zp2, zp3, zp4, zp5⟩ := hS.2
        have hp9 : pOK σ.2.1.2.1 σ.2.1.2.2 := ⟨zp3.1, zp4.1, zp5⟩
        have hz9 : nF (σ.1 σ.2.1.1) (inP σ.2.1.2.1 σ.2.1.2.2) = 0 := (by omega : nP σ = 0)
        have e9 : anPart σ a1 = (-1) := by rw [show a1 = 4 by omega]; unfold anPart; rw [if_neg (by decide), if_neg (by decide), if_neg (by decide), if_neg (by decide), if_pos rfl]; exact (pt_0 hr18 hz9).1
        exact dr_iret (ty := .int) rfl rfl rfl (by decide) (by decide) (QX_ok hI FrC_rf hS (by omega) (by unfold spOfPart; (try rw [e9]); (repeat' split) <;> first | rfl | (exfalso; omega) | (apply Prod.ext <;> first | rfl | (dsimp only; omega) | (apply Prod.ext <;> first | rfl | (dsimp only; omega)))))
set_option maxHeartbeats 4000000 in
set_option maxRecDepth 100000 in
/-- EarlyendsModel.bookTold -/
theorem n_X8_bookTold (l : Launch) (hl : l.stackTraces = false) {kc km : Int} {h : dm_H} (hI : Inv kc km h) {th : Int} {σ : St} (hM : MSt km th σ h) {a1 : Int} (h1a : 0 ≤ a1) (h1b : a1 ≤ 2) {a2 : Int} (h2a : 0 ≤ a2) (h2b : a2 ≤ 5) {r q : Nat} {u w us : List Value} (er : (r : Int) = (28 : Nat) + a1) (eq : (q : Int) = (32 : Nat) + a1) (hu : h[r]? = some (20, u)) (hw : h[q]? = some (20, w)) (au : arr 8 okC u) (aw : arr 8 anyI w) (h35 : h[35]? = some (20, us)) (as : arr 3 okS us) (hr : Rep (cv u) (cv w) (cv us a1) (σ.1 a1)) (s0 : 0 ≤ cv us a1) (s8 : cv us a1 ≤ 8) (hT : sSt σ) : dm_M l 172 2 0 0 [.ref 26, dI (a1), dI (a2)] h (QP h (RI (fun x => -1 ≤ x ∧ x ≤ 131064 ∧ x = anBook (σ.1 a1) a2)) []) := by
  obtain ⟨⟨ni, c26, ni0, ni1⟩, ⟨⟨R1, R2⟩, ⟨R3, R4⟩, ⟨R5, R6⟩, ⟨R7, R8⟩, ⟨R9, R10⟩, ⟨R11, R12⟩, R13⟩, ⟨th0, th1⟩, -⟩ := id hM
  have R14 : σ.2.2.2.2.2.1 = -1 ∨ (0 ≤ σ.2.2.2.2.2.1 ∧ σ.2.2.2.2.2.1 ≤ 9999 ∧ σ.2.2.2.2.2.1 % 100 ≤ σ.2.2.2.2.2.1 / 100) := R13
  have mr : isCR r := isCR_of er (by omega) (by omega)
  have mq : isNR q := isNR_of eq (by omega) (by omega)
  refine dm_M_of dk_172 hl rfl (Nat.le_of_ble_eq_true rfl) ?_
  show dm_W (fun _ _ _ => True) (dm_P (QP h (RI (fun x => -1 ≤ x ∧ x ≤ 131064 ∧ x = anBook (σ.1 a1) a2)) []) 0 0) l 172 2 0 0 0 [some (.ref 26), some (dI (a1)), some (dI (a2)), none, none] [] h 0 0
  refine dr_iload_n rfl rfl ?_
  rcases (by omega : (a2 < 0 ∨ 4 < a2) ∨ a2 = 0 ∨ a2 = 1 ∨ a2 = 2 ∨ a2 = 3 ∨ a2 = 4) with c1 | c1 | c1 | c1 | c1 | c1
  · skip
    refine di_tabOut rfl (by omega) (by omega) c1 rfl ?_
    refine di_const rfl ?_
    refine di_istore_n (ls2 := [some (.ref 26), some (dI (a1)), some (dI (a2)), some (dI (0)), none]) rfl rfl rfl ?_
    refine di_const rfl ?_
    refine di_istore (ls2 := [some (.ref 26), some (dI (a1)), some (dI (a2)), some (dI (0)), some (dI (0))]) rfl rfl rfl ?_
    have L4 : ∀ (n : Nat) (i2 : Int) (i3 : Int), (8 - i3).toNat < n → 0 ≤ i2 → i2 ≤ 131064 → 0 ≤ i3 → i3 ≤ 8 → i2 ≤ 16383 * i3 → i3 ≤ cv us a1 → smP i2 (cv u) (wX (σ.1 a1)) i3 → dm_W (fun _ _ _ => True) (dm_P (QP h (RI (fun x => -1 ≤ x ∧ x ≤ 131064 ∧ x = anBook (σ.1 a1) a2)) []) 0 0) l 172 2 0 0 100 [some (.ref 26), some (dI (a1)), some (dI (a2)), some (dI (i2)), some (dI (i3))] [] h 0 0 := by
      intro n
      induction n with
      | zero => intro i2 i3 hm; exact absurd hm (Nat.not_lt_zero _)
      | succ n ih =>
        intro i2 i3 hm12 hb5 hb6 hb7 hb8 hx10 hx11 PS
        have ihL4 := ih
        clear ih
        refine dr_iload rfl rfl ?_
        refine di_aload_n rfl rfl ?_
        refine dr_getf rfl c26 rfl ?_
        refine dr_iload_n rfl rfl ?_
        refine di_iald rfl h35 as (by omega) (by omega) (fun x13 x13f x13a x13b x13v => ?_)
        have x13w : cv us a1 = x13 := cv_eq x13v x13a x13b
        have x13g : 0 ≤ x13 ∧ x13 ≤ 8 := x13f
        refine di_icmp_ge rfl rfl (by omega) (by omega) (by omega) (by omega) (fun c14 => ?_) (fun c14 => ?_)
        · skip
          refine dr_iload_n rfl rfl ?_
          exact dr_iret (ty := .int) rfl rfl rfl (by decide) (by decide) ⟨rfl, i2, ⟨by omega, by omega, by rw [show a2 = 5 by omega]; unfold anBook; rw [if_neg (by decide), if_neg (by decide), if_neg (by decide), if_neg (by decide), if_neg (by decide)]; exact (smP_e PS hr (by omega)).symm⟩, by omega, by omega, rfl⟩
        · skip
          refine dr_iload_n rfl rfl ?_
          refine di_aload_n rfl rfl ?_
          refine dr_getf rfl c26 rfl ?_
          refine dr_iload_n rfl rfl ?_
          have hc15 := I_mcs hI
          refine paaE (k0 := 28) er rfl hc15 (by omega) (by omega) ?_
          refine dr_iload rfl rfl ?_
          refine di_iald rfl hu au (by omega) (by omega) (fun x16 x16f x16a x16b x16v => ?_)
          have x16w : cv u i3 = x16 := cv_eq x16v x16a x16b
          have x16g : 0 ≤ x16 ∧ x16 ≤ 9999 ∧ x16 % 100 ≤ x16 / 100 := x16f
          refine di_aload_n rfl rfl ?_
          refine dr_getf rfl c26 rfl ?_
          refine dr_iload_n rfl rfl ?_
          have hc17 := I_mns hI
          refine paaE (k0 := 32) eq rfl hc17 (by omega) (by omega) ?_
          refine dr_iload rfl rfl ?_
          refine di_iald rfl hw aw (by omega) (by omega) (fun x18 x18f x18a x18b x18v => ?_)
          have x18w : cv w i3 = x18 := cv_eq x18v x18a x18b
          have ra19 := Rep_at hr (j := i3) (by omega) (by omega)
          refine di_xor rfl (by omega) (by omega) (by omega) (by omega) (fun xb20a xb20b => ?_)
          refine di_iadd rfl ?_
          refine di_istore_n (ls2 := [some (.ref 26), some (dI (a1)), some (dI (a2)), some (dI ((i2 + (xr x16 x18)))), some (dI (i3))]) rfl rfl rfl ?_
          refine di_iinc (ls2 := [some (.ref 26), some (dI (a1)), some (dI (a2)), some (dI ((i2 + (xr x16 x18)))), some (dI ((i3 + 1)))]) rfl rfl rfl rfl ?_
          refine dr_goto rfl rfl ?_
          exact ihL4 ((i2 + (xr x16 x18))) ((i3 + 1)) (by omega) (by omega) (by omega) (by omega) (by omega) (by omega) (by omega)  (smP_s PS (by omega) x16w (show xr x16 (σ.1 a1 x16) = (xr x16 x18) by rw [show σ.1 a1 x16 = x18 by have q9 := ra19.2.2; rw [x16w, x18w] at q9; exact q9]))
    exact L4 _ (0) (0) (Nat.lt_succ_self _) (by omega) (by omega) (by omega) (by omega) (by omega) (by omega)  smP_0
  · skip
    refine di_tabIn 0 rfl (by omega) (by omega) (by omega) (by omega) rfl rfl ?_
    refine di_aload_n rfl rfl ?_
    refine dr_getf rfl c26 rfl ?_
    refine dr_iload_n rfl rfl ?_
    refine di_iald rfl h35 as (by omega) (by omega) (fun x21 x21f x21a x21b x21v => ?_)
    have x21w : cv us a1 = x21 := cv_eq x21v x21a x21b
    have x21g : 0 ≤ x21 ∧ x21 ≤ 8 := x21f
    exact dr_iret (ty := .int) rfl rfl rfl (by decide) (by decide) ⟨rfl, x21, ⟨by omega, by omega, by rw [show a2 = 0 by omega]; unfold anBook; rw [if_pos rfl]; exact ((zF_eq hr).trans x21w).symm⟩, by omega, by omega, rfl⟩
  · skip
    refine di_tabIn 1 rfl (by omega) (by omega) (by omega) (by omega) rfl rfl ?_
    refine di_aload_n rfl rfl ?_
    refine dr_iload_n rfl rfl ?_
    refine di_const rfl ?_
    refine dr_virt rfl rfl rfl rfl c26 (n_X8_codeAt l hl hI hM (a1 := a1) (by omega) (by omega) (a2 := 0) (by omega) (by omega) er eq hu hw au aw h35 as hr s0 s8) (by decide) (by decide) (by decide) (Nat.le_of_ble_eq_true rfl) kNP (kIP (fun y22 y22f y22a y22b => ?_))
    obtain ⟨y22c, y22d, y22k⟩ := y22f
    exact dr_iret (ty := .int) rfl rfl rfl (by decide) (by decide) ⟨rfl, y22, ⟨by omega, by omega, by rw [show a2 = 1 by omega]; unfold anBook; rw [if_neg (by decide), if_pos rfl]; exact (dr_l y22k (hT a1 (by omega) (by omega)).choose_spec.choose_spec.choose_spec.1 (hT a1 (by omega) (by omega)).choose_spec.choose_spec.choose_spec.2).symm⟩, by omega, by omega, rfl⟩
  · skip
    refine di_tabIn 2 rfl (by omega) (by omega) (by omega) (by omega) rfl rfl ?_
    refine di_aload_n rfl rfl ?_
    refine dr_iload_n rfl rfl ?_
    refine di_aload_n rfl rfl ?_
    refine dr_getf rfl c26 rfl ?_
    refine dr_iload_n rfl rfl ?_
    refine di_iald rfl h35 as (by omega) (by omega) (fun x23 x23f x23a x23b x23v => ?_)
    have x23w : cv us a1 = x23 := cv_eq x23v x23a x23b
    have x23g : 0 ≤ x23 ∧ x23 ≤ 8 := x23f
    refine di_const rfl ?_
    refine di_isub rfl ?_
    refine dr_virt rfl rfl rfl rfl c26 (n_X8_codeAt l hl hI hM (a1 := a1) (by omega) (by omega) (a2 := (x23 - 1)) (by omega) (by omega) er eq hu hw au aw h35 as hr s0 s8) (by decide) (by decide) (by decide) (Nat.le_of_ble_eq_true rfl) kNP (kIP (fun y24 y24f y24a y24b => ?_))
    obtain ⟨y24c, y24d, y24k⟩ := y24f
    exact dr_iret (ty := .int) rfl rfl rfl (by decide) (by decide) ⟨rfl, y24, ⟨by omega, by omega, by rw [show a2 = 2 by omega]; unfold anBook; rw [if_neg (by decide), if_neg (by decide), if_pos rfl]; exact (dr_g y24k (hT a1 (by omega) (by omega)).choose_spec.choose_spec.choose_spec.1 (hT a1 (by omega) (by omega)).choose_spec.choose_spec.choose_spec.2 (by rw [← zF_eq (hT a1 (by omega) (by omega)).choose_spec.choose_spec.choose_spec.1, zF_eq hr]; omega)).symm⟩, by omega, by omega, rfl⟩
  · skip
    refine di_tabIn 3 rfl (by omega) (by omega) (by omega) (by omega) rfl rfl ?_
    refine di_aload_n rfl rfl ?_
    refine dr_iload_n rfl rfl ?_
    refine di_aload_n rfl rfl ?_
    refine dr_iload_n rfl rfl ?_
    refine di_const rfl ?_
    refine dr_virt rfl rfl rfl rfl c26 (n_X8_codeAt l hl hI hM (a1 := a1) (by omega) (by omega) (a2 := 0) (by omega) (by omega) er eq hu hw au aw h35 as hr s0 s8) (by decide) (by decide) (by decide) (Nat.le_of_ble_eq_true rfl) kNP (kIP (fun y25 y25f y25a y25b => ?_))
    obtain ⟨y25c, y25d, y25k⟩ := y25f
    refine dr_virt rfl rfl rfl rfl c26 (n_X8_noteAt l hl hI hM (a1 := a1) (by omega) (by omega) (a2 := y25) (by omega) (by omega) er eq hu hw au aw h35 as hr s0 s8) (by decide) (by decide) (by decide) (Nat.le_of_ble_eq_true rfl) kNP (kIP (fun y26 y26f y26a y26b => ?_))
    obtain ⟨y26c, y26d, y26n⟩ := y26f
    subst y26n
    exact dr_iret (ty := .int) rfl rfl rfl (by decide) (by decide) ⟨rfl, (σ.1 a1 y25), ⟨by omega, by omega, by rw [show a2 = 3 by omega]; unfold anBook; rw [if_neg (by decide), if_neg (by decide), if_neg (by decide), if_pos rfl]; rw [dr_l y25k (hT a1 (by omega) (by omega)).choose_spec.choose_spec.choose_spec.1 (hT a1 (by omega) (by omega)).choose_spec.choose_spec.choose_spec.2]⟩, by omega, by omega, rfl⟩
  · skip
    refine di_tabIn 4 rfl (by omega) (by omega) (by omega) (by omega) rfl rfl ?_
    refine di_aload_n rfl rfl ?_
    refine dr_iload_n rfl rfl ?_
    refine di_aload_n rfl rfl ?_
    refine dr_iload_n rfl rfl ?_
    refine di_aload_n rfl rfl ?_
    refine dr_getf rfl c26 rfl ?_
    refine dr_iload_n rfl rfl ?_
    refine di_iald rfl h35 as (by omega) (by omega) (fun x27 x27f x27a x27b x27v => ?_)
    have x27w : cv us a1 = x27 := cv_eq x27v x27a x27b
    have x27g : 0 ≤ x27 ∧ x27 ≤ 8 := x27f
    refine di_const rfl ?_
    refine di_isub rfl ?_
    refine dr_virt rfl rfl rfl rfl c26 (n_X8_codeAt l hl hI hM (a1 := a1) (by omega) (by omega) (a2 := (x27 - 1)) (by omega) (by omega) er eq hu hw au aw h35 as hr s0 s8) (by decide) (by decide) (by decide) (Nat.le_of_ble_eq_true rfl) kNP (kIP (fun y28 y28f y28a y28b => ?_))
    obtain ⟨y28c, y28d, y28k⟩ := y28f
    refine dr_virt rfl rfl rfl rfl c26 (n_X8_noteAt l hl hI hM (a1 := a1) (by omega) (by omega) (a2 := y28) (by omega) (by omega) er eq hu hw au aw h35 as hr s0 s8) (by decide) (by decide) (by decide) (Nat.le_of_ble_eq_true rfl) kNP (kIP (fun y29 y29f y29a y29b => ?_))
    obtain ⟨y29c, y29d, y29n⟩ := y29f
    subst y29n
    exact dr_iret (ty := .int) rfl rfl rfl (by decide) (by decide) ⟨rfl, (σ.1 a1 y28), ⟨by omega, by omega, by rw [show a2 = 4 by omega]; unfold anBook; rw [if_neg (by decide), if_neg (by decide), if_neg (by decide), if_neg (by decide), if_pos rfl]; rw [dr_g y28k (hT a1 (by omega) (by omega)).choose_spec.choose_spec.choose_spec.1 (hT a1 (by omega) (by omega)).choose_spec.choose_spec.choose_spec.2 (by rw [← zF_eq (hT a1 (by omega) (by omega)).choose_spec.choose_spec.choose_spec.1, zF_eq hr]; omega)]⟩, by omega, by omega, rfl⟩
set_option maxHeartbeats 4000000 in
set_option maxRecDepth 100000 in
/-- EarlyendsModel.ofBook -/
theorem n_X8_ofBook (l : Launch) (hl : l.stackTraces = false) {kc km : Int} {h : dm_H} (hI : Inv kc km h) {th : Int} {σ : St} (hM : MSt km th σ h) {a1 : Int} (h1a : -2147483648 ≤ a1) (h1b : a1 ≤ 2147483647) {a2 : Int} (h2a : -2147483648 ≤ a2) (h2b : a2 ≤ 2147483647) (hT : sSt σ) : dm_M l 173 8 0 0 [.ref 26, dI (a1), dI (a2)] h (QM9 kc km h (spOfBook σ a1 a2)) := by
  obtain ⟨⟨ni, c26, ni0, ni1⟩, ⟨⟨R1, R2⟩, ⟨R3, R4⟩, ⟨R5, R6⟩, ⟨R7, R8⟩, ⟨R9, R10⟩, ⟨R11, R12⟩, R13⟩, ⟨th0, th1⟩, -⟩ := id hM
  have R14 : σ.2.2.2.2.2.1 = -1 ∨ (0 ≤ σ.2.2.2.2.2.1 ∧ σ.2.2.2.2.2.1 ≤ 9999 ∧ σ.2.2.2.2.2.1 % 100 ≤ σ.2.2.2.2.2.1 / 100) := R13
  refine dm_M_of dk_173 hl rfl (Nat.le_of_ble_eq_true rfl) ?_
  show dm_W (fun _ _ _ => True) (dm_P (QM9 kc km h (spOfBook σ a1 a2)) 0 0) l 173 8 0 0 0 [some (.ref 26), some (dI (a1)), some (dI (a2))] [] h 0 0
  refine di_aload_n rfl rfl ?_
  refine dr_iload_n rfl rfl ?_
  refine dr_stat rfl rfl rfl rfl (f_X8_isNoBook l hl hI (a0 := a1) (by omega) (by omega)) (by decide) (by decide) (by decide) (Nat.le_of_ble_eq_true rfl) kNP (kIP (fun y1 y1f y1a y1b => ?_))
  have y1g : 0 ≤ y1 ∧ y1 ≤ 1 ∧ (y1 = 0 → 0 ≤ a1 ∧ a1 ≤ 2) ∧ (y1 = 1 → a1 < 0 ∨ 2 < a1) := y1f
  clear y1f
  refine di_const rfl ?_
  rcases (by omega : y1 = 0 ∨ y1 = 1) with ey2 | ey2
  · skip
    rw [ey2]
    refine dr_virt rfl rfl rfl rfl c26 (f_X8_start0 l hl hI hM (a2 := 1) (by omega) (by omega)) (by decide) (by decide) (by decide) (Nat.le_of_ble_eq_true rfl) kNQN (kNQ (fun h3 hI4 hF5 hM6 => ?_))
    have hF7 := FrM_tr FrM_rf hF5
    refine di_if_ne rfl rfl (by omega) (by omega) (fun c9 => by exfalso; omega) (fun _ => ?_)
    refine di_aload_n rfl rfl ?_
    refine dr_iload_n rfl rfl ?_
    refine di_if_lt rfl rfl (by omega) (by omega) (fun c8 => ?_) (fun c8 => ?_)
    · skip
      refine di_const rfl ?_
      refine dr_goto rfl rfl ?_
      refine di_const rfl ?_
      obtain ⟨⟨ni10, ni10c, ni10a, ni10b⟩, -⟩ := id hM6
      refine dr_virt rfl rfl rfl rfl ni10c (f_X8_refuse1 l hl hI4 hM6 (a2 := 2) (by omega) (by omega)) (by decide) (by decide) (by decide) (Nat.le_of_ble_eq_true rfl) kNQN (kNQ (fun h11 hI12 hF13 hM14 => ?_))
      have hF15 := FrM_tr hF7 hF13
      refine di_if_eq rfl rfl (by omega) (by omega) (fun c9 => by exfalso; omega) (fun _ => ?_)
      refine di_const rfl ?_
      exact dr_iret (ty := .int) rfl rfl rfl (by decide) (by decide) (QM_no (x := 0) hI12 hF15 hM14 (by omega) (by omega) (by omega) (by unfold spOfBook; (repeat' split) <;> first | rfl | (exfalso; omega) | (apply Prod.ext <;> first | rfl | (dsimp only; omega) | (apply Prod.ext <;> first | rfl | (dsimp only; omega)))))
    · skip
      refine dr_iload_n rfl rfl ?_
      refine di_const rfl ?_
      refine di_icmp_le rfl rfl (by omega) (by omega) (by omega) (by omega) (fun c16 => ?_) (fun c16 => ?_)
      · skip
        refine di_const rfl ?_
        refine di_const rfl ?_
        obtain ⟨⟨ni17, ni17c, ni17a, ni17b⟩, -⟩ := id hM6
        refine dr_virt rfl rfl rfl rfl ni17c (f_X8_refuse0 l hl hI4 hM6 (a2 := 2) (by omega) (by omega)) (by decide) (by decide) (by decide) (Nat.le_of_ble_eq_true rfl) kNQN (kNQ (fun h18 hI19 hF20 hM21 => ?_))
        have hF22 := FrM_tr hF7 hF20
        refine di_if_eq rfl rfl (by omega) (by omega) (fun _ => ?_) (fun c9 => by exfalso; omega)
        refine di_aload_n rfl rfl ?_
        refine dr_iload_n rfl rfl ?_
        refine dr_iload_n rfl rfl ?_
        obtain ⟨⟨ni23, ni23c, ni23a, ni23b⟩, -⟩ := id hM21
        obtain ⟨r24, q25, u26, w27, us28, er29, eq30, hu31, hw32, au33, aw34, hs35, as36, hr37, sa38, sb39⟩ := MSt_bk hM21 (k := a1) (by omega) (by omega)
        have hz40 : zF (σ.1 a1) = cv us28 a1 := zF_eq hr37
        have mr41 : isCR r24 := isCR_of er29 (by omega) (by omega)
        have mq42 : isNR q25 := isNR_of eq30 (by omega) (by omega)
        refine dr_virt rfl rfl rfl rfl ni23c (n_X8_bookTold l hl hI19 hM21 (a1 := a1) (by omega) (by omega) (a2 := a2) (by omega) (by omega) er29 eq30 hu31 hw32 au33 aw34 hs35 as36 hr37 sa38 sb39 hT) (by decide) (by decide) (by decide) (Nat.le_of_ble_eq_true rfl) kNP (kIP (fun y43 y43f y43a y43b => ?_))
        obtain ⟨y43c, y43d, y43k⟩ := y43f
        have e9 : anBook (σ.1 a1) a2 = y43 := y43k.symm
        exact dr_iret (ty := .int) rfl rfl rfl (by decide) (by decide) (QM_ok hI19 hF22 hM21 (by omega) (by omega) (by unfold spOfBook; (try rw [e9]); (repeat' split) <;> first | rfl | (exfalso; omega) | (apply Prod.ext <;> first | rfl | (dsimp only; omega) | (apply Prod.ext <;> first | rfl | (dsimp only; omega)))))
      · skip
        refine di_const rfl ?_
        refine dr_goto rfl rfl ?_
        refine di_const rfl ?_
        obtain ⟨⟨ni44, ni44c, ni44a, ni44b⟩, -⟩ := id hM6
        refine dr_virt rfl rfl rfl rfl ni44c (f_X8_refuse1 l hl hI4 hM6 (a2 := 2) (by omega) (by omega)) (by decide) (by decide) (by decide) (Nat.le_of_ble_eq_true rfl) kNQN (kNQ (fun h45 hI46 hF47 hM48 => ?_))
        have hF49 := FrM_tr hF7 hF47
        refine di_if_eq rfl rfl (by omega) (by omega) (fun c9 => by exfalso; omega) (fun _ => ?_)
        refine di_const rfl ?_
        exact dr_iret (ty := .int) rfl rfl rfl (by decide) (by decide) (QM_no (x := 0) hI46 hF49 hM48 (by omega) (by omega) (by omega) (by unfold spOfBook; (repeat' split) <;> first | rfl | (exfalso; omega) | (apply Prod.ext <;> first | rfl | (dsimp only; omega) | (apply Prod.ext <;> first | rfl | (dsimp only; omega)))))
  · skip
    rw [ey2]
    refine dr_virt rfl rfl rfl rfl c26 (f_X8_start1 l hl hI hM (a2 := 1) (by omega) (by omega)) (by decide) (by decide) (by decide) (Nat.le_of_ble_eq_true rfl) kNQN (kNQ (fun h50 hI51 hF52 hM53 => ?_))
    have hF54 := FrM_tr FrM_rf hF52
    refine di_if_ne rfl rfl (by omega) (by omega) (fun _ => ?_) (fun c9 => by exfalso; omega)
    refine di_const rfl ?_
    exact dr_iret (ty := .int) rfl rfl rfl (by decide) (by decide) (QM_no (x := 0) hI51 hF54 hM53 (by omega) (by omega) (by omega) (by unfold spOfBook; (repeat' split) <;> first | rfl | (exfalso; omega) | (apply Prod.ext <;> first | rfl | (dsimp only; omega) | (apply Prod.ext <;> first | rfl | (dsimp only; omega)))))
set_option maxHeartbeats 4000000 in
set_option maxRecDepth 100000 in
/-- EarlyendsModel.partTold -/
theorem n_X8_partTold (l : Launch) (hl : l.stackTraces = false) {kc km : Int} {h : dm_H} (hI : Inv kc km h) {th : Int} {σ : St} (hM : MSt km th σ h) {a1 : Int} (h1a : 0 ≤ a1) (h1b : a1 ≤ 5) (hp0 : 0 ≤ σ.2.1.1) : dm_M l 165 2 0 0 [.ref 26, dI (a1)] h (QP h (RI (fun x => -1 ≤ x ∧ x ≤ 9999 ∧ x = anPart σ a1)) []) := by
  obtain ⟨⟨ni, c26, ni0, ni1⟩, ⟨⟨R1, R2⟩, ⟨R3, R4⟩, ⟨R5, R6⟩, ⟨R7, R8⟩, ⟨R9, R10⟩, ⟨R11, R12⟩, R13⟩, ⟨th0, th1⟩, -⟩ := id hM
  have R14 : σ.2.2.2.2.2.1 = -1 ∨ (0 ≤ σ.2.2.2.2.2.1 ∧ σ.2.2.2.2.2.1 ≤ 9999 ∧ σ.2.2.2.2.2.1 % 100 ≤ σ.2.2.2.2.2.1 / 100) := R13
  refine dm_M_of dk_165 hl rfl (Nat.le_of_ble_eq_true rfl) ?_
  show dm_W (fun _ _ _ => True) (dm_P (QP h (RI (fun x => -1 ≤ x ∧ x ≤ 9999 ∧ x = anPart σ a1)) []) 0 0) l 165 2 0 0 0 [some (.ref 26), some (dI (a1))] [] h 0 0
  refine dr_iload_n rfl rfl ?_
  rcases (by omega : (a1 < 0 ∨ 3 < a1) ∨ a1 = 0 ∨ a1 = 1 ∨ a1 = 2 ∨ a1 = 3) with c1 | c1 | c1 | c1 | c1
  · skip
    refine di_tabOut rfl (by omega) (by omega) c1 rfl ?_
    refine di_aload_n rfl rfl ?_
    refine dr_iload_n rfl rfl ?_
    refine di_const rfl ?_
    refine di_icmp_ne rfl rfl (by omega) (by omega) (by omega) (by omega) (fun c2 => ?_) (fun c2 => ?_)
    · skip
      refine di_const rfl ?_
      refine dr_virt rfl rfl rfl rfl c26 (n_X8_partEnd l hl hI hM (a1 := 0) (by omega) (by omega) (show (0 : Int) ≤ σ.2.1.1 by omega)) (by decide) (by decide) (by decide) (Nat.le_of_ble_eq_true rfl) kNP (kIP (fun y3 y3f y3a y3b => ?_))
      obtain ⟨y3c, y3d, y3k⟩ := y3f
      obtain ⟨y3o, y3k⟩ := y3k
      exact dr_iret (ty := .int) rfl rfl rfl (by decide) (by decide) ⟨rfl, y3, ⟨by omega, by omega, by rw [show a1 = 4 by omega]; unfold anPart; rw [if_neg (by decide), if_neg (by decide), if_neg (by decide), if_neg (by decide), if_pos rfl]; exact y3k.2 (by decide)⟩, by omega, by omega, rfl⟩
    · skip
      refine di_const rfl ?_
      refine dr_goto rfl rfl ?_
      refine dr_virt rfl rfl rfl rfl c26 (n_X8_partEnd l hl hI hM (a1 := 1) (by omega) (by omega) (show (0 : Int) ≤ σ.2.1.1 by omega)) (by decide) (by decide) (by decide) (Nat.le_of_ble_eq_true rfl) kNP (kIP (fun y4 y4f y4a y4b => ?_))
      obtain ⟨y4c, y4d, y4k⟩ := y4f
      obtain ⟨y4o, y4k⟩ := y4k
      exact dr_iret (ty := .int) rfl rfl rfl (by decide) (by decide) ⟨rfl, y4, ⟨by omega, by omega, by rw [show a1 = 5 by omega]; unfold anPart; rw [if_neg (by decide), if_neg (by decide), if_neg (by decide), if_neg (by decide), if_neg (by decide)]; exact y4k.1 rfl⟩, by omega, by omega, rfl⟩
  · skip
    refine di_tabIn 0 rfl (by omega) (by omega) (by omega) (by omega) rfl rfl ?_
    refine di_aload_n rfl rfl ?_
    refine dr_getf rfl c26 rfl ?_
    exact dr_iret (ty := .int) rfl rfl rfl (by decide) (by decide) ⟨rfl, σ.2.1.1, ⟨by omega, by omega, by rw [show a1 = 0 by omega]; unfold anPart; rw [if_pos rfl]⟩, by omega, by omega, rfl⟩
  · skip
    refine di_tabIn 1 rfl (by omega) (by omega) (by omega) (by omega) rfl rfl ?_
    refine di_aload_n rfl rfl ?_
    refine dr_getf rfl c26 rfl ?_
    exact dr_iret (ty := .int) rfl rfl rfl (by decide) (by decide) ⟨rfl, σ.2.1.2.1, ⟨by omega, by omega, by rw [show a1 = 1 by omega]; unfold anPart; rw [if_neg (by decide), if_pos rfl]⟩, by omega, by omega, rfl⟩
  · skip
    refine di_tabIn 2 rfl (by omega) (by omega) (by omega) (by omega) rfl rfl ?_
    refine di_aload_n rfl rfl ?_
    refine dr_getf rfl c26 rfl ?_
    exact dr_iret (ty := .int) rfl rfl rfl (by decide) (by decide) ⟨rfl, σ.2.1.2.2, ⟨by omega, by omega, by rw [show a1 = 2 by omega]; unfold anPart; rw [if_neg (by decide), if_neg (by decide), if_pos rfl]⟩, by omega, by omega, rfl⟩
  · skip
    refine di_tabIn 3 rfl (by omega) (by omega) (by omega) (by omega) rfl rfl ?_
    refine di_aload_n rfl rfl ?_
    refine dr_virt rfl rfl rfl rfl c26 (n_X8_partSize l hl hI hM  (show (0 : Int) ≤ σ.2.1.1 by omega)) (by decide) (by decide) (by decide) (Nat.le_of_ble_eq_true rfl) kNP (kIP (fun y5 y5f y5a y5b => ?_))
    obtain ⟨y5c, y5d, y5k⟩ := y5f
    subst y5k
    exact dr_iret (ty := .int) rfl rfl rfl (by decide) (by decide) ⟨rfl, (nP σ), ⟨by omega, by omega, by rw [show a1 = 3 by omega]; unfold anPart; rw [if_neg (by decide), if_neg (by decide), if_neg (by decide), if_pos rfl]⟩, by omega, by omega, rfl⟩
set_option maxHeartbeats 4000000 in
set_option maxRecDepth 100000 in
/-- EarlyendsModel.ofPart -/
theorem n_X8_ofPart (l : Launch) (hl : l.stackTraces = false) {kc km : Int} {h : dm_H} (hI : Inv kc km h) {th : Int} {σ : St} (hM : MSt km th σ h) {a1 : Int} (h1a : -2147483648 ≤ a1) (h1b : a1 ≤ 2147483647) : dm_M l 166 8 0 0 [.ref 26, dI (a1)] h (QM9 kc km h (spOfPart σ a1)) := by
  obtain ⟨⟨ni, c26, ni0, ni1⟩, ⟨⟨R1, R2⟩, ⟨R3, R4⟩, ⟨R5, R6⟩, ⟨R7, R8⟩, ⟨R9, R10⟩, ⟨R11, R12⟩, R13⟩, ⟨th0, th1⟩, -⟩ := id hM
  have R14 : σ.2.2.2.2.2.1 = -1 ∨ (0 ≤ σ.2.2.2.2.2.1 ∧ σ.2.2.2.2.2.1 ≤ 9999 ∧ σ.2.2.2.2.2.1 % 100 ≤ σ.2.2.2.2.2.1 / 100) := R13
  refine dm_M_of dk_166 hl rfl (Nat.le_of_ble_eq_true rfl) ?_
  show dm_W (fun _ _ _ => True) (dm_P (QM9 kc km h (spOfPart σ a1)) 0 0) l 166 8 0 0 0 [some (.ref 26), some (dI (a1))] [] h 0 0
  refine di_aload_n rfl rfl ?_
  refine dr_iload_n rfl rfl ?_
  refine di_if_lt rfl rfl (by omega) (by omega) (fun c1 => ?_) (fun c1 => ?_)
  · skip
    refine di_const rfl ?_
    refine dr_goto rfl rfl ?_
    refine di_const rfl ?_
    refine dr_virt rfl rfl rfl rfl c26 (f_X8_start1 l hl hI hM (a2 := 1) (by omega) (by omega)) (by decide) (by decide) (by decide) (Nat.le_of_ble_eq_true rfl) kNQN (kNQ (fun h2 hI3 hF4 hM5 => ?_))
    have hF6 := FrM_tr FrM_rf hF4
    refine di_if_ne rfl rfl (by omega) (by omega) (fun _ => ?_) (fun c9 => by exfalso; omega)
    refine di_const rfl ?_
    exact dr_iret (ty := .int) rfl rfl rfl (by decide) (by decide) (QM_no (x := 0) hI3 hF6 hM5 (by omega) (by omega) (by omega) (by unfold spOfPart; (repeat' split) <;> first | rfl | (exfalso; omega) | (apply Prod.ext <;> first | rfl | (dsimp only; omega) | (apply Prod.ext <;> first | rfl | (dsimp only; omega)))))
  · skip
    refine dr_iload_n rfl rfl ?_
    refine di_const rfl ?_
    refine di_icmp_le rfl rfl (by omega) (by omega) (by omega) (by omega) (fun c7 => ?_) (fun c7 => ?_)
    · skip
      refine di_const rfl ?_
      refine di_const rfl ?_
      refine dr_virt rfl rfl rfl rfl c26 (f_X8_start0 l hl hI hM (a2 := 1) (by omega) (by omega)) (by decide) (by decide) (by decide) (Nat.le_of_ble_eq_true rfl) kNQN (kNQ (fun h8 hI10 hF11 hM12 => ?_))
      have hF13 := FrM_tr FrM_rf hF11
      refine di_if_ne rfl rfl (by omega) (by omega) (fun c9 => by exfalso; omega) (fun _ => ?_)
      refine di_aload_n rfl rfl ?_
      refine di_aload_n rfl rfl ?_
      obtain ⟨⟨ni14, ni14c, ni14a, ni14b⟩, -⟩ := id hM12
      refine dr_getf rfl ni14c rfl ?_
      refine di_const rfl ?_
      refine di_icmp_ne rfl rfl (by omega) (by omega) (by omega) (by omega) (fun c15 => ?_) (fun c15 => ?_)
      · skip
        refine di_const rfl ?_
        refine di_const rfl ?_
        refine dr_virt rfl rfl rfl rfl ni14c (f_X8_refuse0 l hl hI10 hM12 (a2 := 2) (by omega) (by omega)) (by decide) (by decide) (by decide) (Nat.le_of_ble_eq_true rfl) kNQN (kNQ (fun h16 hI17 hF18 hM19 => ?_))
        have hF20 := FrM_tr hF13 hF18
        refine di_if_eq rfl rfl (by omega) (by omega) (fun _ => ?_) (fun c9 => by exfalso; omega)
        refine di_aload_n rfl rfl ?_
        refine dr_iload_n rfl rfl ?_
        obtain ⟨⟨ni21, ni21c, ni21a, ni21b⟩, -⟩ := id hM19
        refine dr_virt rfl rfl rfl rfl ni21c (n_X8_partTold l hl hI17 hM19 (a1 := a1) (by omega) (by omega) (show (0 : Int) ≤ σ.2.1.1 by omega)) (by decide) (by decide) (by decide) (Nat.le_of_ble_eq_true rfl) kNP (kIP (fun y22 y22f y22a y22b => ?_))
        obtain ⟨y22c, y22d, y22k⟩ := y22f
        have e9 : anPart σ a1 = y22 := y22k.symm
        exact dr_iret (ty := .int) rfl rfl rfl (by decide) (by decide) (QM_ok hI17 hF20 hM19 (by omega) (by omega) (by unfold spOfPart; (try rw [e9]); (repeat' split) <;> first | rfl | (exfalso; omega) | (apply Prod.ext <;> first | rfl | (dsimp only; omega) | (apply Prod.ext <;> first | rfl | (dsimp only; omega)))))
      · skip
        refine di_const rfl ?_
        refine dr_goto rfl rfl ?_
        refine di_const rfl ?_
        refine dr_virt rfl rfl rfl rfl ni14c (f_X8_refuse1 l hl hI10 hM12 (a2 := 2) (by omega) (by omega)) (by decide) (by decide) (by decide) (Nat.le_of_ble_eq_true rfl) kNQN (kNQ (fun h23 hI24 hF25 hM26 => ?_))
        have hF27 := FrM_tr hF13 hF25
        refine di_if_eq rfl rfl (by omega) (by omega) (fun c9 => by exfalso; omega) (fun _ => ?_)
        refine di_const rfl ?_
        exact dr_iret (ty := .int) rfl rfl rfl (by decide) (by decide) (QM_no (x := 0) hI24 hF27 hM26 (by omega) (by omega) (by omega) (by unfold spOfPart; (repeat' split) <;> first | rfl | (exfalso; omega) | (apply Prod.ext <;> first | rfl | (dsimp only; omega) | (apply Prod.ext <;> first | rfl | (dsimp only; omega)))))
    · skip
      refine di_const rfl ?_
      refine dr_goto rfl rfl ?_
      refine di_const rfl ?_
      refine dr_virt rfl rfl rfl rfl c26 (f_X8_start1 l hl hI hM (a2 := 1) (by omega) (by omega)) (by decide) (by decide) (by decide) (Nat.le_of_ble_eq_true rfl) kNQN (kNQ (fun h28 hI29 hF30 hM31 => ?_))
      have hF32 := FrM_tr FrM_rf hF30
      refine di_if_ne rfl rfl (by omega) (by omega) (fun _ => ?_) (fun c9 => by exfalso; omega)
      refine di_const rfl ?_
      exact dr_iret (ty := .int) rfl rfl rfl (by decide) (by decide) (QM_no (x := 0) hI29 hF32 hM31 (by omega) (by omega) (by omega) (by unfold spOfPart; (repeat' split) <;> first | rfl | (exfalso; omega) | (apply Prod.ext <;> first | rfl | (dsimp only; omega) | (apply Prod.ext <;> first | rfl | (dsimp only; omega)))))
/-! ===== sets of ranks as bits ===== -/
def orI (a b : Int) : Int := ((a.toNat ||| b.toNat : Nat) : Int)
def andI (a b : Int) : Int := ((a.toNat &&& b.toNat : Nat) : Int)
def pwI (r : Int) : Int := ((2 ^ r.toNat : Nat) : Int)
theorem or_i {a b : Int} (ha : 0 ≤ a) (hb : 0 ≤ b) : Int32.ofInt a ||| Int32.ofInt b = Int32.ofInt (orI a b) := by
  obtain ⟨n, rfl⟩ := Int.eq_ofNat_of_zero_le ha
  obtain ⟨m, rfl⟩ := Int.eq_ofNat_of_zero_le hb
  show Int32.ofInt (n : Int) ||| Int32.ofInt (m : Int) = Int32.ofInt ((n ||| m : Nat) : Int)
  apply Int32.toBitVec_inj.mp
  simp only [Int32.toBitVec_or, Int32.toBitVec_ofInt, BitVec.ofInt_natCast, BitVec.ofNat_or]
theorem and_i {a b : Int} (ha : 0 ≤ a) (hb : 0 ≤ b) : Int32.ofInt a &&& Int32.ofInt b = Int32.ofInt (andI a b) := by
  obtain ⟨n, rfl⟩ := Int.eq_ofNat_of_zero_le ha
  obtain ⟨m, rfl⟩ := Int.eq_ofNat_of_zero_le hb
  show Int32.ofInt (n : Int) &&& Int32.ofInt (m : Int) = Int32.ofInt ((n &&& m : Nat) : Int)
  apply Int32.toBitVec_inj.mp
  simp only [Int32.toBitVec_and, Int32.toBitVec_ofInt, BitVec.ofInt_natCast, BitVec.ofNat_and]
theorem orI_b {a b : Int} (a0 : 0 ≤ a) (a1 : a ≤ 255) (b0 : 0 ≤ b) (b1 : b ≤ 255) : 0 ≤ orI a b ∧ orI a b ≤ 255 := by
  have h := Nat.or_lt_two_pow (x := a.toNat) (y := b.toNat) (n := 8) (by omega) (by omega)
  unfold orI
  omega
theorem andI_b {a b : Int} (a1 : a ≤ 255) : 0 ≤ andI a b ∧ andI a b ≤ 255 := by
  have h : a.toNat &&& b.toNat ≤ a.toNat := Nat.and_le_left
  unfold andI
  omega
theorem pwI_b {r : Int} (h0 : 0 ≤ r) (h1 : r ≤ 7) : 1 ≤ pwI r ∧ pwI r ≤ 128 := by
  rcases (by omega : r = 0 ∨ r = 1 ∨ r = 2 ∨ r = 3 ∨ r = 4 ∨ r = 5 ∨ r = 6 ∨ r = 7) with rfl | rfl | rfl | rfl | rfl | rfl | rfl | rfl <;> decide
theorem pwI_8 {r : Int} (h0 : 0 ≤ r) (h1 : r ≤ 8) : 1 ≤ pwI r ∧ pwI r ≤ 256 := by
  rcases (by omega : r = 8 ∨ r ≤ 7) with rfl | h
  · decide
  · have := pwI_b h0 h; omega
section BITR
variable {E : dm_Ex} {P : dm_Po} {l : Launch} {z d MC MS pc ce sl : Nat} {ls : List (Option Value)} {st : List Value} {h : dm_H}
theorem di_or {a b : Int} (hi : dm_at z pc = some (.ior, 1, [])) (a0 : 0 ≤ a) (a1 : a ≤ 255) (b0 : 0 ≤ b) (b1 : b ≤ 255) (kk : ∀ x : Int, 0 ≤ x → x ≤ 255 → x = orI a b → dm_W E P l z d MC MS (pc + 1) ls (dI x :: st) h ce sl) : dm_W E P l z d MC MS pc ls (dI b :: dI a :: st) h ce sl := dr_ior hi (or_i a0 b0) (kk _ (orI_b a0 a1 b0 b1).1 (orI_b a0 a1 b0 b1).2 rfl)
theorem di_and {a b : Int} (hi : dm_at z pc = some (.iand, 1, [])) (a0 : 0 ≤ a) (a1 : a ≤ 255) (b0 : 0 ≤ b) (kk : ∀ x : Int, 0 ≤ x → x ≤ 255 → x = andI a b → dm_W E P l z d MC MS (pc + 1) ls (dI x :: st) h ce sl) : dm_W E P l z d MC MS pc ls (dI b :: dI a :: st) h ce sl := dr_iand hi (and_i a0 b0) (kk _ (andI_b a1).1 (andI_b a1).2 rfl)
theorem di_shl8 {r : Int} (hi : dm_at z pc = some (.ishl, 1, [])) (h0 : 0 ≤ r) (h1 : r ≤ 8) (kk : ∀ x : Int, 1 ≤ x → x ≤ 256 → x = pwI r → dm_W E P l z d MC MS (pc + 1) ls (dI x :: st) h ce sl) : dm_W E P l z d MC MS pc ls (dI r :: dI 1 :: st) h ce sl := di_shl1 hi h0 h1 (fun x a b e => kk x a b (e.trans (by rcases (by omega : r = 0 ∨ r = 1 ∨ r = 2 ∨ r = 3 ∨ r = 4 ∨ r = 5 ∨ r = 6 ∨ r = 7 ∨ r = 8) with rfl | rfl | rfl | rfl | rfl | rfl | rfl | rfl | rfl <;> rfl)))
theorem di_shl7 {r : Int} (hi : dm_at z pc = some (.ishl, 1, [])) (h0 : 0 ≤ r) (h1 : r ≤ 7) (kk : ∀ x : Int, 1 ≤ x → x ≤ 128 → x = pwI r → dm_W E P l z d MC MS (pc + 1) ls (dI x :: st) h ce sl) : dm_W E P l z d MC MS pc ls (dI r :: dI 1 :: st) h ce sl := di_shl8 hi h0 (by omega) (fun x a b e => kk x a (by have := (pwI_b h0 h1).2; omega) e)
end BITR
/-- rank r is in the set S -/
def hbt (S r : Int) : Prop := S.toNat.testBit r.toNat = true
theorem bb_s {S r : Int} (h0 : 0 ≤ r) : (bb S (r + 1) = bb S r + 1 ∧ hbt S r) ∨ (bb S (r + 1) = bb S r ∧ ¬ hbt S r) := by
  have k : bbN S.toNat (r.toNat + 1) = bbN S.toNat r.toNat + S.toNat / 2 ^ r.toNat % 2 := rfl
  unfold bb hbt
  rw [show (r + 1).toNat = r.toNat + 1 by omega, Nat.testBit_eq_decide_div_mod_eq, k]
  rcases Nat.mod_two_eq_zero_or_one (S.toNat / 2 ^ r.toNat) with e | e
  · rw [e]; exact Or.inr ⟨by omega, by decide⟩
  · rw [e]; exact Or.inl ⟨by omega, by decide⟩
def sB (S : Int) (Q : Int → Prop) : Prop := (0 ≤ S ∧ S ≤ 255) ∧ ∀ r : Int, 0 ≤ r → r ≤ 7 → (hbt S r ↔ Q r)
section SB
variable {S T x w n s A : Int} {Q R H : Int → Prop} {f : Int → Int}
theorem sB_uq (a : sB S Q) (b : sB T Q) : S = T := by
  have e : S.toNat = T.toNat := by
    apply Nat.eq_of_testBit_eq
    intro i
    by_cases q : i < 8
    · have h3 : hbt S i ↔ hbt T i := (a.2 (i : Int) (by omega) (by omega)).trans (b.2 (i : Int) (by omega) (by omega)).symm
      unfold hbt at h3
      rw [Int.toNat_natCast] at h3
      exact Bool.eq_iff_iff.mpr h3
    · have p : 2 ^ 8 ≤ 2 ^ i := Nat.pow_le_pow_right (by decide) (by omega)
      have h1 := a.1
      have h2 := b.1
      rw [Nat.testBit_lt_two_pow (Nat.lt_of_lt_of_le (show S.toNat < 2 ^ 8 by omega) p), Nat.testBit_lt_two_pow (Nat.lt_of_lt_of_le (show T.toNat < 2 ^ 8 by omega) p)]
  have h1 := a.1
  have h2 := b.1
  omega
theorem sB_cg (a : sB S Q) (h : ∀ r : Int, 0 ≤ r → r ≤ 7 → (Q r ↔ R r)) : sB S R := ⟨a.1, fun r r0 r1 => (a.2 r r0 r1).trans (h r r0 r1)⟩
theorem sB_0 : sB 0 (fun _ => False) := ⟨by decide, fun r _ _ => by unfold hbt; simp⟩
theorem sB_or (a : sB S Q) (b : sB T R) : sB (orI S T) (fun r => Q r ∨ R r) := ⟨orI_b a.1.1 a.1.2 b.1.1 b.1.2, fun r r0 r1 => by
  have e : (orI S T).toNat.testBit r.toNat = (S.toNat.testBit r.toNat || T.toNat.testBit r.toNat) := by unfold orI; rw [Int.toNat_natCast, Nat.testBit_or]
  unfold hbt
  rw [e, Bool.or_eq_true]
  exact or_congr (a.2 r r0 r1) (b.2 r r0 r1)⟩
theorem sB_and (a : sB S Q) (b : sB T R) : sB (andI S T) (fun r => Q r ∧ R r) := ⟨andI_b a.1.2, fun r r0 r1 => by
  have e : (andI S T).toNat.testBit r.toNat = (S.toNat.testBit r.toNat && T.toNat.testBit r.toNat) := by unfold andI; rw [Int.toNat_natCast, Nat.testBit_and]
  unfold hbt
  rw [e, Bool.and_eq_true]
  exact and_congr (a.2 r r0 r1) (b.2 r r0 r1)⟩
theorem sB_pw (h0 : 0 ≤ n) (h1 : n ≤ 7) : sB (pwI n) (fun r => r = n) := ⟨by have := pwI_b h0 h1; omega, fun r r0 r1 => by
  have e : (pwI n).toNat.testBit r.toNat = decide (n.toNat = r.toNat) := by unfold pwI; rw [Int.toNat_natCast, Nat.testBit_two_pow]
  unfold hbt
  rw [e, decide_eq_true_iff]
  omega⟩
theorem sB_self (h0 : 0 ≤ S) (h1 : S ≤ 255) : sB S (hbt S) := ⟨⟨h0, h1⟩, fun r _ _ => Iff.rfl⟩
/-- the ranks below n that are so -/
def hsP (S n : Int) (H : Int → Prop) : Prop := sB S (fun r => r < n ∧ H r)
theorem hs_0 : hsP 0 0 H := sB_cg sB_0 (fun r r0 r1 => ⟨fun h => h.elim, fun h => by have := h.1; omega⟩)
theorem hs_y (h : hsP S n H) (n0 : 0 ≤ n) (n7 : n ≤ 7) (hH : H n) (ew : w = pwI n) (ex : x = orI S w) : hsP x (n + 1) H := by
  subst ew; subst ex
  refine sB_cg (sB_or h (sB_pw n0 n7)) (fun r r0 r1 => ⟨fun q => ?_, fun q => ?_⟩)
  · rcases q with q | q
    · exact ⟨by have := q.1; omega, q.2⟩
    · rw [q]; exact ⟨by omega, hH⟩
  · by_cases e : r = n
    · exact Or.inr e
    · exact Or.inl ⟨by have := q.1; omega, q.2⟩
theorem hs_n (h : hsP S n H) (hH : ¬ H n) : hsP S (n + 1) H := by
  refine sB_cg h (fun r r0 r1 => ⟨fun q => ⟨by have := q.1; omega, q.2⟩, fun q => ⟨?_, q.2⟩⟩)
  by_cases e : r = n
  · rw [e] at q; exact absurd q.2 hH
  · have := q.1; omega
def heP (S n s : Int) (f : Int → Int) (A : Int) : Prop := sB S (fun r => r < s ∧ ∃ k : Int, 0 ≤ k ∧ k < n ∧ hbt A k ∧ f r % 100 ≤ f k / 100 ∧ f k / 100 ≤ f r / 100)
theorem he_0 : heP 0 0 s f A := sB_cg sB_0 (fun r r0 r1 => ⟨fun h => h.elim, fun ⟨_, k, k0, k1, _⟩ => by omega⟩)
theorem he_y {y : Int} (h : heP S n s f A) (n0 : 0 ≤ n) (hA : hbt A n) (hT : hsP T s (fun r => f r % 100 ≤ y ∧ y ≤ f r / 100)) (ey : y = f n / 100) (ex : x = orI S T) : heP x (n + 1) s f A := by
  subst ex; subst ey
  refine sB_cg (sB_or h hT) (fun r r0 r1 => ⟨fun q => ?_, fun q => ?_⟩)
  · rcases q with ⟨q1, k, k0, k1, k2⟩ | ⟨q1, q2⟩
    · exact ⟨q1, k, k0, by omega, k2⟩
    · exact ⟨q1, n, n0, by omega, hA, q2⟩
  · obtain ⟨q1, k, k0, k1, k2, k3⟩ := q
    by_cases e : k = n
    · rw [e] at k3; exact Or.inr ⟨q1, k3⟩
    · exact Or.inl ⟨q1, k, k0, by omega, k2, k3⟩
theorem he_n (h : heP S n s f A) (hA : ¬ hbt A n) : heP S (n + 1) s f A := by
  refine sB_cg h (fun r r0 r1 => ⟨fun ⟨q1, k, k0, k1, k2⟩ => ⟨q1, k, k0, by omega, k2⟩, fun ⟨q1, k, k0, k1, k2⟩ => ⟨q1, k, k0, ?_, k2⟩⟩)
  by_cases e : k = n
  · rw [e] at k2; exact absurd k2.1 hA
  · omega
/-- a set of spans that lie apart -/
def apt (f : Int → Int) (s A : Int) : Prop := ∀ r k : Int, 0 ≤ r → r < s → 0 ≤ k → k < s → hbt A r → hbt A k → r ≠ k → ¬ (f k % 100 ≤ f r / 100 ∧ f r % 100 ≤ f k / 100)
def chP (n : Int) (f : Int → Int) (s A : Int) : Prop := ∀ r k : Int, 0 ≤ r → r < n → 0 ≤ k → k < s → hbt A r → hbt A k → r ≠ k → ¬ (f k % 100 ≤ f r / 100 ∧ f r % 100 ≤ f k / 100)
theorem ch_0 : chP 0 f s A := fun r k r0 r1 => by omega
theorem ch_n (h : chP n f s A) (hA : ¬ hbt A n) : chP (n + 1) f s A := fun r k r0 r1 k0 k1 ar ak ne => by
  by_cases e : r = n
  · rw [e] at ar; exact absurd ar hA
  · exact h r k r0 (by omega) k0 k1 ar ak ne
theorem ch_y {m : Int} (h : chP n f s A) (n0 : 0 ≤ n) (n7 : n ≤ 7) (s8 : s ≤ 8) (A0 : 0 ≤ A) (A1 : A ≤ 255) (hm : hsP m s (fun r => f r % 100 ≤ f n / 100 ∧ f n % 100 ≤ f r / 100)) (ex : x = andI m A) (ew : w = pwI n) (e : x = w) : chP (n + 1) f s A := fun r k r0 r1 k0 k1 ar ak ne hmt => by
  by_cases q : r = n
  · subst q
    have h1 := sB_and hm (sB_self A0 A1)
    rw [← ex, e, ew] at h1
    exact ne (((sB_pw n0 n7).2 k k0 (by omega)).mp ((h1.2 k k0 (by omega)).mpr ⟨⟨k1, hmt⟩, ak⟩)).symm
  · exact h r k r0 (by omega) k0 k1 ar ak ne hmt
theorem ch_x {m : Int} (n0 : 0 ≤ n) (n7 : n ≤ 7) (ns : n < s) (A0 : 0 ≤ A) (A1 : A ≤ 255) (hA : hbt A n) (hf : f n % 100 ≤ f n / 100) (hm : hsP m s (fun r => f r % 100 ≤ f n / 100 ∧ f n % 100 ≤ f r / 100)) (ex : x = andI m A) (ew : w = pwI n) (e : x ≠ w) : ¬ apt f s A := fun ha => by
  refine e ?_
  have h1 := sB_and hm (sB_self A0 A1)
  rw [← ex] at h1
  rw [ew]
  refine sB_uq h1 (sB_cg (sB_pw n0 n7) (fun r r0 r1 => ⟨fun q => ?_, fun q => ?_⟩))
  · rw [q]; exact ⟨⟨ns, hf, hf⟩, hA⟩
  · refine Classical.byContradiction fun ne => ?_
    exact ha n r n0 ns r0 q.1.1 hA q.2 (fun z => ne z.symm) q.1.2
theorem ch_e (h : chP n f s A) (e : n = s) : apt f s A := by subst e; exact h
theorem apt_cg {f' : Int → Int} (h : ∀ j : Int, 0 ≤ j → j < s → f j = f' j) (a : apt f s A) : apt f' s A := fun r k r0 r1 k0 k1 ar ak ne => by
  rw [← h r r0 r1, ← h k k0 k1]; exact a r k r0 r1 k0 k1 ar ak ne
end SB
/-- the code of a rank -/
noncomputable def cR (F : Int → Int) (r : Int) : Int := Classical.epsilon (fun x : Int => rkC F r x)
section CR
variable {f g F : Int → Int} {s A p S : Int}
theorem cR_eq (hr : Rep f g s F) (ht : Srt f s) {j : Int} (j0 : 0 ≤ j) (j1 : j < s) : cR F j = f j := by
  have k : rkC F j (f j) := rkC_y (Rep_yes hr j0 j1 rfl).2.1 (rk_srt hr ht j0 j1)
  exact (rkC_s (Classical.epsilon_spec (p := fun x : Int => rkC F j x) ⟨_, k⟩) hr ht).1 j0 j1
noncomputable def anHold (F : Int → Int) (p : Int) : Int := Classical.epsilon (fun S : Int => hsP S (zF F) (fun r => cR F r % 100 ≤ p ∧ p ≤ cR F r / 100))
theorem hold_e (hr : Rep f g s F) (ht : Srt f s) (h : hsP S s (fun r => f r % 100 ≤ p ∧ p ≤ f r / 100)) : anHold F p = S := by
  have h2 : hsP S (zF F) (fun r => cR F r % 100 ≤ p ∧ p ≤ cR F r / 100) := by
    rw [zF_eq hr]
    refine sB_cg h (fun r r0 r1 => ⟨fun q => ⟨q.1, ?_⟩, fun q => ⟨q.1, ?_⟩⟩)
    · show cR F r % 100 ≤ p ∧ p ≤ cR F r / 100
      rw [cR_eq hr ht r0 q.1]; exact q.2
    · have k : cR F r % 100 ≤ p ∧ p ≤ cR F r / 100 := q.2
      rw [cR_eq hr ht r0 q.1] at k; exact k
  exact sB_uq (Classical.epsilon_spec (p := fun S : Int => hsP S (zF F) (fun r => cR F r % 100 ≤ p ∧ p ≤ cR F r / 100)) ⟨S, h2⟩) h2
noncomputable def anChoice (F : Int → Int) (A : Int) : Int := @ite Int (apt (cR F) (zF F) A) (Classical.propDecidable _) (bb A 8) (-1)
theorem cho_y (hr : Rep f g s F) (ht : Srt f s) (h : apt f s A) : anChoice F A = bb A 8 := @if_pos _ (Classical.propDecidable _) (by rw [zF_eq hr]; exact apt_cg (fun j j0 j1 => (cR_eq hr ht j0 j1).symm) h) Int (bb A 8) (-1)
theorem cho_n (hr : Rep f g s F) (ht : Srt f s) (h : ¬ apt f s A) : anChoice F A = -1 := @if_neg _ (Classical.propDecidable _) (by rw [zF_eq hr]; exact fun q => h (apt_cg (fun j j0 j1 => cR_eq hr ht j0 j1) q)) Int (bb A 8) (-1)
noncomputable def anUnheld (F : Int → Int) (A : Int) : Int := zF F - bb (Classical.epsilon (fun S : Int => heP S (zF F) (zF F) (cR F) A)) 8
theorem heP_cg {f' : Int → Int} (h : ∀ j : Int, 0 ≤ j → j < s → f j = f' j) (a : heP S s s f A) : heP S s s f' A := sB_cg a (fun r r0 r1 => ⟨fun ⟨q1, k, k0, k1, k2, k3⟩ => ⟨q1, k, k0, k1, k2, by rw [← h r r0 q1, ← h k k0 k1]; exact k3⟩, fun ⟨q1, k, k0, k1, k2, k3⟩ => ⟨q1, k, k0, k1, k2, by rw [h r r0 q1, h k k0 k1]; exact k3⟩⟩)
theorem unh_e (hr : Rep f g s F) (ht : Srt f s) (h : heP S s s f A) : anUnheld F A = s - bb S 8 := by
  have h2 : heP S (zF F) (zF F) (cR F) A := by rw [zF_eq hr]; exact heP_cg (fun j j0 j1 => (cR_eq hr ht j0 j1).symm) h
  have e := sB_uq (Classical.epsilon_spec (p := fun S : Int => heP S (zF F) (zF F) (cR F) A) ⟨S, h2⟩) h2
  unfold anUnheld
  rw [e, zF_eq hr]
end CR
noncomputable def spHolders (σ : St) (b p : Int) : Int × Int × St := if b < 0 ∨ 2 < b then (1, 0, σ) else if p < 0 ∨ 99 < p then (2, 0, σ) else (0, anHold (σ.1 b) p, σ)
noncomputable def spChoice (σ : St) (b A : Int) : Int × Int × St := if b < 0 ∨ 2 < b then (1, 0, σ) else if A < 0 ∨ pwI (zF (σ.1 b)) ≤ A then (2, 0, σ) else (0, anChoice (σ.1 b) A, σ)
noncomputable def spUnheld (σ : St) (b A : Int) : Int × Int × St := if b < 0 ∨ 2 < b then (1, 0, σ) else if A < 0 ∨ pwI (zF (σ.1 b)) ≤ A then (2, 0, σ) else (0, anUnheld (σ.1 b) A, σ)
/-! the JDK's bitCount -/
def sru (x k : Int32) : Int32 := (x.toUInt32 >>> (k.toUInt32 &&& Int32.toUInt32 31)).toInt32
def bc1 (x : Int32) : Int32 := x - (sru x (Int32.ofInt 1) &&& Int32.ofInt 1431655765)
def bc2 (x : Int32) : Int32 := (x &&& Int32.ofInt 858993459) + (sru x (Int32.ofInt 2) &&& Int32.ofInt 858993459)
def bc3 (x : Int32) : Int32 := (x + sru x (Int32.ofInt 4)) &&& Int32.ofInt 252645135
def bc4 (x : Int32) : Int32 := x + sru x (Int32.ofInt 8)
def bc5 (x : Int32) : Int32 := x + sru x (Int32.ofInt 16)
def bc6 (x : Int32) : Int32 := x &&& Int32.ofInt 63
theorem bc_all : ∀ n : Fin 256, bc6 (bc5 (bc4 (bc3 (bc2 (bc1 (Int32.ofInt n.val)))))) = Int32.ofInt ((bbN n.val 8 : Nat) : Int) := by decide +kernel
set_option maxRecDepth 100000 in
theorem f_bitCount (l : Launch) (hl : l.stackTraces = false) {h : dm_H} {a0 : Int} (h0a : 0 ≤ a0) (h0b : a0 ≤ 255) : dm_M l 240 0 0 0 [dI a0] h (QP h (RI (fun x => x = bb a0 8)) []) := by
  refine dm_M_of dk_240 hl rfl (Nat.le_of_ble_eq_true rfl) ?_
  show dm_W (fun _ _ _ => True) (dm_P (QP h (RI (fun x => x = bb a0 8)) []) 0 0) l 240 0 0 0 0 [some (dI a0)] [] h 0 0
  refine dr_iload_n rfl rfl ?_
  refine dr_iload_n rfl rfl ?_
  refine di_const rfl ?_
  refine dr_iushr rfl rfl ?_
  refine dr_ldcwI rfl (by decide +kernel) ?_
  refine dr_iand rfl rfl ?_
  refine dr_isub rfl rfl ?_
  refine dr_istore_n rfl rfl ?_
  show dm_W (fun _ _ _ => True) (dm_P (QP h (RI (fun x => x = bb a0 8)) []) 0 0) l 240 0 0 0 10 [some (.int (bc1 (Int32.ofInt a0)))] [] h 0 0
  generalize e1 : bc1 (Int32.ofInt a0) = x1
  refine dr_iload_n rfl rfl ?_
  refine dr_ldcwI rfl (by decide +kernel) ?_
  refine dr_iand rfl rfl ?_
  refine dr_iload_n rfl rfl ?_
  refine di_const rfl ?_
  refine dr_iushr rfl rfl ?_
  refine dr_ldcwI rfl (by decide +kernel) ?_
  refine dr_iand rfl rfl ?_
  refine dr_iadd rfl rfl ?_
  refine dr_istore_n rfl rfl ?_
  show dm_W (fun _ _ _ => True) (dm_P (QP h (RI (fun x => x = bb a0 8)) []) 0 0) l 240 0 0 0 24 [some (.int (bc2 x1))] [] h 0 0
  generalize e2 : bc2 x1 = x2
  refine dr_iload_n rfl rfl ?_
  refine dr_iload_n rfl rfl ?_
  refine di_const rfl ?_
  refine dr_iushr rfl rfl ?_
  refine dr_iadd rfl rfl ?_
  refine dr_ldcwI rfl (by decide +kernel) ?_
  refine dr_iand rfl rfl ?_
  refine dr_istore_n rfl rfl ?_
  show dm_W (fun _ _ _ => True) (dm_P (QP h (RI (fun x => x = bb a0 8)) []) 0 0) l 240 0 0 0 34 [some (.int (bc3 x2))] [] h 0 0
  generalize e3 : bc3 x2 = x3
  refine dr_iload_n rfl rfl ?_
  refine dr_iload_n rfl rfl ?_
  refine di_bipush rfl (by decide) ?_
  refine dr_iushr rfl rfl ?_
  refine dr_iadd rfl rfl ?_
  refine dr_istore_n rfl rfl ?_
  show dm_W (fun _ _ _ => True) (dm_P (QP h (RI (fun x => x = bb a0 8)) []) 0 0) l 240 0 0 0 41 [some (.int (bc4 x3))] [] h 0 0
  generalize e4 : bc4 x3 = x4
  refine dr_iload_n rfl rfl ?_
  refine dr_iload_n rfl rfl ?_
  refine di_bipush rfl (by decide) ?_
  refine dr_iushr rfl rfl ?_
  refine dr_iadd rfl rfl ?_
  refine dr_istore_n rfl rfl ?_
  show dm_W (fun _ _ _ => True) (dm_P (QP h (RI (fun x => x = bb a0 8)) []) 0 0) l 240 0 0 0 48 [some (.int (bc5 x4))] [] h 0 0
  refine dr_iload_n rfl rfl ?_
  refine di_bipush rfl (by decide) ?_
  refine dr_iand (v := bc6 (bc5 x4)) rfl rfl ?_
  obtain ⟨n, rfl⟩ := Int.eq_ofNat_of_zero_le h0a
  have k := bc_all ⟨n, by omega⟩
  have k : bc6 (bc5 (bc4 (bc3 (bc2 (bc1 (Int32.ofInt (n : Int))))))) = Int32.ofInt (bb (n : Int) 8) := k
  rw [e1, e2, e3, e4] at k
  rw [k]
  have b8 := bb_8 (s := (n : Int)) h0a h0b
  have b0 := bb_nn (n : Int) 8
  exact dr_iret (ty := .int) rfl rfl rfl (by decide) (by decide) ⟨rfl, bb (n : Int) 8, rfl, by omega, by omega, rfl⟩
set_option maxRecDepth 100000 in
theorem f_X6_isInSet (l : Launch) (hl : l.stackTraces = false) {kc km : Int} {h : dm_H} (hI : Inv kc km h) {a0 : Int} (h0a : 0 ≤ a0) (h0b : a0 ≤ 255) {a1 : Int} (h1a : 0 ≤ a1) (h1b : a1 ≤ 7) : dm_M l 123 0 0 0 [dI (a0), dI (a1)] h (QP h (RI (fun x => 0 ≤ x ∧ x ≤ 1 ∧ (x = 1 → hbt a0 a1) ∧ (x = 0 → ¬ hbt a0 a1))) []) := by
  refine dm_M_of dk_123 hl rfl (Nat.le_of_ble_eq_true rfl) ?_
  show dm_W (fun _ _ _ => True) (dm_P (QP h (RI (fun x => 0 ≤ x ∧ x ≤ 1 ∧ (x = 1 → hbt a0 a1) ∧ (x = 0 → ¬ hbt a0 a1))) []) 0 0) l 123 0 0 0 0 [some (dI (a0)), some (dI (a1))] [] h 0 0
  refine dr_iload_n rfl rfl ?_
  refine dr_iload_n rfl rfl ?_
  refine dB_shr rfl (by omega) (by omega) (by omega) (by omega) (fun x1 x1a x1b x1e => ?_)
  refine di_const rfl ?_
  refine dB_and rfl (by omega) (by omega) ?_
  refine di_const rfl ?_
  have q9 := bb_s (S := a0) (r := a1) h1a
  refine di_icmp_ne rfl rfl (by omega) (by omega) (by omega) (by omega) (fun c2 => ?_) (fun c2 => ?_)
  · refine di_const rfl ?_
    exact dr_iret (ty := .boolean) rfl rfl (nar_z (by omega) (by omega)) (by decide) (by decide) ⟨rfl, 0, ⟨by omega, by omega, fun e => absurd e (by decide), fun _ => (by rcases q9 with q | q; (exfalso; have := q.1; omega); exact q.2)⟩, by omega, by omega, rfl⟩
  · refine di_const rfl ?_
    refine dr_goto rfl rfl ?_
    exact dr_iret (ty := .boolean) rfl rfl (nar_z (by omega) (by omega)) (by decide) (by decide) ⟨rfl, 1, ⟨by omega, by omega, fun _ => (by rcases q9 with q | q; exact q.2; (exfalso; have := q.1; omega)), fun e => absurd e (by decide)⟩, by omega, by omega, rfl⟩
set_option maxRecDepth 100000 in
theorem f_X6_needPlace (l : Launch) (hl : l.stackTraces = false) {kc km : Int} {h : dm_H} (hI : Inv kc km h) {a0 : Int} (h0a : -2147483648 ≤ a0) (h0b : a0 ≤ 2147483647) : dm_M l 118 1 1 6 [dI a0] h (QPX h (fun v => v = none ∧ (0 ≤ a0 ∧ a0 ≤ 99)) XA (a0 < 0 ∨ 99 < a0)) := by
  refine dm_M_of dk_118 hl rfl (Nat.le_of_ble_eq_true rfl) ?_
  show dm_W (fun _ _ _ => True) (dm_P (QPX h (fun v => v = none ∧ (0 ≤ a0 ∧ a0 ≤ 99)) XA (a0 < 0 ∨ 99 < a0)) 1 6) l 118 1 1 6 0 [some (dI a0)] [] h 0 0
  refine dr_iload_n rfl rfl ?_
  refine di_if_lt rfl rfl (by omega) (by omega) (fun c1 => ?_) (fun c1 => ?_)
  · exact dr_throw rfl (by decide) rfl (by decide) (by decide) (by decide) (Nat.le_of_ble_eq_true rfl) ⟨rfl, rfl, by omega⟩
  refine dr_iload_n rfl rfl ?_
  refine di_bipush rfl (by decide) ?_
  refine di_icmp_lt rfl rfl (by omega) (by omega) (by omega) (by omega) (fun c3 => ?_) (fun c3 => ?_)
  · exact dr_vret rfl rfl (by decide) (by decide) ⟨rfl, rfl, by omega, by omega⟩
  · exact dr_throw rfl (by decide) rfl (by decide) (by decide) (by decide) (Nat.le_of_ble_eq_true rfl) ⟨rfl, rfl, by omega⟩
set_option maxRecDepth 100000 in
theorem f_X6_needSet (l : Launch) (hl : l.stackTraces = false) {kc km : Int} {h : dm_H} (hI : Inv kc km h) {b0 : Nat} (hb0 : isBk b0) {s m : Int} {u w : List Value} (hc : CA b0 s m u w h) {a1 : Int} (h1a : -2147483648 ≤ a1) (h1b : a1 ≤ 2147483647) : dm_M l 122 1 1 6 [.ref b0, dI a1] h (QPX h (fun v => v = none ∧ (0 ≤ a1 ∧ a1 < pwI s)) XA (a1 < 0 ∨ pwI s ≤ a1)) := by
  refine dm_M_of dk_122 hl rfl (Nat.le_of_ble_eq_true rfl) ?_
  show dm_W (fun _ _ _ => True) (dm_P (QPX h (fun v => v = none ∧ (0 ≤ a1 ∧ a1 < pwI s)) XA (a1 < 0 ∨ pwI s ≤ a1)) 1 6) l 122 1 1 6 0 [some (.ref b0), some (dI a1)] [] h 0 0
  have s0 := hc.2.2.2.2.2.1
  have s8 := hc.2.2.2.2.2.2.1
  refine dr_iload_n rfl rfl ?_
  refine di_if_lt rfl rfl (by omega) (by omega) (fun c1 => ?_) (fun c1 => ?_)
  · exact dr_throw rfl (by decide) rfl (by decide) (by decide) (by decide) (Nat.le_of_ble_eq_true rfl) ⟨rfl, rfl, by omega⟩
  refine dr_iload_n rfl rfl ?_
  refine di_const rfl ?_
  refine di_aload_n rfl rfl ?_
  refine dr_virt rfl rfl rfl rfl hc.1 (f_X0_count l hl hI hb0 hc) (by decide) (by decide) (by decide) (Nat.le_of_ble_eq_true rfl) kNP (kIP (fun y yf ya yb => ?_))
  obtain ⟨yc, yd, ye⟩ := yf
  subst ye
  refine di_shl8 rfl (by omega) (by omega) (fun x xa xb xe => ?_)
  refine di_icmp_lt rfl rfl (by omega) (by omega) (by omega) (by omega) (fun c3 => ?_) (fun c3 => ?_)
  · exact dr_vret rfl rfl (by decide) (by decide) ⟨rfl, rfl, by omega, by omega⟩
  · exact dr_throw rfl (by decide) rfl (by decide) (by decide) (by decide) (Nat.le_of_ble_eq_true rfl) ⟨rfl, rfl, by omega⟩
theorem CA_arr {b : Nat} {s m : Int} {u w : List Value} {h : dm_H} (hc : CA b s m u w h) : (∀ j : Int, 0 ≤ j → j < s → cv u j % 100 ≤ cv u j / 100) ∧ True := ⟨fun j j0 j1 => (arr_cv hc.2.2.2.1 j0 (by have := hc.2.2.2.2.2.2.1; omega)).2.2, trivial⟩

set_option maxHeartbeats 4000000 in
set_option maxRecDepth 100000 in
/-- Earlyends$Book.fromAt -/
theorem f_X0_fromAt (l : Launch) (hl : l.stackTraces = false) {kc km : Int} {h : dm_H} (hI : Inv kc km h) {b0 : Nat} (hb0 : isBk b0) {s0 m0 : Int} {u0 w0 : List Value} (hC0 : CA b0 s0 m0 u0 w0 h) {a1 : Int} (h1a : -2147483648 ≤ a1) (h1b : a1 ≤ 2147483647) : dm_M l 5 0 0 0 [.ref b0, dI (a1)] h (QP h (RI (fun x => -1 ≤ x ∧ x ≤ 99 ∧ (0 ≤ a1 → a1 < s0 → x = cv u0 a1 % 100) ∧ (a1 < 0 → x = -1) ∧ (s0 ≤ a1 → x = -1))) []) := by
  obtain ⟨hq0, hu0, hw0, hau0, haw0, hs0a, hs0b, hm0a, hm0b⟩ := id hC0
  refine dm_M_of dk_5 hl rfl (Nat.le_of_ble_eq_true rfl) ?_
  show dm_W (fun _ _ _ => True) (dm_P (QP h (RI (fun x => -1 ≤ x ∧ x ≤ 99 ∧ (0 ≤ a1 → a1 < s0 → x = cv u0 a1 % 100) ∧ (a1 < 0 → x = -1) ∧ (s0 ≤ a1 → x = -1))) []) 0 0) l 5 0 0 0 0 [some (.ref b0), some (dI (a1))] [] h 0 0
  refine dr_iload_n rfl rfl ?_
  refine di_if_lt rfl rfl (by omega) (by omega) (fun c1 => ?_) (fun c1 => ?_)
  · skip
    refine di_const rfl ?_
    exact dr_iret (ty := .int) rfl rfl rfl (by decide) (by decide) ⟨rfl, (-1), (show -1 ≤ ((-1)) ∧ ((-1)) ≤ 99 ∧ (0 ≤ a1 → a1 < s0 → ((-1)) = cv u0 a1 % 100) ∧ (a1 < 0 → ((-1)) = -1) ∧ (s0 ≤ a1 → ((-1)) = -1) by omega), by omega, by omega, rfl⟩
  · skip
    refine dr_iload_n rfl rfl ?_
    refine di_aload_n rfl rfl ?_
    refine dr_getf rfl hq0 rfl ?_
    refine di_icmp_ge rfl rfl (by omega) (by omega) (by omega) (by omega) (fun c2 => ?_) (fun c2 => ?_)
    · skip
      refine di_const rfl ?_
      exact dr_iret (ty := .int) rfl rfl rfl (by decide) (by decide) ⟨rfl, (-1), (show -1 ≤ ((-1)) ∧ ((-1)) ≤ 99 ∧ (0 ≤ a1 → a1 < s0 → ((-1)) = cv u0 a1 % 100) ∧ (a1 < 0 → ((-1)) = -1) ∧ (s0 ≤ a1 → ((-1)) = -1) by omega), by omega, by omega, rfl⟩
    · skip
      refine di_aload_n rfl rfl ?_
      refine dr_getf rfl hq0 rfl ?_
      refine dr_iload_n rfl rfl ?_
      refine di_iald rfl hu0 hau0 (by omega) (by omega) (fun x3 x3f x3a x3b x3v => ?_)
      have x3w : cv u0 (a1) = x3 := cv_eq x3v x3a x3b
      have x3g : 0 ≤ x3 ∧ x3 ≤ 9999 ∧ x3 % 100 ≤ x3 / 100 := x3f
      refine di_bipush rfl (by decide) ?_
      refine di_irem rfl (by omega) (by omega) (by omega) (by omega) ?_
      refine dr_goto rfl rfl ?_
      exact dr_iret (ty := .int) rfl rfl rfl (by decide) (by decide) ⟨rfl, (x3 % 100), (show -1 ≤ ((x3 % 100)) ∧ ((x3 % 100)) ≤ 99 ∧ (0 ≤ a1 → a1 < s0 → ((x3 % 100)) = cv u0 a1 % 100) ∧ (a1 < 0 → ((x3 % 100)) = -1) ∧ (s0 ≤ a1 → ((x3 % 100)) = -1) by omega), by omega, by omega, rfl⟩
set_option maxHeartbeats 4000000 in
set_option maxRecDepth 100000 in
/-- Earlyends$Book.doesHold -/
theorem f_X0_doesHold (l : Launch) (hl : l.stackTraces = false) {kc km : Int} {h : dm_H} (hI : Inv kc km h) {b0 : Nat} (hb0 : isBk b0) {s0 m0 : Int} {u0 w0 : List Value} (hC0 : CA b0 s0 m0 u0 w0 h) {a1 : Int} (h1a : -2147483648 ≤ a1) (h1b : a1 ≤ 2147483647) {a2 : Int} (h2a : -2147483648 ≤ a2) (h2b : a2 ≤ 2147483647) (hp0 : 0 ≤ a1) (hp1 : a1 < s0) : dm_M l 20 1 0 0 [.ref b0, dI (a1), dI (a2)] h (QP h (RI (fun x => 0 ≤ x ∧ x ≤ 1 ∧ (x = 1 → cv u0 a1 % 100 ≤ a2 ∧ a2 ≤ cv u0 a1 / 100) ∧ (x = 0 → a2 < cv u0 a1 % 100 ∨ cv u0 a1 / 100 < a2))) []) := by
  obtain ⟨hq0, hu0, hw0, hau0, haw0, hs0a, hs0b, hm0a, hm0b⟩ := id hC0
  refine dm_M_of dk_20 hl rfl (Nat.le_of_ble_eq_true rfl) ?_
  show dm_W (fun _ _ _ => True) (dm_P (QP h (RI (fun x => 0 ≤ x ∧ x ≤ 1 ∧ (x = 1 → cv u0 a1 % 100 ≤ a2 ∧ a2 ≤ cv u0 a1 / 100) ∧ (x = 0 → a2 < cv u0 a1 % 100 ∨ cv u0 a1 / 100 < a2))) []) 0 0) l 20 1 0 0 0 [some (.ref b0), some (dI (a1)), some (dI (a2))] [] h 0 0
  refine di_aload_n rfl rfl ?_
  refine dr_iload_n rfl rfl ?_
  refine dr_virt rfl rfl rfl rfl hq0 (f_X0_fromAt l hl hI (b0 := b0) hb0 (s0 := s0) (m0 := m0) (u0 := u0) (w0 := w0) ⟨hq0, hu0, hw0, hau0, haw0, by omega, by omega, by omega, by omega⟩ (a1 := a1) (by omega) (by omega)) (by decide) (by decide) (by decide) (Nat.le_of_ble_eq_true rfl) kNP (kIP (fun y1 y1f y1a y1b => ?_))
  have y1g : -1 ≤ y1 ∧ y1 ≤ 99 ∧ (0 ≤ (a1) → (a1) < (s0) → y1 = cv u0 (a1) % 100) ∧ ((a1) < 0 → y1 = -1) ∧ ((s0) ≤ (a1) → y1 = -1) := y1f
  clear y1f
  refine dr_iload_n rfl rfl ?_
  refine di_icmp_gt rfl rfl (by omega) (by omega) (by omega) (by omega) (fun c2 => ?_) (fun c2 => ?_)
  · skip
    refine di_const rfl ?_
    exact dr_iret (ty := .boolean) rfl rfl (nar_z (by omega) (by omega)) (by decide) (by decide) ⟨rfl, 0, (show 0 ≤ (0) ∧ (0) ≤ 1 ∧ ((0) = 1 → cv u0 a1 % 100 ≤ a2 ∧ a2 ≤ cv u0 a1 / 100) ∧ ((0) = 0 → a2 < cv u0 a1 % 100 ∨ cv u0 a1 / 100 < a2) by omega), by omega, by omega, rfl⟩
  · skip
    refine dr_iload_n rfl rfl ?_
    refine di_aload_n rfl rfl ?_
    refine dr_iload_n rfl rfl ?_
    refine dr_virt rfl rfl rfl rfl hq0 (f_X0_toAt l hl hI (b0 := b0) hb0 (s0 := s0) (m0 := m0) (u0 := u0) (w0 := w0) ⟨hq0, hu0, hw0, hau0, haw0, by omega, by omega, by omega, by omega⟩ (a1 := a1) (by omega) (by omega)) (by decide) (by decide) (by decide) (Nat.le_of_ble_eq_true rfl) kNP (kIP (fun y3 y3f y3a y3b => ?_))
    have y3g : -1 ≤ y3 ∧ y3 ≤ 99 ∧ (0 ≤ (a1) → (a1) < (s0) → y3 = cv u0 (a1) / 100) ∧ ((a1) < 0 → y3 = -1) ∧ ((s0) ≤ (a1) → y3 = -1) := y3f
    clear y3f
    refine di_icmp_gt rfl rfl (by omega) (by omega) (by omega) (by omega) (fun c4 => ?_) (fun c4 => ?_)
    · skip
      refine di_const rfl ?_
      exact dr_iret (ty := .boolean) rfl rfl (nar_z (by omega) (by omega)) (by decide) (by decide) ⟨rfl, 0, (show 0 ≤ (0) ∧ (0) ≤ 1 ∧ ((0) = 1 → cv u0 a1 % 100 ≤ a2 ∧ a2 ≤ cv u0 a1 / 100) ∧ ((0) = 0 → a2 < cv u0 a1 % 100 ∨ cv u0 a1 / 100 < a2) by omega), by omega, by omega, rfl⟩
    · skip
      refine di_const rfl ?_
      refine dr_goto rfl rfl ?_
      exact dr_iret (ty := .boolean) rfl rfl (nar_z (by omega) (by omega)) (by decide) (by decide) ⟨rfl, 1, (show 0 ≤ (1) ∧ (1) ≤ 1 ∧ ((1) = 1 → cv u0 a1 % 100 ≤ a2 ∧ a2 ≤ cv u0 a1 / 100) ∧ ((1) = 0 → a2 < cv u0 a1 % 100 ∨ cv u0 a1 / 100 < a2) by omega), by omega, by omega, rfl⟩
set_option maxHeartbeats 4000000 in
set_option maxRecDepth 100000 in
/-- Earlyends$Book.doMeet -/
theorem f_X0_doMeet (l : Launch) (hl : l.stackTraces = false) {kc km : Int} {h : dm_H} (hI : Inv kc km h) {b0 : Nat} (hb0 : isBk b0) {s0 m0 : Int} {u0 w0 : List Value} (hC0 : CA b0 s0 m0 u0 w0 h) {a1 : Int} (h1a : -2147483648 ≤ a1) (h1b : a1 ≤ 2147483647) {a2 : Int} (h2a : -2147483648 ≤ a2) (h2b : a2 ≤ 2147483647) (hp0 : 0 ≤ a1) (hp1 : a1 < s0) (hp2 : 0 ≤ a2) (hp3 : a2 < s0) : dm_M l 21 1 0 0 [.ref b0, dI (a1), dI (a2)] h (QP h (RI (fun x => 0 ≤ x ∧ x ≤ 1 ∧ (x = 1 → cv u0 a1 % 100 ≤ cv u0 a2 / 100 ∧ cv u0 a2 % 100 ≤ cv u0 a1 / 100) ∧ (x = 0 → cv u0 a2 / 100 < cv u0 a1 % 100 ∨ cv u0 a1 / 100 < cv u0 a2 % 100))) []) := by
  obtain ⟨hq0, hu0, hw0, hau0, haw0, hs0a, hs0b, hm0a, hm0b⟩ := id hC0
  refine dm_M_of dk_21 hl rfl (Nat.le_of_ble_eq_true rfl) ?_
  show dm_W (fun _ _ _ => True) (dm_P (QP h (RI (fun x => 0 ≤ x ∧ x ≤ 1 ∧ (x = 1 → cv u0 a1 % 100 ≤ cv u0 a2 / 100 ∧ cv u0 a2 % 100 ≤ cv u0 a1 / 100) ∧ (x = 0 → cv u0 a2 / 100 < cv u0 a1 % 100 ∨ cv u0 a1 / 100 < cv u0 a2 % 100))) []) 0 0) l 21 1 0 0 0 [some (.ref b0), some (dI (a1)), some (dI (a2))] [] h 0 0
  refine di_aload_n rfl rfl ?_
  refine dr_iload_n rfl rfl ?_
  refine dr_virt rfl rfl rfl rfl hq0 (f_X0_fromAt l hl hI (b0 := b0) hb0 (s0 := s0) (m0 := m0) (u0 := u0) (w0 := w0) ⟨hq0, hu0, hw0, hau0, haw0, by omega, by omega, by omega, by omega⟩ (a1 := a1) (by omega) (by omega)) (by decide) (by decide) (by decide) (Nat.le_of_ble_eq_true rfl) kNP (kIP (fun y1 y1f y1a y1b => ?_))
  have y1g : -1 ≤ y1 ∧ y1 ≤ 99 ∧ (0 ≤ (a1) → (a1) < (s0) → y1 = cv u0 (a1) % 100) ∧ ((a1) < 0 → y1 = -1) ∧ ((s0) ≤ (a1) → y1 = -1) := y1f
  clear y1f
  refine di_aload_n rfl rfl ?_
  refine dr_iload_n rfl rfl ?_
  refine dr_virt rfl rfl rfl rfl hq0 (f_X0_toAt l hl hI (b0 := b0) hb0 (s0 := s0) (m0 := m0) (u0 := u0) (w0 := w0) ⟨hq0, hu0, hw0, hau0, haw0, by omega, by omega, by omega, by omega⟩ (a1 := a2) (by omega) (by omega)) (by decide) (by decide) (by decide) (Nat.le_of_ble_eq_true rfl) kNP (kIP (fun y2 y2f y2a y2b => ?_))
  have y2g : -1 ≤ y2 ∧ y2 ≤ 99 ∧ (0 ≤ (a2) → (a2) < (s0) → y2 = cv u0 (a2) / 100) ∧ ((a2) < 0 → y2 = -1) ∧ ((s0) ≤ (a2) → y2 = -1) := y2f
  clear y2f
  refine di_icmp_gt rfl rfl (by omega) (by omega) (by omega) (by omega) (fun c3 => ?_) (fun c3 => ?_)
  · skip
    refine di_const rfl ?_
    exact dr_iret (ty := .boolean) rfl rfl (nar_z (by omega) (by omega)) (by decide) (by decide) ⟨rfl, 0, (show 0 ≤ (0) ∧ (0) ≤ 1 ∧ ((0) = 1 → cv u0 a1 % 100 ≤ cv u0 a2 / 100 ∧ cv u0 a2 % 100 ≤ cv u0 a1 / 100) ∧ ((0) = 0 → cv u0 a2 / 100 < cv u0 a1 % 100 ∨ cv u0 a1 / 100 < cv u0 a2 % 100) by omega), by omega, by omega, rfl⟩
  · skip
    refine di_aload_n rfl rfl ?_
    refine dr_iload_n rfl rfl ?_
    refine dr_virt rfl rfl rfl rfl hq0 (f_X0_fromAt l hl hI (b0 := b0) hb0 (s0 := s0) (m0 := m0) (u0 := u0) (w0 := w0) ⟨hq0, hu0, hw0, hau0, haw0, by omega, by omega, by omega, by omega⟩ (a1 := a2) (by omega) (by omega)) (by decide) (by decide) (by decide) (Nat.le_of_ble_eq_true rfl) kNP (kIP (fun y4 y4f y4a y4b => ?_))
    have y4g : -1 ≤ y4 ∧ y4 ≤ 99 ∧ (0 ≤ (a2) → (a2) < (s0) → y4 = cv u0 (a2) % 100) ∧ ((a2) < 0 → y4 = -1) ∧ ((s0) ≤ (a2) → y4 = -1) := y4f
    clear y4f
    refine di_aload_n rfl rfl ?_
    refine dr_iload_n rfl rfl ?_
    refine dr_virt rfl rfl rfl rfl hq0 (f_X0_toAt l hl hI (b0 := b0) hb0 (s0 := s0) (m0 := m0) (u0 := u0) (w0 := w0) ⟨hq0, hu0, hw0, hau0, haw0, by omega, by omega, by omega, by omega⟩ (a1 := a1) (by omega) (by omega)) (by decide) (by decide) (by decide) (Nat.le_of_ble_eq_true rfl) kNP (kIP (fun y5 y5f y5a y5b => ?_))
    have y5g : -1 ≤ y5 ∧ y5 ≤ 99 ∧ (0 ≤ (a1) → (a1) < (s0) → y5 = cv u0 (a1) / 100) ∧ ((a1) < 0 → y5 = -1) ∧ ((s0) ≤ (a1) → y5 = -1) := y5f
    clear y5f
    refine di_icmp_gt rfl rfl (by omega) (by omega) (by omega) (by omega) (fun c6 => ?_) (fun c6 => ?_)
    · skip
      refine di_const rfl ?_
      exact dr_iret (ty := .boolean) rfl rfl (nar_z (by omega) (by omega)) (by decide) (by decide) ⟨rfl, 0, (show 0 ≤ (0) ∧ (0) ≤ 1 ∧ ((0) = 1 → cv u0 a1 % 100 ≤ cv u0 a2 / 100 ∧ cv u0 a2 % 100 ≤ cv u0 a1 / 100) ∧ ((0) = 0 → cv u0 a2 / 100 < cv u0 a1 % 100 ∨ cv u0 a1 / 100 < cv u0 a2 % 100) by omega), by omega, by omega, rfl⟩
    · skip
      refine di_const rfl ?_
      refine dr_goto rfl rfl ?_
      exact dr_iret (ty := .boolean) rfl rfl (nar_z (by omega) (by omega)) (by decide) (by decide) ⟨rfl, 1, (show 0 ≤ (1) ∧ (1) ≤ 1 ∧ ((1) = 1 → cv u0 a1 % 100 ≤ cv u0 a2 / 100 ∧ cv u0 a2 % 100 ≤ cv u0 a1 / 100) ∧ ((1) = 0 → cv u0 a2 / 100 < cv u0 a1 % 100 ∨ cv u0 a1 / 100 < cv u0 a2 % 100) by omega), by omega, by omega, rfl⟩
set_option maxHeartbeats 4000000 in
set_option maxRecDepth 100000 in
/-- Earlyends$Book.holding -/
theorem f_X0_holding (l : Launch) (hl : l.stackTraces = false) {kc km : Int} {h : dm_H} (hI : Inv kc km h) {b0 : Nat} (hb0 : isBk b0) {s0 m0 : Int} {u0 w0 : List Value} (hC0 : CA b0 s0 m0 u0 w0 h) {a1 : Int} (h1a : -2147483648 ≤ a1) (h1b : a1 ≤ 2147483647) : dm_M l 22 2 0 0 [.ref b0, dI (a1)] h (QP h (RI (fun x => 0 ≤ x ∧ x ≤ 255 ∧ hsP x s0 (fun r => cv u0 r % 100 ≤ a1 ∧ a1 ≤ cv u0 r / 100))) []) := by
  obtain ⟨hq0, hu0, hw0, hau0, haw0, hs0a, hs0b, hm0a, hm0b⟩ := id hC0
  refine dm_M_of dk_22 hl rfl (Nat.le_of_ble_eq_true rfl) ?_
  show dm_W (fun _ _ _ => True) (dm_P (QP h (RI (fun x => 0 ≤ x ∧ x ≤ 255 ∧ hsP x s0 (fun r => cv u0 r % 100 ≤ a1 ∧ a1 ≤ cv u0 r / 100))) []) 0 0) l 22 2 0 0 0 [some (.ref b0), some (dI (a1)), none, none] [] h 0 0
  refine di_const rfl ?_
  refine di_istore_n (ls2 := [some (.ref b0), some (dI (a1)), some (dI (0)), none]) rfl rfl rfl ?_
  refine di_const rfl ?_
  refine di_istore_n (ls2 := [some (.ref b0), some (dI (a1)), some (dI (0)), some (dI (0))]) rfl rfl rfl ?_
  have L3 : ∀ (n : Nat) (i1 : Int) (i2 : Int), (8 - i2).toNat < n → 0 ≤ i1 → i1 ≤ 255 → 0 ≤ i2 → i2 ≤ 8 → i2 ≤ s0 → hsP i1 i2 (fun r => cv u0 r % 100 ≤ a1 ∧ a1 ≤ cv u0 r / 100) → dm_W (fun _ _ _ => True) (dm_P (QP h (RI (fun x => 0 ≤ x ∧ x ≤ 255 ∧ hsP x s0 (fun r => cv u0 r % 100 ≤ a1 ∧ a1 ≤ cv u0 r / 100))) []) 0 0) l 22 2 0 0 4 [some (.ref b0), some (dI (a1)), some (dI (i1)), some (dI (i2))] [] h 0 0 := by
    intro n
    induction n with
    | zero => intro i1 i2 hm; exact absurd hm (Nat.not_lt_zero _)
    | succ n ih =>
      intro i1 i2 hm10 hb4 hb5 hb6 hb7 hx8 PS
      have ihL3 := ih
      clear ih
      refine dr_iload_n rfl rfl ?_
      refine di_aload_n rfl rfl ?_
      refine dr_getf rfl hq0 rfl ?_
      refine di_icmp_ge rfl rfl (by omega) (by omega) (by omega) (by omega) (fun c11 => ?_) (fun c11 => ?_)
      · skip
        refine dr_iload_n rfl rfl ?_
        exact dr_iret (ty := .int) rfl rfl rfl (by decide) (by decide) ⟨rfl, i1, ⟨by omega, by omega, (by have q9 := PS; rw [show i2 = s0 by omega] at q9; exact q9 : hsP i1 s0 (fun r => cv u0 r % 100 ≤ a1 ∧ a1 ≤ cv u0 r / 100))⟩, by omega, by omega, rfl⟩
      · skip
        refine di_aload_n rfl rfl ?_
        refine dr_iload_n rfl rfl ?_
        refine dr_iload_n rfl rfl ?_
        refine dr_virt rfl rfl rfl rfl hq0 (f_X0_doesHold l hl hI (b0 := b0) hb0 (s0 := s0) (m0 := m0) (u0 := u0) (w0 := w0) ⟨hq0, hu0, hw0, hau0, haw0, by omega, by omega, by omega, by omega⟩ (a1 := i2) (by omega) (by omega) (a2 := a1) (by omega) (by omega) (by omega) (by omega)) (by decide) (by decide) (by decide) (Nat.le_of_ble_eq_true rfl) kNP (kIP (fun y12 y12f y12a y12b => ?_))
        have y12g : 0 ≤ y12 ∧ y12 ≤ 1 ∧ (y12 = 1 → cv u0 (i2) % 100 ≤ (a1) ∧ (a1) ≤ cv u0 (i2) / 100) ∧ (y12 = 0 → (a1) < cv u0 (i2) % 100 ∨ cv u0 (i2) / 100 < (a1)) := y12f
        clear y12f
        refine di_if_eq rfl rfl (by omega) (by omega) (fun c13 => ?_) (fun c13 => ?_)
        · skip
          refine di_iinc (ls2 := [some (.ref b0), some (dI (a1)), some (dI (i1)), some (dI ((i2 + 1)))]) rfl rfl rfl rfl ?_
          refine dr_goto rfl rfl ?_
          exact ihL3 (i1) ((i2 + 1)) (by omega) (by omega) (by omega) (by omega) (by omega) (by omega)  (hs_n PS (show ¬ (cv u0 i2 % 100 ≤ a1 ∧ a1 ≤ cv u0 i2 / 100) by omega))
        · skip
          refine dr_iload_n rfl rfl ?_
          refine di_const rfl ?_
          refine dr_iload_n rfl rfl ?_
          refine di_shl7 rfl (by omega) (by omega) (fun w14 w14a w14b w14e => ?_)
          refine di_or rfl (by omega) (by omega) (by omega) (by omega) (fun x15 x15a x15b x15e => ?_)
          refine di_istore_n (ls2 := [some (.ref b0), some (dI (a1)), some (dI (x15)), some (dI (i2))]) rfl rfl rfl ?_
          refine di_iinc (ls2 := [some (.ref b0), some (dI (a1)), some (dI (x15)), some (dI ((i2 + 1)))]) rfl rfl rfl rfl ?_
          refine dr_goto rfl rfl ?_
          exact ihL3 (x15) ((i2 + 1)) (by omega) (by omega) (by omega) (by omega) (by omega) (by omega)  (hs_y PS (by omega) (by omega) (show cv u0 i2 % 100 ≤ a1 ∧ a1 ≤ cv u0 i2 / 100 by omega) w14e x15e)
  exact L3 _ (0) (0) (Nat.lt_succ_self _) (by omega) (by omega) (by omega) (by omega) (by omega)  hs_0
set_option maxHeartbeats 4000000 in
set_option maxRecDepth 100000 in
/-- Earlyends$Book.meeting -/
theorem f_X0_meeting (l : Launch) (hl : l.stackTraces = false) {kc km : Int} {h : dm_H} (hI : Inv kc km h) {b0 : Nat} (hb0 : isBk b0) {s0 m0 : Int} {u0 w0 : List Value} (hC0 : CA b0 s0 m0 u0 w0 h) {a1 : Int} (h1a : -2147483648 ≤ a1) (h1b : a1 ≤ 2147483647) (hp0 : 0 ≤ a1) (hp1 : a1 < s0) : dm_M l 23 2 0 0 [.ref b0, dI (a1)] h (QP h (RI (fun x => 0 ≤ x ∧ x ≤ 255 ∧ hsP x s0 (fun r => cv u0 r % 100 ≤ cv u0 a1 / 100 ∧ cv u0 a1 % 100 ≤ cv u0 r / 100))) []) := by
  obtain ⟨hq0, hu0, hw0, hau0, haw0, hs0a, hs0b, hm0a, hm0b⟩ := id hC0
  refine dm_M_of dk_23 hl rfl (Nat.le_of_ble_eq_true rfl) ?_
  show dm_W (fun _ _ _ => True) (dm_P (QP h (RI (fun x => 0 ≤ x ∧ x ≤ 255 ∧ hsP x s0 (fun r => cv u0 r % 100 ≤ cv u0 a1 / 100 ∧ cv u0 a1 % 100 ≤ cv u0 r / 100))) []) 0 0) l 23 2 0 0 0 [some (.ref b0), some (dI (a1)), none, none] [] h 0 0
  refine di_const rfl ?_
  refine di_istore_n (ls2 := [some (.ref b0), some (dI (a1)), some (dI (0)), none]) rfl rfl rfl ?_
  refine di_const rfl ?_
  refine di_istore_n (ls2 := [some (.ref b0), some (dI (a1)), some (dI (0)), some (dI (0))]) rfl rfl rfl ?_
  have L3 : ∀ (n : Nat) (i1 : Int) (i2 : Int), (8 - i2).toNat < n → 0 ≤ i1 → i1 ≤ 255 → 0 ≤ i2 → i2 ≤ 8 → i2 ≤ s0 → hsP i1 i2 (fun r => cv u0 r % 100 ≤ cv u0 a1 / 100 ∧ cv u0 a1 % 100 ≤ cv u0 r / 100) → dm_W (fun _ _ _ => True) (dm_P (QP h (RI (fun x => 0 ≤ x ∧ x ≤ 255 ∧ hsP x s0 (fun r => cv u0 r % 100 ≤ cv u0 a1 / 100 ∧ cv u0 a1 % 100 ≤ cv u0 r / 100))) []) 0 0) l 23 2 0 0 4 [some (.ref b0), some (dI (a1)), some (dI (i1)), some (dI (i2))] [] h 0 0 := by
    intro n
    induction n with
    | zero => intro i1 i2 hm; exact absurd hm (Nat.not_lt_zero _)
    | succ n ih =>
      intro i1 i2 hm10 hb4 hb5 hb6 hb7 hx8 PS
      have ihL3 := ih
      clear ih
      refine dr_iload_n rfl rfl ?_
      refine di_aload_n rfl rfl ?_
      refine dr_getf rfl hq0 rfl ?_
      refine di_icmp_ge rfl rfl (by omega) (by omega) (by omega) (by omega) (fun c11 => ?_) (fun c11 => ?_)
      · skip
        refine dr_iload_n rfl rfl ?_
        exact dr_iret (ty := .int) rfl rfl rfl (by decide) (by decide) ⟨rfl, i1, ⟨by omega, by omega, (by have q9 := PS; rw [show i2 = s0 by omega] at q9; exact q9 : hsP i1 s0 (fun r => cv u0 r % 100 ≤ cv u0 a1 / 100 ∧ cv u0 a1 % 100 ≤ cv u0 r / 100))⟩, by omega, by omega, rfl⟩
      · skip
        refine di_aload_n rfl rfl ?_
        refine dr_iload_n rfl rfl ?_
        refine dr_iload_n rfl rfl ?_
        refine dr_virt rfl rfl rfl rfl hq0 (f_X0_doMeet l hl hI (b0 := b0) hb0 (s0 := s0) (m0 := m0) (u0 := u0) (w0 := w0) ⟨hq0, hu0, hw0, hau0, haw0, by omega, by omega, by omega, by omega⟩ (a1 := i2) (by omega) (by omega) (a2 := a1) (by omega) (by omega) (by omega) (by omega) (by omega) (by omega)) (by decide) (by decide) (by decide) (Nat.le_of_ble_eq_true rfl) kNP (kIP (fun y12 y12f y12a y12b => ?_))
        have y12g : 0 ≤ y12 ∧ y12 ≤ 1 ∧ (y12 = 1 → cv u0 (i2) % 100 ≤ cv u0 (a1) / 100 ∧ cv u0 (a1) % 100 ≤ cv u0 (i2) / 100) ∧ (y12 = 0 → cv u0 (a1) / 100 < cv u0 (i2) % 100 ∨ cv u0 (i2) / 100 < cv u0 (a1) % 100) := y12f
        clear y12f
        refine di_if_eq rfl rfl (by omega) (by omega) (fun c13 => ?_) (fun c13 => ?_)
        · skip
          refine di_iinc (ls2 := [some (.ref b0), some (dI (a1)), some (dI (i1)), some (dI ((i2 + 1)))]) rfl rfl rfl rfl ?_
          refine dr_goto rfl rfl ?_
          exact ihL3 (i1) ((i2 + 1)) (by omega) (by omega) (by omega) (by omega) (by omega) (by omega)  (hs_n PS (show ¬ (cv u0 i2 % 100 ≤ cv u0 a1 / 100 ∧ cv u0 a1 % 100 ≤ cv u0 i2 / 100) by omega))
        · skip
          refine dr_iload_n rfl rfl ?_
          refine di_const rfl ?_
          refine dr_iload_n rfl rfl ?_
          refine di_shl7 rfl (by omega) (by omega) (fun w14 w14a w14b w14e => ?_)
          refine di_or rfl (by omega) (by omega) (by omega) (by omega) (fun x15 x15a x15b x15e => ?_)
          refine di_istore_n (ls2 := [some (.ref b0), some (dI (a1)), some (dI (x15)), some (dI (i2))]) rfl rfl rfl ?_
          refine di_iinc (ls2 := [some (.ref b0), some (dI (a1)), some (dI (x15)), some (dI ((i2 + 1)))]) rfl rfl rfl rfl ?_
          refine dr_goto rfl rfl ?_
          exact ihL3 (x15) ((i2 + 1)) (by omega) (by omega) (by omega) (by omega) (by omega) (by omega)  (hs_y PS (by omega) (by omega) (show cv u0 i2 % 100 ≤ cv u0 a1 / 100 ∧ cv u0 a1 % 100 ≤ cv u0 i2 / 100 by omega) w14e x15e)
  exact L3 _ (0) (0) (Nat.lt_succ_self _) (by omega) (by omega) (by omega) (by omega) (by omega)  hs_0
set_option maxHeartbeats 4000000 in
set_option maxRecDepth 100000 in
/-- Earlyends$Book.holdingEndsOf -/
theorem f_X0_holdingEndsOf (l : Launch) (hl : l.stackTraces = false) {kc km : Int} {h : dm_H} (hI : Inv kc km h) {b0 : Nat} (hb0 : isBk b0) {s0 m0 : Int} {u0 w0 : List Value} (hC0 : CA b0 s0 m0 u0 w0 h) {a1 : Int} (h1a : 0 ≤ a1) (h1b : a1 ≤ 255) : dm_M l 24 3 0 0 [.ref b0, dI (a1)] h (QP h (RI (fun x => 0 ≤ x ∧ x ≤ 255 ∧ heP x s0 s0 (cv u0) a1)) []) := by
  obtain ⟨hq0, hu0, hw0, hau0, haw0, hs0a, hs0b, hm0a, hm0b⟩ := id hC0
  refine dm_M_of dk_24 hl rfl (Nat.le_of_ble_eq_true rfl) ?_
  show dm_W (fun _ _ _ => True) (dm_P (QP h (RI (fun x => 0 ≤ x ∧ x ≤ 255 ∧ heP x s0 s0 (cv u0) a1)) []) 0 0) l 24 3 0 0 0 [some (.ref b0), some (dI (a1)), none, none] [] h 0 0
  refine di_const rfl ?_
  refine di_istore_n (ls2 := [some (.ref b0), some (dI (a1)), some (dI (0)), none]) rfl rfl rfl ?_
  refine di_const rfl ?_
  refine di_istore_n (ls2 := [some (.ref b0), some (dI (a1)), some (dI (0)), some (dI (0))]) rfl rfl rfl ?_
  have L3 : ∀ (n : Nat) (i1 : Int) (i2 : Int), (8 - i2).toNat < n → 0 ≤ i1 → i1 ≤ 255 → 0 ≤ i2 → i2 ≤ 8 → i2 ≤ s0 → heP i1 i2 s0 (cv u0) a1 → dm_W (fun _ _ _ => True) (dm_P (QP h (RI (fun x => 0 ≤ x ∧ x ≤ 255 ∧ heP x s0 s0 (cv u0) a1)) []) 0 0) l 24 3 0 0 4 [some (.ref b0), some (dI (a1)), some (dI (i1)), some (dI (i2))] [] h 0 0 := by
    intro n
    induction n with
    | zero => intro i1 i2 hm; exact absurd hm (Nat.not_lt_zero _)
    | succ n ih =>
      intro i1 i2 hm10 hb4 hb5 hb6 hb7 hx8 PS
      have ihL3 := ih
      clear ih
      refine dr_iload_n rfl rfl ?_
      refine di_aload_n rfl rfl ?_
      refine dr_getf rfl hq0 rfl ?_
      refine di_icmp_ge rfl rfl (by omega) (by omega) (by omega) (by omega) (fun c11 => ?_) (fun c11 => ?_)
      · skip
        refine dr_iload_n rfl rfl ?_
        exact dr_iret (ty := .int) rfl rfl rfl (by decide) (by decide) ⟨rfl, i1, ⟨by omega, by omega, (by have q9 := PS; rw [show i2 = s0 by omega] at q9; exact q9 : heP i1 s0 s0 (cv u0) a1)⟩, by omega, by omega, rfl⟩
      · skip
        refine dr_iload_n rfl rfl ?_
        refine dr_iload_n rfl rfl ?_
        refine dr_statN rfl rfl rfl rfl (f_X6_isInSet l hl hI (a0 := a1) (by omega) (by omega) (a1 := i2) (by omega) (by omega)) kNP0 (by decide) (by decide) (by decide) (Nat.le_of_ble_eq_true rfl) (kIP (fun y12 y12f y12a y12b => ?_))
        have y12g : 0 ≤ y12 ∧ y12 ≤ 1 ∧ (y12 = 1 → hbt (a1) (i2)) ∧ (y12 = 0 → ¬ hbt (a1) (i2)) := y12f
        clear y12f
        refine di_if_eq rfl rfl (by omega) (by omega) (fun c13 => ?_) (fun c13 => ?_)
        · skip
          refine di_iinc (ls2 := [some (.ref b0), some (dI (a1)), some (dI (i1)), some (dI ((i2 + 1)))]) rfl rfl rfl rfl ?_
          refine dr_goto rfl rfl ?_
          exact ihL3 (i1) ((i2 + 1)) (by omega) (by omega) (by omega) (by omega) (by omega) (by omega)  (he_n PS (y12g.2.2.2 (by omega)))
        · skip
          refine dr_iload_n rfl rfl ?_
          refine di_aload_n rfl rfl ?_
          refine di_aload_n rfl rfl ?_
          refine dr_iload_n rfl rfl ?_
          refine dr_virt rfl rfl rfl rfl hq0 (f_X0_toAt l hl hI (b0 := b0) hb0 (s0 := s0) (m0 := m0) (u0 := u0) (w0 := w0) ⟨hq0, hu0, hw0, hau0, haw0, by omega, by omega, by omega, by omega⟩ (a1 := i2) (by omega) (by omega)) (by decide) (by decide) (by decide) (Nat.le_of_ble_eq_true rfl) kNP (kIP (fun y14 y14f y14a y14b => ?_))
          have y14g : -1 ≤ y14 ∧ y14 ≤ 99 ∧ (0 ≤ (i2) → (i2) < (s0) → y14 = cv u0 (i2) / 100) ∧ ((i2) < 0 → y14 = -1) ∧ ((s0) ≤ (i2) → y14 = -1) := y14f
          clear y14f
          refine dr_virt rfl rfl rfl rfl hq0 (f_X0_holding l hl hI (b0 := b0) hb0 (s0 := s0) (m0 := m0) (u0 := u0) (w0 := w0) ⟨hq0, hu0, hw0, hau0, haw0, by omega, by omega, by omega, by omega⟩ (a1 := y14) (by omega) (by omega)) (by decide) (by decide) (by decide) (Nat.le_of_ble_eq_true rfl) kNP (kIP (fun y15 y15f y15a y15b => ?_))
          have y15g : 0 ≤ y15 ∧ y15 ≤ 255 ∧ hsP y15 (s0) (fun r => cv u0 r % 100 ≤ (y14) ∧ (y14) ≤ cv u0 r / 100) := y15f
          clear y15f
          refine di_or rfl (by omega) (by omega) (by omega) (by omega) (fun x16 x16a x16b x16e => ?_)
          refine di_istore_n (ls2 := [some (.ref b0), some (dI (a1)), some (dI (x16)), some (dI (i2))]) rfl rfl rfl ?_
          refine di_iinc (ls2 := [some (.ref b0), some (dI (a1)), some (dI (x16)), some (dI ((i2 + 1)))]) rfl rfl rfl rfl ?_
          refine dr_goto rfl rfl ?_
          exact ihL3 (x16) ((i2 + 1)) (by omega) (by omega) (by omega) (by omega) (by omega) (by omega)  (he_y PS (by omega) (y12g.2.2.1 (by omega)) y15g.2.2 (by have q9 := y14g; omega) x16e)
  exact L3 _ (0) (0) (Nat.lt_succ_self _) (by omega) (by omega) (by omega) (by omega) (by omega)  he_0
set_option maxHeartbeats 4000000 in
set_option maxRecDepth 100000 in
/-- Earlyends.holders -/
theorem c_X6_holders (l : Launch) (hl : l.stackTraces = false) {kc km : Int} {h : dm_H} (hI : Inv kc km h) {B : Int} {σ : St} (hS : CSt B σ h) (hB : B ≤ 80000) {a1 : Int} (h1a : -2147483648 ≤ a1) (h1b : a1 ≤ 2147483647) {a2 : Int} (h2a : -2147483648 ≤ a2) (h2b : a2 ≤ 2147483647) : dm_M l 93 6 8 48 [.ref 0, dI (a1), dI (a2)] h (QX kc km h B XB XA (spHolders σ a1 a2)) := by
  refine dm_M_of dk_93 hl rfl (Nat.le_of_ble_eq_true rfl) ?_
  show dm_W (fun _ _ _ => True) (dm_P (QX kc km h B XB XA (spHolders σ a1 a2)) 8 48) l 93 6 8 48 0 [some (.ref 0), some (dI (a1)), some (dI (a2)), none] [] h 0 0
  refine di_aload_n rfl rfl ?_
  refine dr_iload_n rfl rfl ?_
  obtain ⟨r1, c2, c3, hc4⟩ := I_cls hI
  refine dr_virt rfl rfl rfl rfl hc4 (f_X6_bookAt l hl hI (a1 := a1) (by omega) (by omega)) (by decide) (by decide) (by decide) (Nat.le_of_ble_eq_true rfl) (fun Y h9 q9 => by obtain ⟨rfl, rfl, hC⟩ := q9; exact dr_out rfl (by decide) (by decide) (QX_1 (a := 0) hI FrC_rf hS (by omega) (by unfold spHolders; (repeat' split) <;> first | rfl | (exfalso; omega) | (apply Prod.ext <;> first | rfl | (dsimp only; omega) | (apply Prod.ext <;> first | rfl | (dsimp only; omega)))))) (kPXR (fun r5 ⟨q6, q7, q8, q10⟩ => ?_))
  refine di_astore_n (ls2 := [some (.ref 0), some (dI (a1)), some (dI (a2)), some (.ref r5)]) rfl rfl rfl ?_
  refine dr_iload_n rfl rfl ?_
  refine dr_stat rfl rfl rfl rfl (f_X6_needPlace l hl hI (a0 := a2) (by omega) (by omega)) (by decide) (by decide) (by decide) (Nat.le_of_ble_eq_true rfl) (fun Y h9 q9 => by obtain ⟨rfl, rfl, hC⟩ := q9; exact dr_out rfl (by decide) (by decide) (QX_2 (a := 0) hI FrC_rf hS (by omega) (by unfold spHolders; (repeat' split) <;> first | rfl | (exfalso; omega) | (apply Prod.ext <;> first | rfl | (dsimp only; omega) | (apply Prod.ext <;> first | rfl | (dsimp only; omega)))))) (kPXV (fun q11 => ?_))
  refine di_aload_n rfl rfl ?_
  refine dr_iload_n rfl rfl ?_
  obtain ⟨s12, m13, u14, w15, hc16, hr17, ht18, ma19, mb20⟩ := CSt_bk hS (k := a1) q8 q10 q7
  have sq21 : 0 ≤ s12 ∧ s12 ≤ 8 := ⟨hc16.2.2.2.2.2.1, hc16.2.2.2.2.2.2.1⟩
  have hz22 : zF (σ.1 a1) = s12 := zF_eq hr17
  refine dr_virt rfl rfl rfl rfl hc16.1 (f_X0_holding l hl hI q6 hc16 (a1 := a2) (by omega) (by omega)) (by decide) (by decide) (by decide) (Nat.le_of_ble_eq_true rfl) kNP (kIP (fun y23 y23f y23a y23b => ?_))
  obtain ⟨y23c, y23d, y23k⟩ := y23f
  have e9 : anHold (σ.1 a1) a2 = y23 := hold_e hr17 ht18 y23k
  exact dr_iret (ty := .int) rfl rfl rfl (by decide) (by decide) (QX_ok hI FrC_rf hS (by omega) (by unfold spHolders; (try rw [e9]); (repeat' split) <;> first | rfl | (exfalso; omega) | (apply Prod.ext <;> first | rfl | (dsimp only; omega) | (apply Prod.ext <;> first | rfl | (dsimp only; omega)))))
set_option maxHeartbeats 4000000 in
set_option maxRecDepth 100000 in
/-- Earlyends.unheld -/
theorem c_X6_unheld (l : Launch) (hl : l.stackTraces = false) {kc km : Int} {h : dm_H} (hI : Inv kc km h) {B : Int} {σ : St} (hS : CSt B σ h) (hB : B ≤ 80000) {a1 : Int} (h1a : -2147483648 ≤ a1) (h1b : a1 ≤ 2147483647) {a2 : Int} (h2a : -2147483648 ≤ a2) (h2b : a2 ≤ 2147483647) : dm_M l 92 6 8 48 [.ref 0, dI (a1), dI (a2)] h (QX kc km h B XB XA (spUnheld σ a1 a2)) := by
  refine dm_M_of dk_92 hl rfl (Nat.le_of_ble_eq_true rfl) ?_
  show dm_W (fun _ _ _ => True) (dm_P (QX kc km h B XB XA (spUnheld σ a1 a2)) 8 48) l 92 6 8 48 0 [some (.ref 0), some (dI (a1)), some (dI (a2)), none] [] h 0 0
  refine di_aload_n rfl rfl ?_
  refine dr_iload_n rfl rfl ?_
  obtain ⟨r1, c2, c3, hc4⟩ := I_cls hI
  refine dr_virt rfl rfl rfl rfl hc4 (f_X6_bookAt l hl hI (a1 := a1) (by omega) (by omega)) (by decide) (by decide) (by decide) (Nat.le_of_ble_eq_true rfl) (fun Y h9 q9 => by obtain ⟨rfl, rfl, hC⟩ := q9; exact dr_out rfl (by decide) (by decide) (QX_1 (a := 0) hI FrC_rf hS (by omega) (by unfold spUnheld; (repeat' split) <;> first | rfl | (exfalso; omega) | (apply Prod.ext <;> first | rfl | (dsimp only; omega) | (apply Prod.ext <;> first | rfl | (dsimp only; omega)))))) (kPXR (fun r5 ⟨q6, q7, q8, q10⟩ => ?_))
  refine di_astore_n (ls2 := [some (.ref 0), some (dI (a1)), some (dI (a2)), some (.ref r5)]) rfl rfl rfl ?_
  refine di_aload_n rfl rfl ?_
  refine dr_iload_n rfl rfl ?_
  obtain ⟨s11, m12, u13, w14, hc15, hr16, ht17, ma18, mb19⟩ := CSt_bk hS (k := a1) q8 q10 q7
  have sq20 : 0 ≤ s11 ∧ s11 ≤ 8 := ⟨hc15.2.2.2.2.2.1, hc15.2.2.2.2.2.2.1⟩
  have hz21 : zF (σ.1 a1) = s11 := zF_eq hr16
  refine dr_stat rfl rfl rfl rfl (f_X6_needSet l hl hI q6 hc15 (a1 := a2) (by omega) (by omega)) (by decide) (by decide) (by decide) (Nat.le_of_ble_eq_true rfl) (fun Y h9 q9 => by obtain ⟨rfl, rfl, hC⟩ := q9; exact dr_out rfl (by decide) (by decide) (QX_2 (a := 0) hI FrC_rf hS (by omega) (by unfold spUnheld; (try rw [hz21]); (repeat' split) <;> first | rfl | (exfalso; omega) | (apply Prod.ext <;> first | rfl | (dsimp only; omega) | (apply Prod.ext <;> first | rfl | (dsimp only; omega)))))) (kPXV (fun q22 => ?_))
  have p823 := pwI_8 (r := s11) (by omega) (by omega)
  have p823c : a2 ≤ 255 := by omega
  refine di_aload_n rfl rfl ?_
  refine dr_virt rfl rfl rfl rfl hc15.1 (f_X0_count l hl hI q6 hc15 ) (by decide) (by decide) (by decide) (Nat.le_of_ble_eq_true rfl) kNP (kIP (fun y24 y24f y24a y24b => ?_))
  obtain ⟨y24c, y24d, y24e⟩ := y24f
  have y24e2 := y24e.symm
  subst y24e2
  refine di_aload_n rfl rfl ?_
  refine dr_iload_n rfl rfl ?_
  refine dr_virt rfl rfl rfl rfl hc15.1 (f_X0_holdingEndsOf l hl hI q6 hc15 (a1 := a2) (by omega) (by omega)) (by decide) (by decide) (by decide) (Nat.le_of_ble_eq_true rfl) kNP (kIP (fun y25 y25f y25a y25b => ?_))
  obtain ⟨y25c, y25d, y25k⟩ := y25f
  refine dr_stat rfl rfl rfl rfl (f_bitCount l hl (a0 := y25) (by omega) (by omega)) (by decide) (by decide) (by decide) (Nat.le_of_ble_eq_true rfl) kNP (kIP (fun y26 y26f y26a y26b => ?_))
  have y26f : y26 = bb y25 8 := y26f
  subst y26f
  refine di_isub rfl ?_
  have b89 := bb_8 (s := y25) (by omega) (by omega)
  have b09 := bb_nn y25 8
  have e9 : anUnheld (σ.1 a1) a2 = (s11 - (bb y25 8)) := unh_e hr16 ht17 y25k
  exact dr_iret (ty := .int) rfl rfl rfl (by decide) (by decide) (QX_ok hI FrC_rf hS (by omega) (by unfold spUnheld; (try rw [hz21]); (try rw [e9]); (repeat' split) <;> first | rfl | (exfalso; omega) | (apply Prod.ext <;> first | rfl | (dsimp only; omega) | (apply Prod.ext <;> first | rfl | (dsimp only; omega)))))
set_option maxHeartbeats 4000000 in
set_option maxRecDepth 100000 in
/-- Earlyends.choice -/
theorem c_X6_choice (l : Launch) (hl : l.stackTraces = false) {kc km : Int} {h : dm_H} (hI : Inv kc km h) {B : Int} {σ : St} (hS : CSt B σ h) (hB : B ≤ 80000) {a1 : Int} (h1a : -2147483648 ≤ a1) (h1b : a1 ≤ 2147483647) {a2 : Int} (h2a : -2147483648 ≤ a2) (h2b : a2 ≤ 2147483647) : dm_M l 91 6 8 48 [.ref 0, dI (a1), dI (a2)] h (QX kc km h B XB XA (spChoice σ a1 a2)) := by
  refine dm_M_of dk_91 hl rfl (Nat.le_of_ble_eq_true rfl) ?_
  show dm_W (fun _ _ _ => True) (dm_P (QX kc km h B XB XA (spChoice σ a1 a2)) 8 48) l 91 6 8 48 0 [some (.ref 0), some (dI (a1)), some (dI (a2)), none, none] [] h 0 0
  refine di_aload_n rfl rfl ?_
  refine dr_iload_n rfl rfl ?_
  obtain ⟨r1, c2, c3, hc4⟩ := I_cls hI
  refine dr_virt rfl rfl rfl rfl hc4 (f_X6_bookAt l hl hI (a1 := a1) (by omega) (by omega)) (by decide) (by decide) (by decide) (Nat.le_of_ble_eq_true rfl) (fun Y h9 q9 => by obtain ⟨rfl, rfl, hC⟩ := q9; exact dr_out rfl (by decide) (by decide) (QX_1 (a := 0) hI FrC_rf hS (by omega) (by unfold spChoice; (repeat' split) <;> first | rfl | (exfalso; omega) | (apply Prod.ext <;> first | rfl | (dsimp only; omega) | (apply Prod.ext <;> first | rfl | (dsimp only; omega)))))) (kPXR (fun r5 ⟨q6, q7, q8, q10⟩ => ?_))
  refine di_astore_n (ls2 := [some (.ref 0), some (dI (a1)), some (dI (a2)), some (.ref r5), none]) rfl rfl rfl ?_
  refine di_aload_n rfl rfl ?_
  refine dr_iload_n rfl rfl ?_
  obtain ⟨s11, m12, u13, w14, hc15, hr16, ht17, ma18, mb19⟩ := CSt_bk hS (k := a1) q8 q10 q7
  have sq20 : 0 ≤ s11 ∧ s11 ≤ 8 := ⟨hc15.2.2.2.2.2.1, hc15.2.2.2.2.2.2.1⟩
  have hz21 : zF (σ.1 a1) = s11 := zF_eq hr16
  refine dr_stat rfl rfl rfl rfl (f_X6_needSet l hl hI q6 hc15 (a1 := a2) (by omega) (by omega)) (by decide) (by decide) (by decide) (Nat.le_of_ble_eq_true rfl) (fun Y h9 q9 => by obtain ⟨rfl, rfl, hC⟩ := q9; exact dr_out rfl (by decide) (by decide) (QX_2 (a := 0) hI FrC_rf hS (by omega) (by unfold spChoice; (try rw [hz21]); (repeat' split) <;> first | rfl | (exfalso; omega) | (apply Prod.ext <;> first | rfl | (dsimp only; omega) | (apply Prod.ext <;> first | rfl | (dsimp only; omega)))))) (kPXV (fun q22 => ?_))
  have p823 := pwI_8 (r := s11) (by omega) (by omega)
  have p823c : a2 ≤ 255 := by omega
  refine di_const rfl ?_
  refine di_istore (ls2 := [some (.ref 0), some (dI (a1)), some (dI (a2)), some (.ref r5), some (dI (0))]) rfl rfl rfl ?_
  have L25 : ∀ (n : Nat) (i24 : Int), (8 - i24).toNat < n → 0 ≤ i24 → i24 ≤ 8 → i24 ≤ s11 → chP i24 (cv u13) s11 a2 → dm_W (fun _ _ _ => True) (dm_P (QX kc km h B XB XA (spChoice σ a1 a2)) 8 48) l 91 6 8 48 14 [some (.ref 0), some (dI (a1)), some (dI (a2)), some (.ref r5), some (dI (i24))] [] h 2 12 := by
    intro n
    induction n with
    | zero => intro i24 hm; exact absurd hm (Nat.not_lt_zero _)
    | succ n ih =>
      intro i24 hm29 hb26 hb27 hx28 PA
      have ihL25 := ih
      clear ih
      refine dr_iload rfl rfl ?_
      refine di_aload_n rfl rfl ?_
      refine dr_virt rfl rfl rfl rfl hc15.1 (f_X0_count l hl hI q6 hc15 ) (by decide) (by decide) (by decide) (Nat.le_of_ble_eq_true rfl) kNP (kIP (fun y30 y30f y30a y30b => ?_))
      obtain ⟨y30c, y30d, y30e⟩ := y30f
      have y30e2 := y30e.symm
      subst y30e2
      refine di_icmp_ge rfl rfl (by omega) (by omega) (by omega) (by omega) (fun c31 => ?_) (fun c31 => ?_)
      · skip
        refine dr_iload_n rfl rfl ?_
        refine dr_stat rfl rfl rfl rfl (f_bitCount l hl (a0 := a2) (by omega) (by omega)) (by decide) (by decide) (by decide) (Nat.le_of_ble_eq_true rfl) kNP (kIP (fun y32 y32f y32a y32b => ?_))
        have y32f : y32 = bb a2 8 := y32f
        subst y32f
        have b89 := bb_8 (s := a2) (by omega) (by omega)
        have b09 := bb_nn a2 8
        have e9 : anChoice (σ.1 a1) a2 = bb a2 8 := cho_y hr16 ht17 (ch_e PA (by omega))
        exact dr_iret (ty := .int) rfl rfl rfl (by decide) (by decide) (QX_ok hI FrC_rf hS (by omega) (by unfold spChoice; (try rw [hz21]); (try rw [e9]); (repeat' split) <;> first | rfl | (exfalso; omega) | (apply Prod.ext <;> first | rfl | (dsimp only; omega) | (apply Prod.ext <;> first | rfl | (dsimp only; omega)))))
      · skip
        refine dr_iload_n rfl rfl ?_
        refine dr_iload rfl rfl ?_
        refine dr_stat rfl rfl rfl rfl (f_X6_isInSet l hl hI (a0 := a2) (by omega) (by omega) (a1 := i24) (by omega) (by omega)) (by decide) (by decide) (by decide) (Nat.le_of_ble_eq_true rfl) kNP (kIP (fun y33 y33f y33a y33b => ?_))
        obtain ⟨y33c, y33d, y33k, y33k2⟩ := y33f
        refine di_if_eq rfl rfl (by omega) (by omega) (fun c34 => ?_) (fun c34 => ?_)
        · skip
          refine di_iinc (ls2 := [some (.ref 0), some (dI (a1)), some (dI (a2)), some (.ref r5), some (dI ((i24 + 1)))]) rfl rfl rfl rfl ?_
          refine dr_goto rfl rfl ?_
          exact ihL25 ((i24 + 1)) (by omega) (by omega) (by omega) (by omega)  (ch_n PA (y33k2 (by omega)))
        · skip
          refine di_aload_n rfl rfl ?_
          refine dr_iload rfl rfl ?_
          refine dr_virt rfl rfl rfl rfl hc15.1 (f_X0_meeting l hl hI q6 hc15 (a1 := i24) (by omega) (by omega) (by omega) (by omega)) (by decide) (by decide) (by decide) (Nat.le_of_ble_eq_true rfl) kNP (kIP (fun y35 y35f y35a y35b => ?_))
          obtain ⟨y35c, y35d, y35k⟩ := y35f
          refine dr_iload_n rfl rfl ?_
          refine di_and rfl (by omega) (by omega) (by omega) (fun x36 x36a x36b x36e => ?_)
          refine di_const rfl ?_
          refine dr_iload rfl rfl ?_
          refine di_shl7 rfl (by omega) (by omega) (fun w37 w37a w37b w37e => ?_)
          refine di_icmp_eq rfl rfl (by omega) (by omega) (by omega) (by omega) (fun c38 => ?_) (fun c38 => ?_)
          · skip
            refine di_iinc (ls2 := [some (.ref 0), some (dI (a1)), some (dI (a2)), some (.ref r5), some (dI ((i24 + 1)))]) rfl rfl rfl rfl ?_
            refine dr_goto rfl rfl ?_
            exact ihL25 ((i24 + 1)) (by omega) (by omega) (by omega) (by omega)  (ch_y PA (by omega) (by omega) (by omega) (by omega) (by omega) y35k x36e w37e (by omega))
          · skip
            refine di_const rfl ?_
            have ra9 := (CA_arr hc15).1 i24 (by omega) (by omega)
            have e9 : anChoice (σ.1 a1) a2 = -1 := cho_n hr16 ht17 (ch_x (by omega) (by omega) (by omega) (by omega) (by omega) (y33k (by omega)) ra9 y35k x36e w37e (by omega))
            exact dr_iret (ty := .int) rfl rfl rfl (by decide) (by decide) (QX_ok hI FrC_rf hS (by omega) (by unfold spChoice; (try rw [hz21]); (try rw [e9]); (repeat' split) <;> first | rfl | (exfalso; omega) | (apply Prod.ext <;> first | rfl | (dsimp only; omega) | (apply Prod.ext <;> first | rfl | (dsimp only; omega)))))
  exact L25 _ (0) (Nat.lt_succ_self _) (by omega) (by omega) (by omega)  ch_0
