/-! ===== sets of ranks as bits ===== -/
def orI (a b : Int) : Int := ((a.toNat ||| b.toNat : Nat) : Int)
def pwI (r : Int) : Int := ((2 ^ r.toNat : Nat) : Int)
theorem or_i {a b : Int} (ha : 0 ≤ a) (hb : 0 ≤ b) : Int32.ofInt a ||| Int32.ofInt b = Int32.ofInt (orI a b) := by
  obtain ⟨n, rfl⟩ := Int.eq_ofNat_of_zero_le ha
  obtain ⟨m, rfl⟩ := Int.eq_ofNat_of_zero_le hb
  show Int32.ofInt (n : Int) ||| Int32.ofInt (m : Int) = Int32.ofInt ((n ||| m : Nat) : Int)
  apply Int32.toBitVec_inj.mp
  simp only [Int32.toBitVec_or, Int32.toBitVec_ofInt, BitVec.ofInt_natCast, BitVec.ofNat_or]
theorem orI_b {a b : Int} (a0 : 0 ≤ a) (a1 : a ≤ 255) (b0 : 0 ≤ b) (b1 : b ≤ 255) : 0 ≤ orI a b ∧ orI a b ≤ 255 := by
  have h := Nat.or_lt_two_pow (x := a.toNat) (y := b.toNat) (n := 8) (by omega) (by omega)
  unfold orI
  omega
theorem pwI_b {r : Int} (h0 : 0 ≤ r) (h1 : r ≤ 7) : 1 ≤ pwI r ∧ pwI r ≤ 128 := by
  rcases (by omega : r = 0 ∨ r = 1 ∨ r = 2 ∨ r = 3 ∨ r = 4 ∨ r = 5 ∨ r = 6 ∨ r = 7) with rfl | rfl | rfl | rfl | rfl | rfl | rfl | rfl <;> decide
section BITR
variable {E : dm_Ex} {P : dm_Po} {l : Launch} {z d MC MS pc ce sl : Nat} {ls : List (Option Value)} {st : List Value} {h : dm_H}
theorem di_or {a b : Int} (hi : dm_at z pc = some (.ior, 1, [])) (a0 : 0 ≤ a) (a1 : a ≤ 255) (b0 : 0 ≤ b) (b1 : b ≤ 255) (kk : ∀ x : Int, 0 ≤ x → x ≤ 255 → x = orI a b → dm_W E P l z d MC MS (pc + 1) ls (dI x :: st) h ce sl) : dm_W E P l z d MC MS pc ls (dI b :: dI a :: st) h ce sl := dr_ior hi (or_i a0 b0) (kk _ (orI_b a0 a1 b0 b1).1 (orI_b a0 a1 b0 b1).2 rfl)
theorem di_shl8 {r : Int} (hi : dm_at z pc = some (.ishl, 1, [])) (h0 : 0 ≤ r) (h1 : r ≤ 8) (kk : ∀ x : Int, 1 ≤ x → x ≤ 256 → x = pwI r → dm_W E P l z d MC MS (pc + 1) ls (dI x :: st) h ce sl) : dm_W E P l z d MC MS pc ls (dI r :: dI 1 :: st) h ce sl := di_shl1 hi h0 h1 (fun x a b e => kk x a b (e.trans (by rcases (by omega : r = 0 ∨ r = 1 ∨ r = 2 ∨ r = 3 ∨ r = 4 ∨ r = 5 ∨ r = 6 ∨ r = 7 ∨ r = 8) with rfl | rfl | rfl | rfl | rfl | rfl | rfl | rfl | rfl <;> rfl)))
theorem di_shl7 {r : Int} (hi : dm_at z pc = some (.ishl, 1, [])) (h0 : 0 ≤ r) (h1 : r ≤ 7) (kk : ∀ x : Int, 1 ≤ x → x ≤ 128 → x = pwI r → dm_W E P l z d MC MS (pc + 1) ls (dI x :: st) h ce sl) : dm_W E P l z d MC MS pc ls (dI r :: dI 1 :: st) h ce sl := di_shl8 hi h0 (by omega) (fun x a b e => kk x a (by have := (pwI_b h0 h1).2; omega) e)
end BITR
/-- rank r is in the set S -/
def hbt (S r : Int) : Prop := S.toNat.testBit r.toNat = true
def sB (S : Int) (Q : Int → Prop) : Prop := (0 ≤ S ∧ S ≤ 255) ∧ ∀ r : Int, 0 ≤ r → r ≤ 7 → (hbt S r ↔ Q r)
section SB
variable {S T x w n s A : Int} {Q R H : Int → Prop} {f : Int → Int}
theorem sB_uq (a : sB S Q) (b : sB T Q) : S = T := by
  have e : S.toNat = T.toNat := by
    apply Nat.eq_of_testBit_eq
    intro i
    by_cases q : i < 8
    · have h3 : hbt S i ↔ hbt T i := (a.2 (i : Int) (by omega) (by omega)).trans (b.2 (i : Int) (by omega) (by omega)).symm
      unfold hbt at h3
      rw [Int.toNat_natCast] at h3
      exact Bool.eq_iff_iff.mpr h3
    · have p : 2 ^ 8 ≤ 2 ^ i := Nat.pow_le_pow_right (by decide) (by omega)
      have h1 := a.1
      have h2 := b.1
      rw [Nat.testBit_lt_two_pow (Nat.lt_of_lt_of_le (show S.toNat < 2 ^ 8 by omega) p), Nat.testBit_lt_two_pow (Nat.lt_of_lt_of_le (show T.toNat < 2 ^ 8 by omega) p)]
  have h1 := a.1
  have h2 := b.1
  omega
theorem sB_cg (a : sB S Q) (h : ∀ r : Int, 0 ≤ r → r ≤ 7 → (Q r ↔ R r)) : sB S R := ⟨a.1, fun r r0 r1 => (a.2 r r0 r1).trans (h r r0 r1)⟩
theorem sB_0 : sB 0 (fun _ => False) := ⟨by decide, fun r _ _ => by unfold hbt; simp⟩
theorem sB_or (a : sB S Q) (b : sB T R) : sB (orI S T) (fun r => Q r ∨ R r) := ⟨orI_b a.1.1 a.1.2 b.1.1 b.1.2, fun r r0 r1 => by
  have e : (orI S T).toNat.testBit r.toNat = (S.toNat.testBit r.toNat || T.toNat.testBit r.toNat) := by unfold orI; rw [Int.toNat_natCast, Nat.testBit_or]
  unfold hbt
  rw [e, Bool.or_eq_true]
  exact or_congr (a.2 r r0 r1) (b.2 r r0 r1)⟩
theorem sB_pw (h0 : 0 ≤ n) (h1 : n ≤ 7) : sB (pwI n) (fun r => r = n) := ⟨by have := pwI_b h0 h1; omega, fun r r0 r1 => by
  have e : (pwI n).toNat.testBit r.toNat = decide (n.toNat = r.toNat) := by unfold pwI; rw [Int.toNat_natCast, Nat.testBit_two_pow]
  unfold hbt
  rw [e, decide_eq_true_iff]
  omega⟩
/-- the ranks below n that are so -/
def hsP (S n : Int) (H : Int → Prop) : Prop := sB S (fun r => r < n ∧ H r)
theorem hs_0 : hsP 0 0 H := sB_cg sB_0 (fun r r0 r1 => ⟨fun h => h.elim, fun h => by have := h.1; omega⟩)
theorem hs_y (h : hsP S n H) (n0 : 0 ≤ n) (n7 : n ≤ 7) (hH : H n) (ew : w = pwI n) (ex : x = orI S w) : hsP x (n + 1) H := by
  subst ew; subst ex
  refine sB_cg (sB_or h (sB_pw n0 n7)) (fun r r0 r1 => ⟨fun q => ?_, fun q => ?_⟩)
  · rcases q with q | q
    · exact ⟨by have := q.1; omega, q.2⟩
    · rw [q]; exact ⟨by omega, hH⟩
  · by_cases e : r = n
    · exact Or.inr e
    · exact Or.inl ⟨by have := q.1; omega, q.2⟩
theorem hs_n (h : hsP S n H) (hH : ¬ H n) : hsP S (n + 1) H := by
  refine sB_cg h (fun r r0 r1 => ⟨fun q => ⟨by have := q.1; omega, q.2⟩, fun q => ⟨?_, q.2⟩⟩)
  by_cases e : r = n
  · rw [e] at q; exact absurd q.2 hH
  · have := q.1; omega
end SB
/-- the code of a rank -/
noncomputable def cR (F : Int → Int) (r : Int) : Int := Classical.epsilon (fun x : Int => rkC F r x)
section CR
variable {f g F : Int → Int} {s A p S : Int}
theorem cR_eq (hr : Rep f g s F) (ht : Srt f s) {j : Int} (j0 : 0 ≤ j) (j1 : j < s) : cR F j = f j := by
  have k : rkC F j (f j) := rkC_y (Rep_yes hr j0 j1 rfl).2.1 (rk_srt hr ht j0 j1)
  exact (rkC_s (Classical.epsilon_spec (p := fun x : Int => rkC F j x) ⟨_, k⟩) hr ht).1 j0 j1
noncomputable def anHold (F : Int → Int) (p : Int) : Int := Classical.epsilon (fun S : Int => hsP S (zF F) (fun r => cR F r % 100 ≤ p ∧ p ≤ cR F r / 100))
theorem hold_e (hr : Rep f g s F) (ht : Srt f s) (h : hsP S s (fun r => f r % 100 ≤ p ∧ p ≤ f r / 100)) : anHold F p = S := by
  have h2 : hsP S (zF F) (fun r => cR F r % 100 ≤ p ∧ p ≤ cR F r / 100) := by
    rw [zF_eq hr]
    refine sB_cg h (fun r r0 r1 => ⟨fun q => ⟨q.1, ?_⟩, fun q => ⟨q.1, ?_⟩⟩)
    · show cR F r % 100 ≤ p ∧ p ≤ cR F r / 100
      rw [cR_eq hr ht r0 q.1]; exact q.2
    · have k : cR F r % 100 ≤ p ∧ p ≤ cR F r / 100 := q.2
      rw [cR_eq hr ht r0 q.1] at k; exact k
  exact sB_uq (Classical.epsilon_spec (p := fun S : Int => hsP S (zF F) (fun r => cR F r % 100 ≤ p ∧ p ≤ cR F r / 100)) ⟨S, h2⟩) h2
end CR
noncomputable def spHolders (σ : St) (b p : Int) : Int × Int × St := if b < 0 ∨ 2 < b then (1, 0, σ) else if p < 0 ∨ 99 < p then (2, 0, σ) else (0, anHold (σ.1 b) p, σ)
/-! the JDK's bitCount -/
set_option maxRecDepth 100000 in
theorem f_X6_needPlace (l : Launch) (hl : l.stackTraces = false) {kc km : Int} {h : dm_H} (hI : Inv kc km h) {a0 : Int} (h0a : -2147483648 ≤ a0) (h0b : a0 ≤ 2147483647) : dm_M l 118 1 1 6 [dI a0] h (QPX h (fun v => v = none ∧ (0 ≤ a0 ∧ a0 ≤ 99)) XA (a0 < 0 ∨ 99 < a0)) := by
  refine dm_M_of dk_118 hl rfl (Nat.le_of_ble_eq_true rfl) ?_
  show dm_W (fun _ _ _ => True) (dm_P (QPX h (fun v => v = none ∧ (0 ≤ a0 ∧ a0 ≤ 99)) XA (a0 < 0 ∨ 99 < a0)) 1 6) l 118 1 1 6 0 [some (dI a0)] [] h 0 0
  refine dr_iload_n rfl rfl ?_
  refine di_if_lt rfl rfl (by omega) (by omega) (fun c1 => ?_) (fun c1 => ?_)
  · exact dr_throw rfl (by decide) rfl (by decide) (by decide) (by decide) (Nat.le_of_ble_eq_true rfl) ⟨rfl, rfl, by omega⟩
  refine dr_iload_n rfl rfl ?_
  refine di_bipush rfl (by decide) ?_
  refine di_icmp_lt rfl rfl (by omega) (by omega) (by omega) (by omega) (fun c3 => ?_) (fun c3 => ?_)
  · exact dr_vret rfl rfl (by decide) (by decide) ⟨rfl, rfl, by omega, by omega⟩
  · exact dr_throw rfl (by decide) rfl (by decide) (by decide) (by decide) (Nat.le_of_ble_eq_true rfl) ⟨rfl, rfl, by omega⟩
set_option maxHeartbeats 4000000 in
set_option maxRecDepth 100000 in
/-- Earlyends$Book.fromAt -/
theorem f_X0_fromAt (l : Launch) (hl : l.stackTraces = false) {kc km : Int} {h : dm_H} (hI : Inv kc km h) {b0 : Nat} (hb0 : isBk b0) {s0 m0 : Int} {u0 w0 : List Value} (hC0 : CA b0 s0 m0 u0 w0 h) {a1 : Int} (h1a : -2147483648 ≤ a1) (h1b : a1 ≤ 2147483647) : dm_M l 5 0 0 0 [.ref b0, dI (a1)] h (QP h (RI (fun x => -1 ≤ x ∧ x ≤ 99 ∧ (0 ≤ a1 → a1 < s0 → x = cv u0 a1 % 100) ∧ (a1 < 0 → x = -1) ∧ (s0 ≤ a1 → x = -1))) []) := by
  obtain ⟨hq0, hu0, hw0, hau0, haw0, hs0a, hs0b, hm0a, hm0b⟩ := id hC0
  refine dm_M_of dk_5 hl rfl (Nat.le_of_ble_eq_true rfl) ?_
  show dm_W (fun _ _ _ => True) (dm_P (QP h (RI (fun x => -1 ≤ x ∧ x ≤ 99 ∧ (0 ≤ a1 → a1 < s0 → x = cv u0 a1 % 100) ∧ (a1 < 0 → x = -1) ∧ (s0 ≤ a1 → x = -1))) []) 0 0) l 5 0 0 0 0 [some (.ref b0), some (dI (a1))] [] h 0 0
  refine dr_iload_n rfl rfl ?_
  refine di_if_lt rfl rfl (by omega) (by omega) (fun c1 => ?_) (fun c1 => ?_)
  · skip
    refine di_const rfl ?_
    exact dr_iret (ty := .int) rfl rfl rfl (by decide) (by decide) ⟨rfl, (-1), (show -1 ≤ ((-1)) ∧ ((-1)) ≤ 99 ∧ (0 ≤ a1 → a1 < s0 → ((-1)) = cv u0 a1 % 100) ∧ (a1 < 0 → ((-1)) = -1) ∧ (s0 ≤ a1 → ((-1)) = -1) by omega), by omega, by omega, rfl⟩
  · skip
    refine dr_iload_n rfl rfl ?_
    refine di_aload_n rfl rfl ?_
    refine dr_getf rfl hq0 rfl ?_
    refine di_icmp_ge rfl rfl (by omega) (by omega) (by omega) (by omega) (fun c2 => ?_) (fun c2 => ?_)
    · skip
      refine di_const rfl ?_
      exact dr_iret (ty := .int) rfl rfl rfl (by decide) (by decide) ⟨rfl, (-1), (show -1 ≤ ((-1)) ∧ ((-1)) ≤ 99 ∧ (0 ≤ a1 → a1 < s0 → ((-1)) = cv u0 a1 % 100) ∧ (a1 < 0 → ((-1)) = -1) ∧ (s0 ≤ a1 → ((-1)) = -1) by omega), by omega, by omega, rfl⟩
    · skip
      refine di_aload_n rfl rfl ?_
      refine dr_getf rfl hq0 rfl ?_
      refine dr_iload_n rfl rfl ?_
      refine di_iald rfl hu0 hau0 (by omega) (by omega) (fun x3 x3f x3a x3b x3v => ?_)
      have x3w : cv u0 (a1) = x3 := cv_eq x3v x3a x3b
      have x3g : 0 ≤ x3 ∧ x3 ≤ 9999 ∧ x3 % 100 ≤ x3 / 100 := x3f
      refine di_bipush rfl (by decide) ?_
      refine di_irem rfl (by omega) (by omega) (by omega) (by omega) ?_
      refine dr_goto rfl rfl ?_
      exact dr_iret (ty := .int) rfl rfl rfl (by decide) (by decide) ⟨rfl, (x3 % 100), (show -1 ≤ ((x3 % 100)) ∧ ((x3 % 100)) ≤ 99 ∧ (0 ≤ a1 → a1 < s0 → ((x3 % 100)) = cv u0 a1 % 100) ∧ (a1 < 0 → ((x3 % 100)) = -1) ∧ (s0 ≤ a1 → ((x3 % 100)) = -1) by omega), by omega, by omega, rfl⟩
set_option maxHeartbeats 4000000 in
set_option maxRecDepth 100000 in
/-- Earlyends$Book.doesHold -/
theorem f_X0_doesHold (l : Launch) (hl : l.stackTraces = false) {kc km : Int} {h : dm_H} (hI : Inv kc km h) {b0 : Nat} (hb0 : isBk b0) {s0 m0 : Int} {u0 w0 : List Value} (hC0 : CA b0 s0 m0 u0 w0 h) {a1 : Int} (h1a : -2147483648 ≤ a1) (h1b : a1 ≤ 2147483647) {a2 : Int} (h2a : -2147483648 ≤ a2) (h2b : a2 ≤ 2147483647) (hp0 : 0 ≤ a1) (hp1 : a1 < s0) : dm_M l 20 1 0 0 [.ref b0, dI (a1), dI (a2)] h (QP h (RI (fun x => 0 ≤ x ∧ x ≤ 1 ∧ (x = 1 → cv u0 a1 % 100 ≤ a2 ∧ a2 ≤ cv u0 a1 / 100) ∧ (x = 0 → a2 < cv u0 a1 % 100 ∨ cv u0 a1 / 100 < a2))) []) := by
  obtain ⟨hq0, hu0, hw0, hau0, haw0, hs0a, hs0b, hm0a, hm0b⟩ := id hC0
  refine dm_M_of dk_20 hl rfl (Nat.le_of_ble_eq_true rfl) ?_
  show dm_W (fun _ _ _ => True) (dm_P (QP h (RI (fun x => 0 ≤ x ∧ x ≤ 1 ∧ (x = 1 → cv u0 a1 % 100 ≤ a2 ∧ a2 ≤ cv u0 a1 / 100) ∧ (x = 0 → a2 < cv u0 a1 % 100 ∨ cv u0 a1 / 100 < a2))) []) 0 0) l 20 1 0 0 0 [some (.ref b0), some (dI (a1)), some (dI (a2))] [] h 0 0
  refine di_aload_n rfl rfl ?_
  refine dr_iload_n rfl rfl ?_
  refine dr_virt rfl rfl rfl rfl hq0 (f_X0_fromAt l hl hI (b0 := b0) hb0 (s0 := s0) (m0 := m0) (u0 := u0) (w0 := w0) ⟨hq0, hu0, hw0, hau0, haw0, by omega, by omega, by omega, by omega⟩ (a1 := a1) (by omega) (by omega)) (by decide) (by decide) (by decide) (Nat.le_of_ble_eq_true rfl) kNP (kIP (fun y1 y1f y1a y1b => ?_))
  have y1g : -1 ≤ y1 ∧ y1 ≤ 99 ∧ (0 ≤ (a1) → (a1) < (s0) → y1 = cv u0 (a1) % 100) ∧ ((a1) < 0 → y1 = -1) ∧ ((s0) ≤ (a1) → y1 = -1) := y1f
  clear y1f
  refine dr_iload_n rfl rfl ?_
  refine di_icmp_gt rfl rfl (by omega) (by omega) (by omega) (by omega) (fun c2 => ?_) (fun c2 => ?_)
  · skip
    refine di_const rfl ?_
    exact dr_iret (ty := .boolean) rfl rfl (nar_z (by omega) (by omega)) (by decide) (by decide) ⟨rfl, 0, (show 0 ≤ (0) ∧ (0) ≤ 1 ∧ ((0) = 1 → cv u0 a1 % 100 ≤ a2 ∧ a2 ≤ cv u0 a1 / 100) ∧ ((0) = 0 → a2 < cv u0 a1 % 100 ∨ cv u0 a1 / 100 < a2) by omega), by omega, by omega, rfl⟩
  · skip
    refine dr_iload_n rfl rfl ?_
    refine di_aload_n rfl rfl ?_
    refine dr_iload_n rfl rfl ?_
    refine dr_virt rfl rfl rfl rfl hq0 (f_X0_toAt l hl hI (b0 := b0) hb0 (s0 := s0) (m0 := m0) (u0 := u0) (w0 := w0) ⟨hq0, hu0, hw0, hau0, haw0, by omega, by omega, by omega, by omega⟩ (a1 := a1) (by omega) (by omega)) (by decide) (by decide) (by decide) (Nat.le_of_ble_eq_true rfl) kNP (kIP (fun y3 y3f y3a y3b => ?_))
    have y3g : -1 ≤ y3 ∧ y3 ≤ 99 ∧ (0 ≤ (a1) → (a1) < (s0) → y3 = cv u0 (a1) / 100) ∧ ((a1) < 0 → y3 = -1) ∧ ((s0) ≤ (a1) → y3 = -1) := y3f
    clear y3f
    refine di_icmp_gt rfl rfl (by omega) (by omega) (by omega) (by omega) (fun c4 => ?_) (fun c4 => ?_)
    · skip
      refine di_const rfl ?_
      exact dr_iret (ty := .boolean) rfl rfl (nar_z (by omega) (by omega)) (by decide) (by decide) ⟨rfl, 0, (show 0 ≤ (0) ∧ (0) ≤ 1 ∧ ((0) = 1 → cv u0 a1 % 100 ≤ a2 ∧ a2 ≤ cv u0 a1 / 100) ∧ ((0) = 0 → a2 < cv u0 a1 % 100 ∨ cv u0 a1 / 100 < a2) by omega), by omega, by omega, rfl⟩
    · skip
      refine di_const rfl ?_
      refine dr_goto rfl rfl ?_
      exact dr_iret (ty := .boolean) rfl rfl (nar_z (by omega) (by omega)) (by decide) (by decide) ⟨rfl, 1, (show 0 ≤ (1) ∧ (1) ≤ 1 ∧ ((1) = 1 → cv u0 a1 % 100 ≤ a2 ∧ a2 ≤ cv u0 a1 / 100) ∧ ((1) = 0 → a2 < cv u0 a1 % 100 ∨ cv u0 a1 / 100 < a2) by omega), by omega, by omega, rfl⟩
set_option maxHeartbeats 4000000 in
set_option maxRecDepth 100000 in
/-- Earlyends$Book.holding -/
theorem f_X0_holding (l : Launch) (hl : l.stackTraces = false) {kc km : Int} {h : dm_H} (hI : Inv kc km h) {b0 : Nat} (hb0 : isBk b0) {s0 m0 : Int} {u0 w0 : List Value} (hC0 : CA b0 s0 m0 u0 w0 h) {a1 : Int} (h1a : -2147483648 ≤ a1) (h1b : a1 ≤ 2147483647) : dm_M l 22 2 0 0 [.ref b0, dI (a1)] h (QP h (RI (fun x => 0 ≤ x ∧ x ≤ 255 ∧ hsP x s0 (fun r => cv u0 r % 100 ≤ a1 ∧ a1 ≤ cv u0 r / 100))) []) := by
  obtain ⟨hq0, hu0, hw0, hau0, haw0, hs0a, hs0b, hm0a, hm0b⟩ := id hC0
  refine dm_M_of dk_22 hl rfl (Nat.le_of_ble_eq_true rfl) ?_
  show dm_W (fun _ _ _ => True) (dm_P (QP h (RI (fun x => 0 ≤ x ∧ x ≤ 255 ∧ hsP x s0 (fun r => cv u0 r % 100 ≤ a1 ∧ a1 ≤ cv u0 r / 100))) []) 0 0) l 22 2 0 0 0 [some (.ref b0), some (dI (a1)), none, none] [] h 0 0
  refine di_const rfl ?_
  refine di_istore_n (ls2 := [some (.ref b0), some (dI (a1)), some (dI (0)), none]) rfl rfl rfl ?_
  refine di_const rfl ?_
  refine di_istore_n (ls2 := [some (.ref b0), some (dI (a1)), some (dI (0)), some (dI (0))]) rfl rfl rfl ?_
  have L3 : ∀ (n : Nat) (i1 : Int) (i2 : Int), (8 - i2).toNat < n → 0 ≤ i1 → i1 ≤ 255 → 0 ≤ i2 → i2 ≤ 8 → i2 ≤ s0 → hsP i1 i2 (fun r => cv u0 r % 100 ≤ a1 ∧ a1 ≤ cv u0 r / 100) → dm_W (fun _ _ _ => True) (dm_P (QP h (RI (fun x => 0 ≤ x ∧ x ≤ 255 ∧ hsP x s0 (fun r => cv u0 r % 100 ≤ a1 ∧ a1 ≤ cv u0 r / 100))) []) 0 0) l 22 2 0 0 4 [some (.ref b0), some (dI (a1)), some (dI (i1)), some (dI (i2))] [] h 0 0 := by
    intro n
    induction n with
    | zero => intro i1 i2 hm; exact absurd hm (Nat.not_lt_zero _)
    | succ n ih =>
      intro i1 i2 hm10 hb4 hb5 hb6 hb7 hx8 PS
      have ihL3 := ih
      clear ih
      refine dr_iload_n rfl rfl ?_
      refine di_aload_n rfl rfl ?_
      refine dr_getf rfl hq0 rfl ?_
      refine di_icmp_ge rfl rfl (by omega) (by omega) (by omega) (by omega) (fun c11 => ?_) (fun c11 => ?_)
      · skip
        refine dr_iload_n rfl rfl ?_
        exact dr_iret (ty := .int) rfl rfl rfl (by decide) (by decide) ⟨rfl, i1, ⟨by omega, by omega, (by have q9 := PS; rw [show i2 = s0 by omega] at q9; exact q9 : hsP i1 s0 (fun r => cv u0 r % 100 ≤ a1 ∧ a1 ≤ cv u0 r / 100))⟩, by omega, by omega, rfl⟩
      · skip
        refine di_aload_n rfl rfl ?_
        refine dr_iload_n rfl rfl ?_
        refine dr_iload_n rfl rfl ?_
        refine dr_virt rfl rfl rfl rfl hq0 (f_X0_doesHold l hl hI (b0 := b0) hb0 (s0 := s0) (m0 := m0) (u0 := u0) (w0 := w0) ⟨hq0, hu0, hw0, hau0, haw0, by omega, by omega, by omega, by omega⟩ (a1 := i2) (by omega) (by omega) (a2 := a1) (by omega) (by omega) (by omega) (by omega)) (by decide) (by decide) (by decide) (Nat.le_of_ble_eq_true rfl) kNP (kIP (fun y12 y12f y12a y12b => ?_))
        have y12g : 0 ≤ y12 ∧ y12 ≤ 1 ∧ (y12 = 1 → cv u0 (i2) % 100 ≤ (a1) ∧ (a1) ≤ cv u0 (i2) / 100) ∧ (y12 = 0 → (a1) < cv u0 (i2) % 100 ∨ cv u0 (i2) / 100 < (a1)) := y12f
        clear y12f
        refine di_if_eq rfl rfl (by omega) (by omega) (fun c13 => ?_) (fun c13 => ?_)
        · skip
          refine di_iinc (ls2 := [some (.ref b0), some (dI (a1)), some (dI (i1)), some (dI ((i2 + 1)))]) rfl rfl rfl rfl ?_
          refine dr_goto rfl rfl ?_
          exact ihL3 (i1) ((i2 + 1)) (by omega) (by omega) (by omega) (by omega) (by omega) (by omega)  (hs_n PS (show ¬ (cv u0 i2 % 100 ≤ a1 ∧ a1 ≤ cv u0 i2 / 100) by omega))
        · skip
          refine dr_iload_n rfl rfl ?_
          refine di_const rfl ?_
          refine dr_iload_n rfl rfl ?_
          refine di_shl7 rfl (by omega) (by omega) (fun w14 w14a w14b w14e => ?_)
          refine di_or rfl (by omega) (by omega) (by omega) (by omega) (fun x15 x15a x15b x15e => ?_)
          refine di_istore_n (ls2 := [some (.ref b0), some (dI (a1)), some (dI (x15)), some (dI (i2))]) rfl rfl rfl ?_
          refine di_iinc (ls2 := [some (.ref b0), some (dI (a1)), some (dI (x15)), some (dI ((i2 + 1)))]) rfl rfl rfl rfl ?_
          refine dr_goto rfl rfl ?_
          exact ihL3 (x15) ((i2 + 1)) (by omega) (by omega) (by omega) (by omega) (by omega) (by omega)  (hs_y PS (by omega) (by omega) (show cv u0 i2 % 100 ≤ a1 ∧ a1 ≤ cv u0 i2 / 100 by omega) w14e x15e)
  exact L3 _ (0) (0) (Nat.lt_succ_self _) (by omega) (by omega) (by omega) (by omega) (by omega)  hs_0
set_option maxHeartbeats 4000000 in
set_option maxRecDepth 100000 in
/-- Earlyends.holders -/
theorem c_X6_holders (l : Launch) (hl : l.stackTraces = false) {kc km : Int} {h : dm_H} (hI : Inv kc km h) {B : Int} {σ : St} (hS : CSt B σ h) (hB : B ≤ 80000) {a1 : Int} (h1a : -2147483648 ≤ a1) (h1b : a1 ≤ 2147483647) {a2 : Int} (h2a : -2147483648 ≤ a2) (h2b : a2 ≤ 2147483647) : dm_M l 93 6 8 48 [.ref 0, dI (a1), dI (a2)] h (QX kc km h (B + 20) XB XA (spHolders σ a1 a2)) := by
  refine dm_M_of dk_93 hl rfl (Nat.le_of_ble_eq_true rfl) ?_
  show dm_W (fun _ _ _ => True) (dm_P (QX kc km h (B + 20) XB XA (spHolders σ a1 a2)) 8 48) l 93 6 8 48 0 [some (.ref 0), some (dI (a1)), some (dI (a2)), none] [] h 0 0
  refine di_aload_n rfl rfl ?_
  refine dr_iload_n rfl rfl ?_
  obtain ⟨r1, c2, c3, hc4⟩ := I_cls hI
  refine dr_virt rfl rfl rfl rfl hc4 (f_X6_bookAt l hl hI (a1 := a1) (by omega) (by omega)) (by decide) (by decide) (by decide) (Nat.le_of_ble_eq_true rfl) (fun Y h9 q9 => by obtain ⟨rfl, rfl, hC⟩ := q9; exact dr_out rfl (by decide) (by decide) (QX_1 (a := 0) hI FrC_rf hS (by omega) (by unfold spHolders; (repeat' split) <;> first | rfl | (exfalso; omega) | (apply Prod.ext <;> first | rfl | (dsimp only; omega) | (apply Prod.ext <;> first | rfl | (dsimp only; omega)))))) (kPXR (fun r5 ⟨q6, q7, q8, q10⟩ => ?_))
  refine di_astore_n (ls2 := [some (.ref 0), some (dI (a1)), some (dI (a2)), some (.ref r5)]) rfl rfl rfl ?_
  refine dr_iload_n rfl rfl ?_
  refine dr_stat rfl rfl rfl rfl (f_X6_needPlace l hl hI (a0 := a2) (by omega) (by omega)) (by decide) (by decide) (by decide) (Nat.le_of_ble_eq_true rfl) (fun Y h9 q9 => by obtain ⟨rfl, rfl, hC⟩ := q9; exact dr_out rfl (by decide) (by decide) (QX_2 (a := 0) hI FrC_rf hS (by omega) (by unfold spHolders; (repeat' split) <;> first | rfl | (exfalso; omega) | (apply Prod.ext <;> first | rfl | (dsimp only; omega) | (apply Prod.ext <;> first | rfl | (dsimp only; omega)))))) (kPXV (fun q11 => ?_))
  refine di_aload_n rfl rfl ?_
  refine dr_iload_n rfl rfl ?_
  obtain ⟨s12, m13, u14, w15, hc16, hr17, ht18, ma19, mb20⟩ := CSt_bk hS (k := a1) q8 q10 q7
  have sq21 : 0 ≤ s12 ∧ s12 ≤ 8 := ⟨hc16.2.2.2.2.2.1, hc16.2.2.2.2.2.2.1⟩
  have hz22 : zF (σ.1 a1) = s12 := zF_eq hr17
  refine dr_virt rfl rfl rfl rfl hc16.1 (f_X0_holding l hl hI q6 hc16 (a1 := a2) (by omega) (by omega)) (by decide) (by decide) (by decide) (Nat.le_of_ble_eq_true rfl) kNP (kIP (fun y23 y23f y23a y23b => ?_))
  obtain ⟨y23c, y23d, y23k⟩ := y23f
  have e9 : anHold (σ.1 a1) a2 = y23 := hold_e hr17 ht18 y23k
  exact dr_iret (ty := .int) rfl rfl rfl (by decide) (by decide) (QX_ok hI FrC_rf hS (by omega) (by unfold spHolders; (try rw [e9]); (repeat' split) <;> first | rfl | (exfalso; omega) | (apply Prod.ext <;> first | rfl | (dsimp only; omega) | (apply Prod.ext <;> first | rfl | (dsimp only; omega)))))
