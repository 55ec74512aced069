/-! ===== sets of ranks as bits ===== -/
def orI (a b : Int) : Int := ((a.toNat ||| b.toNat : Nat) : Int)
def andI (a b : Int) : Int := ((a.toNat &&& b.toNat : Nat) : Int)
def pwI (r : Int) : Int := ((2 ^ r.toNat : Nat) : Int)
theorem or_i {a b : Int} (ha : 0 ≤ a) (hb : 0 ≤ b) : Int32.ofInt a ||| Int32.ofInt b = Int32.ofInt (orI a b) := by
  obtain ⟨n, rfl⟩ := Int.eq_ofNat_of_zero_le ha
  obtain ⟨m, rfl⟩ := Int.eq_ofNat_of_zero_le hb
  show Int32.ofInt (n : Int) ||| Int32.ofInt (m : Int) = Int32.ofInt ((n ||| m : Nat) : Int)
  apply Int32.toBitVec_inj.mp
  simp only [Int32.toBitVec_or, Int32.toBitVec_ofInt, BitVec.ofInt_natCast, BitVec.ofNat_or]
theorem and_i {a b : Int} (ha : 0 ≤ a) (hb : 0 ≤ b) : Int32.ofInt a &&& Int32.ofInt b = Int32.ofInt (andI a b) := by
  obtain ⟨n, rfl⟩ := Int.eq_ofNat_of_zero_le ha
  obtain ⟨m, rfl⟩ := Int.eq_ofNat_of_zero_le hb
  show Int32.ofInt (n : Int) &&& Int32.ofInt (m : Int) = Int32.ofInt ((n &&& m : Nat) : Int)
  apply Int32.toBitVec_inj.mp
  simp only [Int32.toBitVec_and, Int32.toBitVec_ofInt, BitVec.ofInt_natCast, BitVec.ofNat_and]
theorem orI_b {a b : Int} (a0 : 0 ≤ a) (a1 : a ≤ 255) (b0 : 0 ≤ b) (b1 : b ≤ 255) : 0 ≤ orI a b ∧ orI a b ≤ 255 := by
  have h := Nat.or_lt_two_pow (x := a.toNat) (y := b.toNat) (n := 8) (by omega) (by omega)
  unfold orI
  omega
theorem andI_b {a b : Int} (a1 : a ≤ 255) : 0 ≤ andI a b ∧ andI a b ≤ 255 := by
  have h : a.toNat &&& b.toNat ≤ a.toNat := Nat.and_le_left
  unfold andI
  omega
theorem pwI_b {r : Int} (h0 : 0 ≤ r) (h1 : r ≤ 7) : 1 ≤ pwI r ∧ pwI r ≤ 128 := by
  rcases (by omega : r = 0 ∨ r = 1 ∨ r = 2 ∨ r = 3 ∨ r = 4 ∨ r = 5 ∨ r = 6 ∨ r = 7) with rfl | rfl | rfl | rfl | rfl | rfl | rfl | rfl <;> decide
theorem pwI_8 {r : Int} (h0 : 0 ≤ r) (h1 : r ≤ 8) : 1 ≤ pwI r ∧ pwI r ≤ 256 := by
  rcases (by omega : r = 8 ∨ r ≤ 7) with rfl | h
  · decide
  · have := pwI_b h0 h; omega
section BITR
variable {E : dm_Ex} {P : dm_Po} {l : Launch} {z d MC MS pc ce sl : Nat} {ls : List (Option Value)} {st : List Value} {h : dm_H}
theorem di_or {a b : Int} (hi : dm_at z pc = some (.ior, 1, [])) (a0 : 0 ≤ a) (a1 : a ≤ 255) (b0 : 0 ≤ b) (b1 : b ≤ 255) (kk : ∀ x : Int, 0 ≤ x → x ≤ 255 → x = orI a b → dm_W E P l z d MC MS (pc + 1) ls (dI x :: st) h ce sl) : dm_W E P l z d MC MS pc ls (dI b :: dI a :: st) h ce sl := dr_ior hi (or_i a0 b0) (kk _ (orI_b a0 a1 b0 b1).1 (orI_b a0 a1 b0 b1).2 rfl)
theorem di_and {a b : Int} (hi : dm_at z pc = some (.iand, 1, [])) (a0 : 0 ≤ a) (a1 : a ≤ 255) (b0 : 0 ≤ b) (kk : ∀ x : Int, 0 ≤ x → x ≤ 255 → x = andI a b → dm_W E P l z d MC MS (pc + 1) ls (dI x :: st) h ce sl) : dm_W E P l z d MC MS pc ls (dI b :: dI a :: st) h ce sl := dr_iand hi (and_i a0 b0) (kk _ (andI_b a1).1 (andI_b a1).2 rfl)
theorem di_shl8 {r : Int} (hi : dm_at z pc = some (.ishl, 1, [])) (h0 : 0 ≤ r) (h1 : r ≤ 8) (kk : ∀ x : Int, 1 ≤ x → x ≤ 256 → x = pwI r → dm_W E P l z d MC MS (pc + 1) ls (dI x :: st) h ce sl) : dm_W E P l z d MC MS pc ls (dI r :: dI 1 :: st) h ce sl := di_shl1 hi h0 h1 (fun x a b e => kk x a b (e.trans (by rcases (by omega : r = 0 ∨ r = 1 ∨ r = 2 ∨ r = 3 ∨ r = 4 ∨ r = 5 ∨ r = 6 ∨ r = 7 ∨ r = 8) with rfl | rfl | rfl | rfl | rfl | rfl | rfl | rfl | rfl <;> rfl)))
theorem di_shl7 {r : Int} (hi : dm_at z pc = some (.ishl, 1, [])) (h0 : 0 ≤ r) (h1 : r ≤ 7) (kk : ∀ x : Int, 1 ≤ x → x ≤ 128 → x = pwI r → dm_W E P l z d MC MS (pc + 1) ls (dI x :: st) h ce sl) : dm_W E P l z d MC MS pc ls (dI r :: dI 1 :: st) h ce sl := di_shl8 hi h0 (by omega) (fun x a b e => kk x a (by have := (pwI_b h0 h1).2; omega) e)
end BITR
/-- rank r is in the set S -/
def hbt (S r : Int) : Prop := S.toNat.testBit r.toNat = true
theorem bb_s {S r : Int} (h0 : 0 ≤ r) : (bb S (r + 1) = bb S r + 1 ∧ hbt S r) ∨ (bb S (r + 1) = bb S r ∧ ¬ hbt S r) := by
  have k : bbN S.toNat (r.toNat + 1) = bbN S.toNat r.toNat + S.toNat / 2 ^ r.toNat % 2 := rfl
  unfold bb hbt
  rw [show (r + 1).toNat = r.toNat + 1 by omega, Nat.testBit_eq_decide_div_mod_eq, k]
  rcases Nat.mod_two_eq_zero_or_one (S.toNat / 2 ^ r.toNat) with e | e
  · rw [e]; exact Or.inr ⟨by omega, by decide⟩
  · rw [e]; exact Or.inl ⟨by omega, by decide⟩
def sB (S : Int) (Q : Int → Prop) : Prop := (0 ≤ S ∧ S ≤ 255) ∧ ∀ r : Int, 0 ≤ r → r ≤ 7 → (hbt S r ↔ Q r)
section SB
variable {S T x w n s A : Int} {Q R H : Int → Prop} {f : Int → Int}
theorem sB_uq (a : sB S Q) (b : sB T Q) : S = T := by
  have e : S.toNat = T.toNat := by
    apply Nat.eq_of_testBit_eq
    intro i
    by_cases q : i < 8
    · have h3 : hbt S i ↔ hbt T i := (a.2 (i : Int) (by omega) (by omega)).trans (b.2 (i : Int) (by omega) (by omega)).symm
      unfold hbt at h3
      rw [Int.toNat_natCast] at h3
      exact Bool.eq_iff_iff.mpr h3
    · have p : 2 ^ 8 ≤ 2 ^ i := Nat.pow_le_pow_right (by decide) (by omega)
      have h1 := a.1
      have h2 := b.1
      rw [Nat.testBit_lt_two_pow (Nat.lt_of_lt_of_le (show S.toNat < 2 ^ 8 by omega) p), Nat.testBit_lt_two_pow (Nat.lt_of_lt_of_le (show T.toNat < 2 ^ 8 by omega) p)]
  have h1 := a.1
  have h2 := b.1
  omega
theorem sB_cg (a : sB S Q) (h : ∀ r : Int, 0 ≤ r → r ≤ 7 → (Q r ↔ R r)) : sB S R := ⟨a.1, fun r r0 r1 => (a.2 r r0 r1).trans (h r r0 r1)⟩
theorem sB_0 : sB 0 (fun _ => False) := ⟨by decide, fun r _ _ => by unfold hbt; simp⟩
theorem sB_or (a : sB S Q) (b : sB T R) : sB (orI S T) (fun r => Q r ∨ R r) := ⟨orI_b a.1.1 a.1.2 b.1.1 b.1.2, fun r r0 r1 => by
  have e : (orI S T).toNat.testBit r.toNat = (S.toNat.testBit r.toNat || T.toNat.testBit r.toNat) := by unfold orI; rw [Int.toNat_natCast, Nat.testBit_or]
  unfold hbt
  rw [e, Bool.or_eq_true]
  exact or_congr (a.2 r r0 r1) (b.2 r r0 r1)⟩
theorem sB_and (a : sB S Q) (b : sB T R) : sB (andI S T) (fun r => Q r ∧ R r) := ⟨andI_b a.1.2, fun r r0 r1 => by
  have e : (andI S T).toNat.testBit r.toNat = (S.toNat.testBit r.toNat && T.toNat.testBit r.toNat) := by unfold andI; rw [Int.toNat_natCast, Nat.testBit_and]
  unfold hbt
  rw [e, Bool.and_eq_true]
  exact and_congr (a.2 r r0 r1) (b.2 r r0 r1)⟩
theorem sB_pw (h0 : 0 ≤ n) (h1 : n ≤ 7) : sB (pwI n) (fun r => r = n) := ⟨by have := pwI_b h0 h1; omega, fun r r0 r1 => by
  have e : (pwI n).toNat.testBit r.toNat = decide (n.toNat = r.toNat) := by unfold pwI; rw [Int.toNat_natCast, Nat.testBit_two_pow]
  unfold hbt
  rw [e, decide_eq_true_iff]
  omega⟩
theorem sB_self (h0 : 0 ≤ S) (h1 : S ≤ 255) : sB S (hbt S) := ⟨⟨h0, h1⟩, fun r _ _ => Iff.rfl⟩
/-- the ranks below n that are so -/
def hsP (S n : Int) (H : Int → Prop) : Prop := sB S (fun r => r < n ∧ H r)
theorem hs_0 : hsP 0 0 H := sB_cg sB_0 (fun r r0 r1 => ⟨fun h => h.elim, fun h => by have := h.1; omega⟩)
theorem hs_y (h : hsP S n H) (n0 : 0 ≤ n) (n7 : n ≤ 7) (hH : H n) (ew : w = pwI n) (ex : x = orI S w) : hsP x (n + 1) H := by
  subst ew; subst ex
  refine sB_cg (sB_or h (sB_pw n0 n7)) (fun r r0 r1 => ⟨fun q => ?_, fun q => ?_⟩)
  · rcases q with q | q
    · exact ⟨by have := q.1; omega, q.2⟩
    · rw [q]; exact ⟨by omega, hH⟩
  · by_cases e : r = n
    · exact Or.inr e
    · exact Or.inl ⟨by have := q.1; omega, q.2⟩
theorem hs_n (h : hsP S n H) (hH : ¬ H n) : hsP S (n + 1) H := by
  refine sB_cg h (fun r r0 r1 => ⟨fun q => ⟨by have := q.1; omega, q.2⟩, fun q => ⟨?_, q.2⟩⟩)
  by_cases e : r = n
  · rw [e] at q; exact absurd q.2 hH
  · have := q.1; omega
def heP (S n s : Int) (f : Int → Int) (A : Int) : Prop := sB S (fun r => r < s ∧ ∃ k : Int, 0 ≤ k ∧ k < n ∧ hbt A k ∧ f r % 100 ≤ f k / 100 ∧ f k / 100 ≤ f r / 100)
theorem he_0 : heP 0 0 s f A := sB_cg sB_0 (fun r r0 r1 => ⟨fun h => h.elim, fun ⟨_, k, k0, k1, _⟩ => by omega⟩)
theorem he_y {y : Int} (h : heP S n s f A) (n0 : 0 ≤ n) (hA : hbt A n) (hT : hsP T s (fun r => f r % 100 ≤ y ∧ y ≤ f r / 100)) (ey : y = f n / 100) (ex : x = orI S T) : heP x (n + 1) s f A := by
  subst ex; subst ey
  refine sB_cg (sB_or h hT) (fun r r0 r1 => ⟨fun q => ?_, fun q => ?_⟩)
  · rcases q with ⟨q1, k, k0, k1, k2⟩ | ⟨q1, q2⟩
    · exact ⟨q1, k, k0, by omega, k2⟩
    · exact ⟨q1, n, n0, by omega, hA, q2⟩
  · obtain ⟨q1, k, k0, k1, k2, k3⟩ := q
    by_cases e : k = n
    · rw [e] at k3; exact Or.inr ⟨q1, k3⟩
    · exact Or.inl ⟨q1, k, k0, by omega, k2, k3⟩
theorem he_n (h : heP S n s f A) (hA : ¬ hbt A n) : heP S (n + 1) s f A := by
  refine sB_cg h (fun r r0 r1 => ⟨fun ⟨q1, k, k0, k1, k2⟩ => ⟨q1, k, k0, by omega, k2⟩, fun ⟨q1, k, k0, k1, k2⟩ => ⟨q1, k, k0, ?_, k2⟩⟩)
  by_cases e : k = n
  · rw [e] at k2; exact absurd k2.1 hA
  · omega
/-- a set of spans that lie apart -/
def apt (f : Int → Int) (s A : Int) : Prop := ∀ r k : Int, 0 ≤ r → r < s → 0 ≤ k → k < s → hbt A r → hbt A k → r ≠ k → ¬ (f k % 100 ≤ f r / 100 ∧ f r % 100 ≤ f k / 100)
def chP (n : Int) (f : Int → Int) (s A : Int) : Prop := ∀ r k : Int, 0 ≤ r → r < n → 0 ≤ k → k < s → hbt A r → hbt A k → r ≠ k → ¬ (f k % 100 ≤ f r / 100 ∧ f r % 100 ≤ f k / 100)
theorem ch_0 : chP 0 f s A := fun r k r0 r1 => by omega
theorem ch_n (h : chP n f s A) (hA : ¬ hbt A n) : chP (n + 1) f s A := fun r k r0 r1 k0 k1 ar ak ne => by
  by_cases e : r = n
  · rw [e] at ar; exact absurd ar hA
  · exact h r k r0 (by omega) k0 k1 ar ak ne
theorem ch_y {m : Int} (h : chP n f s A) (n0 : 0 ≤ n) (n7 : n ≤ 7) (s8 : s ≤ 8) (A0 : 0 ≤ A) (A1 : A ≤ 255) (hm : hsP m s (fun r => f r % 100 ≤ f n / 100 ∧ f n % 100 ≤ f r / 100)) (ex : x = andI m A) (ew : w = pwI n) (e : x = w) : chP (n + 1) f s A := fun r k r0 r1 k0 k1 ar ak ne hmt => by
  by_cases q : r = n
  · subst q
    have h1 := sB_and hm (sB_self A0 A1)
    rw [← ex, e, ew] at h1
    exact ne (((sB_pw n0 n7).2 k k0 (by omega)).mp ((h1.2 k k0 (by omega)).mpr ⟨⟨k1, hmt⟩, ak⟩)).symm
  · exact h r k r0 (by omega) k0 k1 ar ak ne hmt
theorem ch_x {m : Int} (n0 : 0 ≤ n) (n7 : n ≤ 7) (ns : n < s) (A0 : 0 ≤ A) (A1 : A ≤ 255) (hA : hbt A n) (hf : f n % 100 ≤ f n / 100) (hm : hsP m s (fun r => f r % 100 ≤ f n / 100 ∧ f n % 100 ≤ f r / 100)) (ex : x = andI m A) (ew : w = pwI n) (e : x ≠ w) : ¬ apt f s A := fun ha => by
  refine e ?_
  have h1 := sB_and hm (sB_self A0 A1)
  rw [← ex] at h1
  rw [ew]
  refine sB_uq h1 (sB_cg (sB_pw n0 n7) (fun r r0 r1 => ⟨fun q => ?_, fun q => ?_⟩))
  · rw [q]; exact ⟨⟨ns, hf, hf⟩, hA⟩
  · refine Classical.byContradiction fun ne => ?_
    exact ha n r n0 ns r0 q.1.1 hA q.2 (fun z => ne z.symm) q.1.2
theorem ch_e (h : chP n f s A) (e : n = s) : apt f s A := by subst e; exact h
theorem apt_cg {f' : Int → Int} (h : ∀ j : Int, 0 ≤ j → j < s → f j = f' j) (a : apt f s A) : apt f' s A := fun r k r0 r1 k0 k1 ar ak ne => by
  rw [← h r r0 r1, ← h k k0 k1]; exact a r k r0 r1 k0 k1 ar ak ne
end SB
/-- the code of a rank -/
noncomputable def cR (F : Int → Int) (r : Int) : Int := Classical.epsilon (fun x : Int => rkC F r x)
section CR
variable {f g F : Int → Int} {s A p S : Int}
theorem cR_eq (hr : Rep f g s F) (ht : Srt f s) {j : Int} (j0 : 0 ≤ j) (j1 : j < s) : cR F j = f j := by
  have k : rkC F j (f j) := rkC_y (Rep_yes hr j0 j1 rfl).2.1 (rk_srt hr ht j0 j1)
  exact (rkC_s (Classical.epsilon_spec (p := fun x : Int => rkC F j x) ⟨_, k⟩) hr ht).1 j0 j1
noncomputable def anHold (F : Int → Int) (p : Int) : Int := Classical.epsilon (fun S : Int => hsP S (zF F) (fun r => cR F r % 100 ≤ p ∧ p ≤ cR F r / 100))
theorem hold_e (hr : Rep f g s F) (ht : Srt f s) (h : hsP S s (fun r => f r % 100 ≤ p ∧ p ≤ f r / 100)) : anHold F p = S := by
  have h2 : hsP S (zF F) (fun r => cR F r % 100 ≤ p ∧ p ≤ cR F r / 100) := by
    rw [zF_eq hr]
    refine sB_cg h (fun r r0 r1 => ⟨fun q => ⟨q.1, ?_⟩, fun q => ⟨q.1, ?_⟩⟩)
    · show cR F r % 100 ≤ p ∧ p ≤ cR F r / 100
      rw [cR_eq hr ht r0 q.1]; exact q.2
    · have k : cR F r % 100 ≤ p ∧ p ≤ cR F r / 100 := q.2
      rw [cR_eq hr ht r0 q.1] at k; exact k
  exact sB_uq (Classical.epsilon_spec (p := fun S : Int => hsP S (zF F) (fun r => cR F r % 100 ≤ p ∧ p ≤ cR F r / 100)) ⟨S, h2⟩) h2
noncomputable def anChoice (F : Int → Int) (A : Int) : Int := @ite Int (apt (cR F) (zF F) A) (Classical.propDecidable _) (bb A 8) (-1)
theorem cho_y (hr : Rep f g s F) (ht : Srt f s) (h : apt f s A) : anChoice F A = bb A 8 := @if_pos _ (Classical.propDecidable _) (by rw [zF_eq hr]; exact apt_cg (fun j j0 j1 => (cR_eq hr ht j0 j1).symm) h) Int (bb A 8) (-1)
theorem cho_n (hr : Rep f g s F) (ht : Srt f s) (h : ¬ apt f s A) : anChoice F A = -1 := @if_neg _ (Classical.propDecidable _) (by rw [zF_eq hr]; exact fun q => h (apt_cg (fun j j0 j1 => cR_eq hr ht j0 j1) q)) Int (bb A 8) (-1)
noncomputable def anUnheld (F : Int → Int) (A : Int) : Int := zF F - bb (Classical.epsilon (fun S : Int => heP S (zF F) (zF F) (cR F) A)) 8
theorem heP_cg {f' : Int → Int} (h : ∀ j : Int, 0 ≤ j → j < s → f j = f' j) (a : heP S s s f A) : heP S s s f' A := sB_cg a (fun r r0 r1 => ⟨fun ⟨q1, k, k0, k1, k2, k3⟩ => ⟨q1, k, k0, k1, k2, by rw [← h r r0 q1, ← h k k0 k1]; exact k3⟩, fun ⟨q1, k, k0, k1, k2, k3⟩ => ⟨q1, k, k0, k1, k2, by rw [h r r0 q1, h k k0 k1]; exact k3⟩⟩)
theorem unh_e (hr : Rep f g s F) (ht : Srt f s) (h : heP S s s f A) : anUnheld F A = s - bb S 8 := by
  have h2 : heP S (zF F) (zF F) (cR F) A := by rw [zF_eq hr]; exact heP_cg (fun j j0 j1 => (cR_eq hr ht j0 j1).symm) h
  have e := sB_uq (Classical.epsilon_spec (p := fun S : Int => heP S (zF F) (zF F) (cR F) A) ⟨S, h2⟩) h2
  unfold anUnheld
  rw [e, zF_eq hr]
end CR
noncomputable def spHolders (σ : St) (b p : Int) : Int × Int × St := if b < 0 ∨ 2 < b then (1, 0, σ) else if p < 0 ∨ 99 < p then (2, 0, σ) else (0, anHold (σ.1 b) p, σ)
noncomputable def spChoice (σ : St) (b A : Int) : Int × Int × St := if b < 0 ∨ 2 < b then (1, 0, σ) else if A < 0 ∨ pwI (zF (σ.1 b)) ≤ A then (2, 0, σ) else (0, anChoice (σ.1 b) A, σ)
noncomputable def spUnheld (σ : St) (b A : Int) : Int × Int × St := if b < 0 ∨ 2 < b then (1, 0, σ) else if A < 0 ∨ pwI (zF (σ.1 b)) ≤ A then (2, 0, σ) else (0, anUnheld (σ.1 b) A, σ)
/-! the JDK's bitCount -/
def sru (x k : Int32) : Int32 := (x.toUInt32 >>> (k.toUInt32 &&& Int32.toUInt32 31)).toInt32
def bc1 (x : Int32) : Int32 := x - (sru x (Int32.ofInt 1) &&& Int32.ofInt 1431655765)
def bc2 (x : Int32) : Int32 := (x &&& Int32.ofInt 858993459) + (sru x (Int32.ofInt 2) &&& Int32.ofInt 858993459)
def bc3 (x : Int32) : Int32 := (x + sru x (Int32.ofInt 4)) &&& Int32.ofInt 252645135
def bc4 (x : Int32) : Int32 := x + sru x (Int32.ofInt 8)
def bc5 (x : Int32) : Int32 := x + sru x (Int32.ofInt 16)
def bc6 (x : Int32) : Int32 := x &&& Int32.ofInt 63
theorem bc_all : ∀ n : Fin 256, bc6 (bc5 (bc4 (bc3 (bc2 (bc1 (Int32.ofInt n.val)))))) = Int32.ofInt ((bbN n.val 8 : Nat) : Int) := by decide +kernel
set_option maxRecDepth 100000 in
theorem f_bitCount (l : Launch) (hl : l.stackTraces = false) {h : dm_H} {a0 : Int} (h0a : 0 ≤ a0) (h0b : a0 ≤ 255) : dm_M l 240 0 0 0 [dI a0] h (QP h (RI (fun x => x = bb a0 8)) []) := by
  refine dm_M_of dk_240 hl rfl (Nat.le_of_ble_eq_true rfl) ?_
  show dm_W (fun _ _ _ => True) (dm_P (QP h (RI (fun x => x = bb a0 8)) []) 0 0) l 240 0 0 0 0 [some (dI a0)] [] h 0 0
  refine dr_iload_n rfl rfl ?_
  refine dr_iload_n rfl rfl ?_
  refine di_const rfl ?_
  refine dr_iushr rfl rfl ?_
  refine dr_ldcwI rfl (by decide +kernel) ?_
  refine dr_iand rfl rfl ?_
  refine dr_isub rfl rfl ?_
  refine dr_istore_n rfl rfl ?_
  show dm_W (fun _ _ _ => True) (dm_P (QP h (RI (fun x => x = bb a0 8)) []) 0 0) l 240 0 0 0 10 [some (.int (bc1 (Int32.ofInt a0)))] [] h 0 0
  generalize e1 : bc1 (Int32.ofInt a0) = x1
  refine dr_iload_n rfl rfl ?_
  refine dr_ldcwI rfl (by decide +kernel) ?_
  refine dr_iand rfl rfl ?_
  refine dr_iload_n rfl rfl ?_
  refine di_const rfl ?_
  refine dr_iushr rfl rfl ?_
  refine dr_ldcwI rfl (by decide +kernel) ?_
  refine dr_iand rfl rfl ?_
  refine dr_iadd rfl rfl ?_
  refine dr_istore_n rfl rfl ?_
  show dm_W (fun _ _ _ => True) (dm_P (QP h (RI (fun x => x = bb a0 8)) []) 0 0) l 240 0 0 0 24 [some (.int (bc2 x1))] [] h 0 0
  generalize e2 : bc2 x1 = x2
  refine dr_iload_n rfl rfl ?_
  refine dr_iload_n rfl rfl ?_
  refine di_const rfl ?_
  refine dr_iushr rfl rfl ?_
  refine dr_iadd rfl rfl ?_
  refine dr_ldcwI rfl (by decide +kernel) ?_
  refine dr_iand rfl rfl ?_
  refine dr_istore_n rfl rfl ?_
  show dm_W (fun _ _ _ => True) (dm_P (QP h (RI (fun x => x = bb a0 8)) []) 0 0) l 240 0 0 0 34 [some (.int (bc3 x2))] [] h 0 0
  generalize e3 : bc3 x2 = x3
  refine dr_iload_n rfl rfl ?_
  refine dr_iload_n rfl rfl ?_
  refine di_bipush rfl (by decide) ?_
  refine dr_iushr rfl rfl ?_
  refine dr_iadd rfl rfl ?_
  refine dr_istore_n rfl rfl ?_
  show dm_W (fun _ _ _ => True) (dm_P (QP h (RI (fun x => x = bb a0 8)) []) 0 0) l 240 0 0 0 41 [some (.int (bc4 x3))] [] h 0 0
  generalize e4 : bc4 x3 = x4
  refine dr_iload_n rfl rfl ?_
  refine dr_iload_n rfl rfl ?_
  refine di_bipush rfl (by decide) ?_
  refine dr_iushr rfl rfl ?_
  refine dr_iadd rfl rfl ?_
  refine dr_istore_n rfl rfl ?_
  show dm_W (fun _ _ _ => True) (dm_P (QP h (RI (fun x => x = bb a0 8)) []) 0 0) l 240 0 0 0 48 [some (.int (bc5 x4))] [] h 0 0
  refine dr_iload_n rfl rfl ?_
  refine di_bipush rfl (by decide) ?_
  refine dr_iand (v := bc6 (bc5 x4)) rfl rfl ?_
  obtain ⟨n, rfl⟩ := Int.eq_ofNat_of_zero_le h0a
  have k := bc_all ⟨n, by omega⟩
  have k : bc6 (bc5 (bc4 (bc3 (bc2 (bc1 (Int32.ofInt (n : Int))))))) = Int32.ofInt (bb (n : Int) 8) := k
  rw [e1, e2, e3, e4] at k
  rw [k]
  have b8 := bb_8 (s := (n : Int)) h0a h0b
  have b0 := bb_nn (n : Int) 8
  exact dr_iret (ty := .int) rfl rfl rfl (by decide) (by decide) ⟨rfl, bb (n : Int) 8, rfl, by omega, by omega, rfl⟩
set_option maxRecDepth 100000 in
theorem f_X6_isInSet (l : Launch) (hl : l.stackTraces = false) {kc km : Int} {h : dm_H} (hI : Inv kc km h) {a0 : Int} (h0a : 0 ≤ a0) (h0b : a0 ≤ 255) {a1 : Int} (h1a : 0 ≤ a1) (h1b : a1 ≤ 7) : dm_M l 123 0 0 0 [dI (a0), dI (a1)] h (QP h (RI (fun x => 0 ≤ x ∧ x ≤ 1 ∧ (x = 1 → hbt a0 a1) ∧ (x = 0 → ¬ hbt a0 a1))) []) := by
  refine dm_M_of dk_123 hl rfl (Nat.le_of_ble_eq_true rfl) ?_
  show dm_W (fun _ _ _ => True) (dm_P (QP h (RI (fun x => 0 ≤ x ∧ x ≤ 1 ∧ (x = 1 → hbt a0 a1) ∧ (x = 0 → ¬ hbt a0 a1))) []) 0 0) l 123 0 0 0 0 [some (dI (a0)), some (dI (a1))] [] h 0 0
  refine dr_iload_n rfl rfl ?_
  refine dr_iload_n rfl rfl ?_
  refine dB_shr rfl (by omega) (by omega) (by omega) (by omega) (fun x1 x1a x1b x1e => ?_)
  refine di_const rfl ?_
  refine dB_and rfl (by omega) (by omega) ?_
  refine di_const rfl ?_
  have q9 := bb_s (S := a0) (r := a1) h1a
  refine di_icmp_ne rfl rfl (by omega) (by omega) (by omega) (by omega) (fun c2 => ?_) (fun c2 => ?_)
  · refine di_const rfl ?_
    exact dr_iret (ty := .boolean) rfl rfl (nar_z (by omega) (by omega)) (by decide) (by decide) ⟨rfl, 0, ⟨by omega, by omega, fun e => absurd e (by decide), fun _ => (by rcases q9 with q | q; (exfalso; have := q.1; omega); exact q.2)⟩, by omega, by omega, rfl⟩
  · refine di_const rfl ?_
    refine dr_goto rfl rfl ?_
    exact dr_iret (ty := .boolean) rfl rfl (nar_z (by omega) (by omega)) (by decide) (by decide) ⟨rfl, 1, ⟨by omega, by omega, fun _ => (by rcases q9 with q | q; exact q.2; (exfalso; have := q.1; omega)), fun e => absurd e (by decide)⟩, by omega, by omega, rfl⟩
set_option maxRecDepth 100000 in
theorem f_X6_needPlace (l : Launch) (hl : l.stackTraces = false) {kc km : Int} {h : dm_H} (hI : Inv kc km h) {a0 : Int} (h0a : -2147483648 ≤ a0) (h0b : a0 ≤ 2147483647) : dm_M l 118 1 1 6 [dI a0] h (QPX h (fun v => v = none ∧ (0 ≤ a0 ∧ a0 ≤ 99)) XA (a0 < 0 ∨ 99 < a0)) := by
  refine dm_M_of dk_118 hl rfl (Nat.le_of_ble_eq_true rfl) ?_
  show dm_W (fun _ _ _ => True) (dm_P (QPX h (fun v => v = none ∧ (0 ≤ a0 ∧ a0 ≤ 99)) XA (a0 < 0 ∨ 99 < a0)) 1 6) l 118 1 1 6 0 [some (dI a0)] [] h 0 0
  refine dr_iload_n rfl rfl ?_
  refine di_if_lt rfl rfl (by omega) (by omega) (fun c1 => ?_) (fun c1 => ?_)
  · exact dr_throw rfl (by decide) rfl (by decide) (by decide) (by decide) (Nat.le_of_ble_eq_true rfl) ⟨rfl, rfl, by omega⟩
  refine dr_iload_n rfl rfl ?_
  refine di_bipush rfl (by decide) ?_
  refine di_icmp_lt rfl rfl (by omega) (by omega) (by omega) (by omega) (fun c3 => ?_) (fun c3 => ?_)
  · exact dr_vret rfl rfl (by decide) (by decide) ⟨rfl, rfl, by omega, by omega⟩
  · exact dr_throw rfl (by decide) rfl (by decide) (by decide) (by decide) (Nat.le_of_ble_eq_true rfl) ⟨rfl, rfl, by omega⟩
set_option maxRecDepth 100000 in
theorem f_X6_needSet (l : Launch) (hl : l.stackTraces = false) {kc km : Int} {h : dm_H} (hI : Inv kc km h) {b0 : Nat} (hb0 : isBk b0) {s m : Int} {u w : List Value} (hc : CA b0 s m u w h) {a1 : Int} (h1a : -2147483648 ≤ a1) (h1b : a1 ≤ 2147483647) : dm_M l 122 1 1 6 [.ref b0, dI a1] h (QPX h (fun v => v = none ∧ (0 ≤ a1 ∧ a1 < pwI s)) XA (a1 < 0 ∨ pwI s ≤ a1)) := by
  refine dm_M_of dk_122 hl rfl (Nat.le_of_ble_eq_true rfl) ?_
  show dm_W (fun _ _ _ => True) (dm_P (QPX h (fun v => v = none ∧ (0 ≤ a1 ∧ a1 < pwI s)) XA (a1 < 0 ∨ pwI s ≤ a1)) 1 6) l 122 1 1 6 0 [some (.ref b0), some (dI a1)] [] h 0 0
  have s0 := hc.2.2.2.2.2.1
  have s8 := hc.2.2.2.2.2.2.1
  refine dr_iload_n rfl rfl ?_
  refine di_if_lt rfl rfl (by omega) (by omega) (fun c1 => ?_) (fun c1 => ?_)
  · exact dr_throw rfl (by decide) rfl (by decide) (by decide) (by decide) (Nat.le_of_ble_eq_true rfl) ⟨rfl, rfl, by omega⟩
  refine dr_iload_n rfl rfl ?_
  refine di_const rfl ?_
  refine di_aload_n rfl rfl ?_
  refine dr_virt rfl rfl rfl rfl hc.1 (f_X0_count l hl hI hb0 hc) (by decide) (by decide) (by decide) (Nat.le_of_ble_eq_true rfl) kNP (kIP (fun y yf ya yb => ?_))
  obtain ⟨yc, yd, ye⟩ := yf
  subst ye
  refine di_shl8 rfl (by omega) (by omega) (fun x xa xb xe => ?_)
  refine di_icmp_lt rfl rfl (by omega) (by omega) (by omega) (by omega) (fun c3 => ?_) (fun c3 => ?_)
  · exact dr_vret rfl rfl (by decide) (by decide) ⟨rfl, rfl, by omega, by omega⟩
  · exact dr_throw rfl (by decide) rfl (by decide) (by decide) (by decide) (Nat.le_of_ble_eq_true rfl) ⟨rfl, rfl, by omega⟩
theorem CA_arr {b : Nat} {s m : Int} {u w : List Value} {h : dm_H} (hc : CA b s m u w h) : (∀ j : Int, 0 ≤ j → j < s → cv u j % 100 ≤ cv u j / 100) ∧ True := ⟨fun j j0 j1 => (arr_cv hc.2.2.2.1 j0 (by have := hc.2.2.2.2.2.2.1; omega)).2.2, trivial⟩

set_option maxHeartbeats 4000000 in
set_option maxRecDepth 100000 in
/-- Earlyends$Book.fromAt -/
theorem f_X0_fromAt (l : Launch) (hl : l.stackTraces = false) {kc km : Int} {h : dm_H} (hI : Inv kc km h) {b0 : Nat} (hb0 : isBk b0) {s0 m0 : Int} {u0 w0 : List Value} (hC0 : CA b0 s0 m0 u0 w0 h) {a1 : Int} (h1a : -2147483648 ≤ a1) (h1b : a1 ≤ 2147483647) : dm_M l 5 0 0 0 [.ref b0, dI (a1)] h (QP h (RI (fun x => -1 ≤ x ∧ x ≤ 99 ∧ (0 ≤ a1 → a1 < s0 → x = cv u0 a1 % 100) ∧ (a1 < 0 → x = -1) ∧ (s0 ≤ a1 → x = -1))) []) := by
  obtain ⟨hq0, hu0, hw0, hau0, haw0, hs0a, hs0b, hm0a, hm0b⟩ := id hC0
  refine dm_M_of dk_5 hl rfl (Nat.le_of_ble_eq_true rfl) ?_
  show dm_W (fun _ _ _ => True) (dm_P (QP h (RI (fun x => -1 ≤ x ∧ x ≤ 99 ∧ (0 ≤ a1 → a1 < s0 → x = cv u0 a1 % 100) ∧ (a1 < 0 → x = -1) ∧ (s0 ≤ a1 → x = -1))) []) 0 0) l 5 0 0 0 0 [some (.ref b0), some (dI (a1))] [] h 0 0
  refine dr_iload_n rfl rfl ?_
  refine di_if_lt rfl rfl (by omega) (by omega) (fun c1 => ?_) (fun c1 => ?_)
  · skip
    refine di_const rfl ?_
    exact dr_iret (ty := .int) rfl rfl rfl (by decide) (by decide) ⟨rfl, (-1), (show -1 ≤ ((-1)) ∧ ((-1)) ≤ 99 ∧ (0 ≤ a1 → a1 < s0 → ((-1)) = cv u0 a1 % 100) ∧ (a1 < 0 → ((-1)) = -1) ∧ (s0 ≤ a1 → ((-1)) = -1) by omega), by omega, by omega, rfl⟩
  · skip
    refine dr_iload_n rfl rfl ?_
    refine di_aload_n rfl rfl ?_
    refine dr_getf rfl hq0 rfl ?_
    refine di_icmp_ge rfl rfl (by omega) (by omega) (by omega) (by omega) (fun c2 => ?_) (fun c2 => ?_)
    · skip
      refine di_const rfl ?_
      exact dr_iret (ty := .int) rfl rfl rfl (by decide) (by decide) ⟨rfl, (-1), (show -1 ≤ ((-1)) ∧ ((-1)) ≤ 99 ∧ (0 ≤ a1 → a1 < s0 → ((-1)) = cv u0 a1 % 100) ∧ (a1 < 0 → ((-1)) = -1) ∧ (s0 ≤ a1 → ((-1)) = -1) by omega), by omega, by omega, rfl⟩
    · skip
      refine di_aload_n rfl rfl ?_
      refine dr_getf rfl hq0 rfl ?_
      refine dr_iload_n rfl rfl ?_
      refine di_iald rfl hu0 hau0 (by omega) (by omega) (fun x3 x3f x3a x3b x3v => ?_)
      have x3w : cv u0 (a1) = x3 := cv_eq x3v x3a x3b
      have x3g : 0 ≤ x3 ∧ x3 ≤ 9999 ∧ x3 % 100 ≤ x3 / 100 := x3f
      refine di_bipush rfl (by decide) ?_
      refine di_irem rfl (by omega) (by omega) (by omega) (by omega) ?_
      refine dr_goto rfl rfl ?_
      exact dr_iret (ty := .int) rfl rfl rfl (by decide) (by decide) ⟨rfl, (x3 % 100), (show -1 ≤ ((x3 % 100)) ∧ ((x3 % 100)) ≤ 99 ∧ (0 ≤ a1 → a1 < s0 → ((x3 % 100)) = cv u0 a1 % 100) ∧ (a1 < 0 → ((x3 % 100)) = -1) ∧ (s0 ≤ a1 → ((x3 % 100)) = -1) by omega), by omega, by omega, rfl⟩
set_option maxHeartbeats 4000000 in
set_option maxRecDepth 100000 in
/-- Earlyends$Book.doesHold -/
theorem f_X0_doesHold (l : Launch) (hl : l.stackTraces = false) {kc km : Int} {h : dm_H} (hI : Inv kc km h) {b0 : Nat} (hb0 : isBk b0) {s0 m0 : Int} {u0 w0 : List Value} (hC0 : CA b0 s0 m0 u0 w0 h) {a1 : Int} (h1a : -2147483648 ≤ a1) (h1b : a1 ≤ 2147483647) {a2 : Int} (h2a : -2147483648 ≤ a2) (h2b : a2 ≤ 2147483647) (hp0 : 0 ≤ a1) (hp1 : a1 < s0) : dm_M l 20 1 0 0 [.ref b0, dI (a1), dI (a2)] h (QP h (RI (fun x => 0 ≤ x ∧ x ≤ 1 ∧ (x = 1 → cv u0 a1 % 100 ≤ a2 ∧ a2 ≤ cv u0 a1 / 100) ∧ (x = 0 → a2 < cv u0 a1 % 100 ∨ cv u0 a1 / 100 < a2))) []) := by
  obtain ⟨hq0, hu0, hw0, hau0, haw0, hs0a, hs0b, hm0a, hm0b⟩ := id hC0
  refine dm_M_of dk_20 hl rfl (Nat.le_of_ble_eq_true rfl) ?_
  show dm_W (fun _ _ _ => True) (dm_P (QP h (RI (fun x => 0 ≤ x ∧ x ≤ 1 ∧ (x = 1 → cv u0 a1 % 100 ≤ a2 ∧ a2 ≤ cv u0 a1 / 100) ∧ (x = 0 → a2 < cv u0 a1 % 100 ∨ cv u0 a1 / 100 < a2))) []) 0 0) l 20 1 0 0 0 [some (.ref b0), some (dI (a1)), some (dI (a2))] [] h 0 0
  refine di_aload_n rfl rfl ?_
  refine dr_iload_n rfl rfl ?_
  refine dr_virt rfl rfl rfl rfl hq0 (f_X0_fromAt l hl hI (b0 := b0) hb0 (s0 := s0) (m0 := m0) (u0 := u0) (w0 := w0) ⟨hq0, hu0, hw0, hau0, haw0, by omega, by omega, by omega, by omega⟩ (a1 := a1) (by omega) (by omega)) (by decide) (by decide) (by decide) (Nat.le_of_ble_eq_true rfl) kNP (kIP (fun y1 y1f y1a y1b => ?_))
  have y1g : -1 ≤ y1 ∧ y1 ≤ 99 ∧ (0 ≤ (a1) → (a1) < (s0) → y1 = cv u0 (a1) % 100) ∧ ((a1) < 0 → y1 = -1) ∧ ((s0) ≤ (a1) → y1 = -1) := y1f
  clear y1f
  refine dr_iload_n rfl rfl ?_
  refine di_icmp_gt rfl rfl (by omega) (by omega) (by omega) (by omega) (fun c2 => ?_) (fun c2 => ?_)
  · skip
    refine di_const rfl ?_
    exact dr_iret (ty := .boolean) rfl rfl (nar_z (by omega) (by omega)) (by decide) (by decide) ⟨rfl, 0, (show 0 ≤ (0) ∧ (0) ≤ 1 ∧ ((0) = 1 → cv u0 a1 % 100 ≤ a2 ∧ a2 ≤ cv u0 a1 / 100) ∧ ((0) = 0 → a2 < cv u0 a1 % 100 ∨ cv u0 a1 / 100 < a2) by omega), by omega, by omega, rfl⟩
  · skip
    refine dr_iload_n rfl rfl ?_
    refine di_aload_n rfl rfl ?_
    refine dr_iload_n rfl rfl ?_
    refine dr_virt rfl rfl rfl rfl hq0 (f_X0_toAt l hl hI (b0 := b0) hb0 (s0 := s0) (m0 := m0) (u0 := u0) (w0 := w0) ⟨hq0, hu0, hw0, hau0, haw0, by omega, by omega, by omega, by omega⟩ (a1 := a1) (by omega) (by omega)) (by decide) (by decide) (by decide) (Nat.le_of_ble_eq_true rfl) kNP (kIP (fun y3 y3f y3a y3b => ?_))
    have y3g : -1 ≤ y3 ∧ y3 ≤ 99 ∧ (0 ≤ (a1) → (a1) < (s0) → y3 = cv u0 (a1) / 100) ∧ ((a1) < 0 → y3 = -1) ∧ ((s0) ≤ (a1) → y3 = -1) := y3f
    clear y3f
    refine di_icmp_gt rfl rfl (by omega) (by omega) (by omega) (by omega) (fun c4 => ?_) (fun c4 => ?_)
    · skip
      refine di_const rfl ?_
      exact dr_iret (ty := .boolean) rfl rfl (nar_z (by omega) (by omega)) (by decide) (by decide) ⟨rfl, 0, (show 0 ≤ (0) ∧ (0) ≤ 1 ∧ ((0) = 1 → cv u0 a1 % 100 ≤ a2 ∧ a2 ≤ cv u0 a1 / 100) ∧ ((0) = 0 → a2 < cv u0 a1 % 100 ∨ cv u0 a1 / 100 < a2) by omega), by omega, by omega, rfl⟩
    · skip
      refine di_const rfl ?_
      refine dr_goto rfl rfl ?_
      exact dr_iret (ty := .boolean) rfl rfl (nar_z (by omega) (by omega)) (by decide) (by decide) ⟨rfl, 1, (show 0 ≤ (1) ∧ (1) ≤ 1 ∧ ((1) = 1 → cv u0 a1 % 100 ≤ a2 ∧ a2 ≤ cv u0 a1 / 100) ∧ ((1) = 0 → a2 < cv u0 a1 % 100 ∨ cv u0 a1 / 100 < a2) by omega), by omega, by omega, rfl⟩
set_option maxHeartbeats 4000000 in
set_option maxRecDepth 100000 in
/-- Earlyends$Book.doMeet -/
theorem f_X0_doMeet (l : Launch) (hl : l.stackTraces = false) {kc km : Int} {h : dm_H} (hI : Inv kc km h) {b0 : Nat} (hb0 : isBk b0) {s0 m0 : Int} {u0 w0 : List Value} (hC0 : CA b0 s0 m0 u0 w0 h) {a1 : Int} (h1a : -2147483648 ≤ a1) (h1b : a1 ≤ 2147483647) {a2 : Int} (h2a : -2147483648 ≤ a2) (h2b : a2 ≤ 2147483647) (hp0 : 0 ≤ a1) (hp1 : a1 < s0) (hp2 : 0 ≤ a2) (hp3 : a2 < s0) : dm_M l 21 1 0 0 [.ref b0, dI (a1), dI (a2)] h (QP h (RI (fun x => 0 ≤ x ∧ x ≤ 1 ∧ (x = 1 → cv u0 a1 % 100 ≤ cv u0 a2 / 100 ∧ cv u0 a2 % 100 ≤ cv u0 a1 / 100) ∧ (x = 0 → cv u0 a2 / 100 < cv u0 a1 % 100 ∨ cv u0 a1 / 100 < cv u0 a2 % 100))) []) := by
  obtain ⟨hq0, hu0, hw0, hau0, haw0, hs0a, hs0b, hm0a, hm0b⟩ := id hC0
  refine dm_M_of dk_21 hl rfl (Nat.le_of_ble_eq_true rfl) ?_
  show dm_W (fun _ _ _ => True) (dm_P (QP h (RI (fun x => 0 ≤ x ∧ x ≤ 1 ∧ (x = 1 → cv u0 a1 % 100 ≤ cv u0 a2 / 100 ∧ cv u0 a2 % 100 ≤ cv u0 a1 / 100) ∧ (x = 0 → cv u0 a2 / 100 < cv u0 a1 % 100 ∨ cv u0 a1 / 100 < cv u0 a2 % 100))) []) 0 0) l 21 1 0 0 0 [some (.ref b0), some (dI (a1)), some (dI (a2))] [] h 0 0
  refine di_aload_n rfl rfl ?_
  refine dr_iload_n rfl rfl ?_
  refine dr_virt rfl rfl rfl rfl hq0 (f_X0_fromAt l hl hI (b0 := b0) hb0 (s0 := s0) (m0 := m0) (u0 := u0) (w0 := w0) ⟨hq0, hu0, hw0, hau0, haw0, by omega, by omega, by omega, by omega⟩ (a1 := a1) (by omega) (by omega)) (by decide) (by decide) (by decide) (Nat.le_of_ble_eq_true rfl) kNP (kIP (fun y1 y1f y1a y1b => ?_))
  have y1g : -1 ≤ y1 ∧ y1 ≤ 99 ∧ (0 ≤ (a1) → (a1) < (s0) → y1 = cv u0 (a1) % 100) ∧ ((a1) < 0 → y1 = -1) ∧ ((s0) ≤ (a1) → y1 = -1) := y1f
  clear y1f
  refine di_aload_n rfl rfl ?_
  refine dr_iload_n rfl rfl ?_
  refine dr_virt rfl rfl rfl rfl hq0 (f_X0_toAt l hl hI (b0 := b0) hb0 (s0 := s0) (m0 := m0) (u0 := u0) (w0 := w0) ⟨hq0, hu0, hw0, hau0, haw0, by omega, by omega, by omega, by omega⟩ (a1 := a2) (by omega) (by omega)) (by decide) (by decide) (by decide) (Nat.le_of_ble_eq_true rfl) kNP (kIP (fun y2 y2f y2a y2b => ?_))
  have y2g : -1 ≤ y2 ∧ y2 ≤ 99 ∧ (0 ≤ (a2) → (a2) < (s0) → y2 = cv u0 (a2) / 100) ∧ ((a2) < 0 → y2 = -1) ∧ ((s0) ≤ (a2) → y2 = -1) := y2f
  clear y2f
  refine di_icmp_gt rfl rfl (by omega) (by omega) (by omega) (by omega) (fun c3 => ?_) (fun c3 => ?_)
  · skip
    refine di_const rfl ?_
    exact dr_iret (ty := .boolean) rfl rfl (nar_z (by omega) (by omega)) (by decide) (by decide) ⟨rfl, 0, (show 0 ≤ (0) ∧ (0) ≤ 1 ∧ ((0) = 1 → cv u0 a1 % 100 ≤ cv u0 a2 / 100 ∧ cv u0 a2 % 100 ≤ cv u0 a1 / 100) ∧ ((0) = 0 → cv u0 a2 / 100 < cv u0 a1 % 100 ∨ cv u0 a1 / 100 < cv u0 a2 % 100) by omega), by omega, by omega, rfl⟩
  · skip
    refine di_aload_n rfl rfl ?_
    refine dr_iload_n rfl rfl ?_
    refine dr_virt rfl rfl rfl rfl hq0 (f_X0_fromAt l hl hI (b0 := b0) hb0 (s0 := s0) (m0 := m0) (u0 := u0) (w0 := w0) ⟨hq0, hu0, hw0, hau0, haw0, by omega, by omega, by omega, by omega⟩ (a1 := a2) (by omega) (by omega)) (by decide) (by decide) (by decide) (Nat.le_of_ble_eq_true rfl) kNP (kIP (fun y4 y4f y4a y4b => ?_))
    have y4g : -1 ≤ y4 ∧ y4 ≤ 99 ∧ (0 ≤ (a2) → (a2) < (s0) → y4 = cv u0 (a2) % 100) ∧ ((a2) < 0 → y4 = -1) ∧ ((s0) ≤ (a2) → y4 = -1) := y4f
    clear y4f
    refine di_aload_n rfl rfl ?_
    refine dr_iload_n rfl rfl ?_
    refine dr_virt rfl rfl rfl rfl hq0 (f_X0_toAt l hl hI (b0 := b0) hb0 (s0 := s0) (m0 := m0) (u0 := u0) (w0 := w0) ⟨hq0, hu0, hw0, hau0, haw0, by omega, by omega, by omega, by omega⟩ (a1 := a1) (by omega) (by omega)) (by decide) (by decide) (by decide) (Nat.le_of_ble_eq_true rfl) kNP (kIP (fun y5 y5f y5a y5b => ?_))
    have y5g : -1 ≤ y5 ∧ y5 ≤ 99 ∧ (0 ≤ (a1) → (a1) < (s0) → y5 = cv u0 (a1) / 100) ∧ ((a1) < 0 → y5 = -1) ∧ ((s0) ≤ (a1) → y5 = -1) := y5f
    clear y5f
    refine di_icmp_gt rfl rfl (by omega) (by omega) (by omega) (by omega) (fun c6 => ?_) (fun c6 => ?_)
    · skip
      refine di_const rfl ?_
      exact dr_iret (ty := .boolean) rfl rfl (nar_z (by omega) (by omega)) (by decide) (by decide) ⟨rfl, 0, (show 0 ≤ (0) ∧ (0) ≤ 1 ∧ ((0) = 1 → cv u0 a1 % 100 ≤ cv u0 a2 / 100 ∧ cv u0 a2 % 100 ≤ cv u0 a1 / 100) ∧ ((0) = 0 → cv u0 a2 / 100 < cv u0 a1 % 100 ∨ cv u0 a1 / 100 < cv u0 a2 % 100) by omega), by omega, by omega, rfl⟩
    · skip
      refine di_const rfl ?_
      refine dr_goto rfl rfl ?_
      exact dr_iret (ty := .boolean) rfl rfl (nar_z (by omega) (by omega)) (by decide) (by decide) ⟨rfl, 1, (show 0 ≤ (1) ∧ (1) ≤ 1 ∧ ((1) = 1 → cv u0 a1 % 100 ≤ cv u0 a2 / 100 ∧ cv u0 a2 % 100 ≤ cv u0 a1 / 100) ∧ ((1) = 0 → cv u0 a2 / 100 < cv u0 a1 % 100 ∨ cv u0 a1 / 100 < cv u0 a2 % 100) by omega), by omega, by omega, rfl⟩
set_option maxHeartbeats 4000000 in
set_option maxRecDepth 100000 in
/-- Earlyends$Book.holding -/
theorem f_X0_holding (l : Launch) (hl : l.stackTraces = false) {kc km : Int} {h : dm_H} (hI : Inv kc km h) {b0 : Nat} (hb0 : isBk b0) {s0 m0 : Int} {u0 w0 : List Value} (hC0 : CA b0 s0 m0 u0 w0 h) {a1 : Int} (h1a : -2147483648 ≤ a1) (h1b : a1 ≤ 2147483647) : dm_M l 22 2 0 0 [.ref b0, dI (a1)] h (QP h (RI (fun x => 0 ≤ x ∧ x ≤ 255 ∧ hsP x s0 (fun r => cv u0 r % 100 ≤ a1 ∧ a1 ≤ cv u0 r / 100))) []) := by
  obtain ⟨hq0, hu0, hw0, hau0, haw0, hs0a, hs0b, hm0a, hm0b⟩ := id hC0
  refine dm_M_of dk_22 hl rfl (Nat.le_of_ble_eq_true rfl) ?_
  show dm_W (fun _ _ _ => True) (dm_P (QP h (RI (fun x => 0 ≤ x ∧ x ≤ 255 ∧ hsP x s0 (fun r => cv u0 r % 100 ≤ a1 ∧ a1 ≤ cv u0 r / 100))) []) 0 0) l 22 2 0 0 0 [some (.ref b0), some (dI (a1)), none, none] [] h 0 0
  refine di_const rfl ?_
  refine di_istore_n (ls2 := [some (.ref b0), some (dI (a1)), some (dI (0)), none]) rfl rfl rfl ?_
  refine di_const rfl ?_
  refine di_istore_n (ls2 := [some (.ref b0), some (dI (a1)), some (dI (0)), some (dI (0))]) rfl rfl rfl ?_
  have L3 : ∀ (n : Nat) (i1 : Int) (i2 : Int), (8 - i2).toNat < n → 0 ≤ i1 → i1 ≤ 255 → 0 ≤ i2 → i2 ≤ 8 → i2 ≤ s0 → hsP i1 i2 (fun r => cv u0 r % 100 ≤ a1 ∧ a1 ≤ cv u0 r / 100) → dm_W (fun _ _ _ => True) (dm_P (QP h (RI (fun x => 0 ≤ x ∧ x ≤ 255 ∧ hsP x s0 (fun r => cv u0 r % 100 ≤ a1 ∧ a1 ≤ cv u0 r / 100))) []) 0 0) l 22 2 0 0 4 [some (.ref b0), some (dI (a1)), some (dI (i1)), some (dI (i2))] [] h 0 0 := by
    intro n
    induction n with
    | zero => intro i1 i2 hm; exact absurd hm (Nat.not_lt_zero _)
    | succ n ih =>
      intro i1 i2 hm10 hb4 hb5 hb6 hb7 hx8 PS
      have ihL3 := ih
      clear ih
      refine dr_iload_n rfl rfl ?_
      refine di_aload_n rfl rfl ?_
      refine dr_getf rfl hq0 rfl ?_
      refine di_icmp_ge rfl rfl (by omega) (by omega) (by omega) (by omega) (fun c11 => ?_) (fun c11 => ?_)
      · skip
        refine dr_iload_n rfl rfl ?_
        exact dr_iret (ty := .int) rfl rfl rfl (by decide) (by decide) ⟨rfl, i1, ⟨by omega, by omega, (by have q9 := PS; rw [show i2 = s0 by omega] at q9; exact q9 : hsP i1 s0 (fun r => cv u0 r % 100 ≤ a1 ∧ a1 ≤ cv u0 r / 100))⟩, by omega, by omega, rfl⟩
      · skip
        refine di_aload_n rfl rfl ?_
        refine dr_iload_n rfl rfl ?_
        refine dr_iload_n rfl rfl ?_
        refine dr_virt rfl rfl rfl rfl hq0 (f_X0_doesHold l hl hI (b0 := b0) hb0 (s0 := s0) (m0 := m0) (u0 := u0) (w0 := w0) ⟨hq0, hu0, hw0, hau0, haw0, by omega, by omega, by omega, by omega⟩ (a1 := i2) (by omega) (by omega) (a2 := a1) (by omega) (by omega) (by omega) (by omega)) (by decide) (by decide) (by decide) (Nat.le_of_ble_eq_true rfl) kNP (kIP (fun y12 y12f y12a y12b => ?_))
        have y12g : 0 ≤ y12 ∧ y12 ≤ 1 ∧ (y12 = 1 → cv u0 (i2) % 100 ≤ (a1) ∧ (a1) ≤ cv u0 (i2) / 100) ∧ (y12 = 0 → (a1) < cv u0 (i2) % 100 ∨ cv u0 (i2) / 100 < (a1)) := y12f
        clear y12f
        refine di_if_eq rfl rfl (by omega) (by omega) (fun c13 => ?_) (fun c13 => ?_)
        · skip
          refine di_iinc (ls2 := [some (.ref b0), some (dI (a1)), some (dI (i1)), some (dI ((i2 + 1)))]) rfl rfl rfl rfl ?_
          refine dr_goto rfl rfl ?_
          exact ihL3 (i1) ((i2 + 1)) (by omega) (by omega) (by omega) (by omega) (by omega) (by omega)  (hs_n PS (show ¬ (cv u0 i2 % 100 ≤ a1 ∧ a1 ≤ cv u0 i2 / 100) by omega))
        · skip
          refine dr_iload_n rfl rfl ?_
          refine di_const rfl ?_
          refine dr_iload_n rfl rfl ?_
          refine di_shl7 rfl (by omega) (by omega) (fun w14 w14a w14b w14e => ?_)
          refine di_or rfl (by omega) (by omega) (by omega) (by omega) (fun x15 x15a x15b x15e => ?_)
          refine di_istore_n (ls2 := [some (.ref b0), some (dI (a1)), some (dI (x15)), some (dI (i2))]) rfl rfl rfl ?_
          refine di_iinc (ls2 := [some (.ref b0), some (dI (a1)), some (dI (x15)), some (dI ((i2 + 1)))]) rfl rfl rfl rfl ?_
          refine dr_goto rfl rfl ?_
          exact ihL3 (x15) ((i2 + 1)) (by omega) (by omega) (by omega) (by omega) (by omega) (by omega)  (hs_y PS (by omega) (by omega) (show cv u0 i2 % 100 ≤ a1 ∧ a1 ≤ cv u0 i2 / 100 by omega) w14e x15e)
  exact L3 _ (0) (0) (Nat.lt_succ_self _) (by omega) (by omega) (by omega) (by omega) (by omega)  hs_0
set_option maxHeartbeats 4000000 in
set_option maxRecDepth 100000 in
/-- Earlyends$Book.meeting -/
theorem f_X0_meeting (l : Launch) (hl : l.stackTraces = false) {kc km : Int} {h : dm_H} (hI : Inv kc km h) {b0 : Nat} (hb0 : isBk b0) {s0 m0 : Int} {u0 w0 : List Value} (hC0 : CA b0 s0 m0 u0 w0 h) {a1 : Int} (h1a : -2147483648 ≤ a1) (h1b : a1 ≤ 2147483647) (hp0 : 0 ≤ a1) (hp1 : a1 < s0) : dm_M l 23 2 0 0 [.ref b0, dI (a1)] h (QP h (RI (fun x => 0 ≤ x ∧ x ≤ 255 ∧ hsP x s0 (fun r => cv u0 r % 100 ≤ cv u0 a1 / 100 ∧ cv u0 a1 % 100 ≤ cv u0 r / 100))) []) := by
  obtain ⟨hq0, hu0, hw0, hau0, haw0, hs0a, hs0b, hm0a, hm0b⟩ := id hC0
  refine dm_M_of dk_23 hl rfl (Nat.le_of_ble_eq_true rfl) ?_
  show dm_W (fun _ _ _ => True) (dm_P (QP h (RI (fun x => 0 ≤ x ∧ x ≤ 255 ∧ hsP x s0 (fun r => cv u0 r % 100 ≤ cv u0 a1 / 100 ∧ cv u0 a1 % 100 ≤ cv u0 r / 100))) []) 0 0) l 23 2 0 0 0 [some (.ref b0), some (dI (a1)), none, none] [] h 0 0
  refine di_const rfl ?_
  refine di_istore_n (ls2 := [some (.ref b0), some (dI (a1)), some (dI (0)), none]) rfl rfl rfl ?_
  refine di_const rfl ?_
  refine di_istore_n (ls2 := [some (.ref b0), some (dI (a1)), some (dI (0)), some (dI (0))]) rfl rfl rfl ?_
  have L3 : ∀ (n : Nat) (i1 : Int) (i2 : Int), (8 - i2).toNat < n → 0 ≤ i1 → i1 ≤ 255 → 0 ≤ i2 → i2 ≤ 8 → i2 ≤ s0 → hsP i1 i2 (fun r => cv u0 r % 100 ≤ cv u0 a1 / 100 ∧ cv u0 a1 % 100 ≤ cv u0 r / 100) → dm_W (fun _ _ _ => True) (dm_P (QP h (RI (fun x => 0 ≤ x ∧ x ≤ 255 ∧ hsP x s0 (fun r => cv u0 r % 100 ≤ cv u0 a1 / 100 ∧ cv u0 a1 % 100 ≤ cv u0 r / 100))) []) 0 0) l 23 2 0 0 4 [some (.ref b0), some (dI (a1)), some (dI (i1)), some (dI (i2))] [] h 0 0 := by
    intro n
    induction n with
    | zero => intro i1 i2 hm; exact absurd hm (Nat.not_lt_zero _)
    | succ n ih =>
      intro i1 i2 hm10 hb4 hb5 hb6 hb7 hx8 PS
      have ihL3 := ih
      clear ih
      refine dr_iload_n rfl rfl ?_
      refine di_aload_n rfl rfl ?_
      refine dr_getf rfl hq0 rfl ?_
      refine di_icmp_ge rfl rfl (by omega) (by omega) (by omega) (by omega) (fun c11 => ?_) (fun c11 => ?_)
      · skip
        refine dr_iload_n rfl rfl ?_
        exact dr_iret (ty := .int) rfl rfl rfl (by decide) (by decide) ⟨rfl, i1, ⟨by omega, by omega, (by have q9 := PS; rw [show i2 = s0 by omega] at q9; exact q9 : hsP i1 s0 (fun r => cv u0 r % 100 ≤ cv u0 a1 / 100 ∧ cv u0 a1 % 100 ≤ cv u0 r / 100))⟩, by omega, by omega, rfl⟩
      · skip
        refine di_aload_n rfl rfl ?_
        refine dr_iload_n rfl rfl ?_
        refine dr_iload_n rfl rfl ?_
        refine dr_virt rfl rfl rfl rfl hq0 (f_X0_doMeet l hl hI (b0 := b0) hb0 (s0 := s0) (m0 := m0) (u0 := u0) (w0 := w0) ⟨hq0, hu0, hw0, hau0, haw0, by omega, by omega, by omega, by omega⟩ (a1 := i2) (by omega) (by omega) (a2 := a1) (by omega) (by omega) (by omega) (by omega) (by omega) (by omega)) (by decide) (by decide) (by decide) (Nat.le_of_ble_eq_true rfl) kNP (kIP (fun y12 y12f y12a y12b => ?_))
        have y12g : 0 ≤ y12 ∧ y12 ≤ 1 ∧ (y12 = 1 → cv u0 (i2) % 100 ≤ cv u0 (a1) / 100 ∧ cv u0 (a1) % 100 ≤ cv u0 (i2) / 100) ∧ (y12 = 0 → cv u0 (a1) / 100 < cv u0 (i2) % 100 ∨ cv u0 (i2) / 100 < cv u0 (a1) % 100) := y12f
        clear y12f
        refine di_if_eq rfl rfl (by omega) (by omega) (fun c13 => ?_) (fun c13 => ?_)
        · skip
          refine di_iinc (ls2 := [some (.ref b0), some (dI (a1)), some (dI (i1)), some (dI ((i2 + 1)))]) rfl rfl rfl rfl ?_
          refine dr_goto rfl rfl ?_
          exact ihL3 (i1) ((i2 + 1)) (by omega) (by omega) (by omega) (by omega) (by omega) (by omega)  (hs_n PS (show ¬ (cv u0 i2 % 100 ≤ cv u0 a1 / 100 ∧ cv u0 a1 % 100 ≤ cv u0 i2 / 100) by omega))
        · skip
          refine dr_iload_n rfl rfl ?_
          refine di_const rfl ?_
          refine dr_iload_n rfl rfl ?_
          refine di_shl7 rfl (by omega) (by omega) (fun w14 w14a w14b w14e => ?_)
          refine di_or rfl (by omega) (by omega) (by omega) (by omega) (fun x15 x15a x15b x15e => ?_)
          refine di_istore_n (ls2 := [some (.ref b0), some (dI (a1)), some (dI (x15)), some (dI (i2))]) rfl rfl rfl ?_
          refine di_iinc (ls2 := [some (.ref b0), some (dI (a1)), some (dI (x15)), some (dI ((i2 + 1)))]) rfl rfl rfl rfl ?_
          refine dr_goto rfl rfl ?_
          exact ihL3 (x15) ((i2 + 1)) (by omega) (by omega) (by omega) (by omega) (by omega) (by omega)  (hs_y PS (by omega) (by omega) (show cv u0 i2 % 100 ≤ cv u0 a1 / 100 ∧ cv u0 a1 % 100 ≤ cv u0 i2 / 100 by omega) w14e x15e)
  exact L3 _ (0) (0) (Nat.lt_succ_self _) (by omega) (by omega) (by omega) (by omega) (by omega)  hs_0
set_option maxHeartbeats 4000000 in
set_option maxRecDepth 100000 in
/-- Earlyends$Book.holdingEndsOf -/
theorem f_X0_holdingEndsOf (l : Launch) (hl : l.stackTraces = false) {kc km : Int} {h : dm_H} (hI : Inv kc km h) {b0 : Nat} (hb0 : isBk b0) {s0 m0 : Int} {u0 w0 : List Value} (hC0 : CA b0 s0 m0 u0 w0 h) {a1 : Int} (h1a : 0 ≤ a1) (h1b : a1 ≤ 255) : dm_M l 24 3 0 0 [.ref b0, dI (a1)] h (QP h (RI (fun x => 0 ≤ x ∧ x ≤ 255 ∧ heP x s0 s0 (cv u0) a1)) []) := by
  obtain ⟨hq0, hu0, hw0, hau0, haw0, hs0a, hs0b, hm0a, hm0b⟩ := id hC0
  refine dm_M_of dk_24 hl rfl (Nat.le_of_ble_eq_true rfl) ?_
  show dm_W (fun _ _ _ => True) (dm_P (QP h (RI (fun x => 0 ≤ x ∧ x ≤ 255 ∧ heP x s0 s0 (cv u0) a1)) []) 0 0) l 24 3 0 0 0 [some (.ref b0), some (dI (a1)), none, none] [] h 0 0
  refine di_const rfl ?_
  refine di_istore_n (ls2 := [some (.ref b0), some (dI (a1)), some (dI (0)), none]) rfl rfl rfl ?_
  refine di_const rfl ?_
  refine di_istore_n (ls2 := [some (.ref b0), some (dI (a1)), some (dI (0)), some (dI (0))]) rfl rfl rfl ?_
  have L3 : ∀ (n : Nat) (i1 : Int) (i2 : Int), (8 - i2).toNat < n → 0 ≤ i1 → i1 ≤ 255 → 0 ≤ i2 → i2 ≤ 8 → i2 ≤ s0 → heP i1 i2 s0 (cv u0) a1 → dm_W (fun _ _ _ => True) (dm_P (QP h (RI (fun x => 0 ≤ x ∧ x ≤ 255 ∧ heP x s0 s0 (cv u0) a1)) []) 0 0) l 24 3 0 0 4 [some (.ref b0), some (dI (a1)), some (dI (i1)), some (dI (i2))] [] h 0 0 := by
    intro n
    induction n with
    | zero => intro i1 i2 hm; exact absurd hm (Nat.not_lt_zero _)
    | succ n ih =>
      intro i1 i2 hm10 hb4 hb5 hb6 hb7 hx8 PS
      have ihL3 := ih
      clear ih
      refine dr_iload_n rfl rfl ?_
      refine di_aload_n rfl rfl ?_
      refine dr_getf rfl hq0 rfl ?_
      refine di_icmp_ge rfl rfl (by omega) (by omega) (by omega) (by omega) (fun c11 => ?_) (fun c11 => ?_)
      · skip
        refine dr_iload_n rfl rfl ?_
        exact dr_iret (ty := .int) rfl rfl rfl (by decide) (by decide) ⟨rfl, i1, ⟨by omega, by omega, (by have q9 := PS; rw [show i2 = s0 by omega] at q9; exact q9 : heP i1 s0 s0 (cv u0) a1)⟩, by omega, by omega, rfl⟩
      · skip
        refine dr_iload_n rfl rfl ?_
        refine dr_iload_n rfl rfl ?_
        refine dr_statN rfl rfl rfl rfl (f_X6_isInSet l hl hI (a0 := a1) (by omega) (by omega) (a1 := i2) (by omega) (by omega)) kNP0 (by decide) (by decide) (by decide) (Nat.le_of_ble_eq_true rfl) (kIP (fun y12 y12f y12a y12b => ?_))
        have y12g : 0 ≤ y12 ∧ y12 ≤ 1 ∧ (y12 = 1 → hbt (a1) (i2)) ∧ (y12 = 0 → ¬ hbt (a1) (i2)) := y12f
        clear y12f
        refine di_if_eq rfl rfl (by omega) (by omega) (fun c13 => ?_) (fun c13 => ?_)
        · skip
          refine di_iinc (ls2 := [some (.ref b0), some (dI (a1)), some (dI (i1)), some (dI ((i2 + 1)))]) rfl rfl rfl rfl ?_
          refine dr_goto rfl rfl ?_
          exact ihL3 (i1) ((i2 + 1)) (by omega) (by omega) (by omega) (by omega) (by omega) (by omega)  (he_n PS (y12g.2.2.2 (by omega)))
        · skip
          refine dr_iload_n rfl rfl ?_
          refine di_aload_n rfl rfl ?_
          refine di_aload_n rfl rfl ?_
          refine dr_iload_n rfl rfl ?_
          refine dr_virt rfl rfl rfl rfl hq0 (f_X0_toAt l hl hI (b0 := b0) hb0 (s0 := s0) (m0 := m0) (u0 := u0) (w0 := w0) ⟨hq0, hu0, hw0, hau0, haw0, by omega, by omega, by omega, by omega⟩ (a1 := i2) (by omega) (by omega)) (by decide) (by decide) (by decide) (Nat.le_of_ble_eq_true rfl) kNP (kIP (fun y14 y14f y14a y14b => ?_))
          have y14g : -1 ≤ y14 ∧ y14 ≤ 99 ∧ (0 ≤ (i2) → (i2) < (s0) → y14 = cv u0 (i2) / 100) ∧ ((i2) < 0 → y14 = -1) ∧ ((s0) ≤ (i2) → y14 = -1) := y14f
          clear y14f
          refine dr_virt rfl rfl rfl rfl hq0 (f_X0_holding l hl hI (b0 := b0) hb0 (s0 := s0) (m0 := m0) (u0 := u0) (w0 := w0) ⟨hq0, hu0, hw0, hau0, haw0, by omega, by omega, by omega, by omega⟩ (a1 := y14) (by omega) (by omega)) (by decide) (by decide) (by decide) (Nat.le_of_ble_eq_true rfl) kNP (kIP (fun y15 y15f y15a y15b => ?_))
          have y15g : 0 ≤ y15 ∧ y15 ≤ 255 ∧ hsP y15 (s0) (fun r => cv u0 r % 100 ≤ (y14) ∧ (y14) ≤ cv u0 r / 100) := y15f
          clear y15f
          refine di_or rfl (by omega) (by omega) (by omega) (by omega) (fun x16 x16a x16b x16e => ?_)
          refine di_istore_n (ls2 := [some (.ref b0), some (dI (a1)), some (dI (x16)), some (dI (i2))]) rfl rfl rfl ?_
          refine di_iinc (ls2 := [some (.ref b0), some (dI (a1)), some (dI (x16)), some (dI ((i2 + 1)))]) rfl rfl rfl rfl ?_
          refine dr_goto rfl rfl ?_
          exact ihL3 (x16) ((i2 + 1)) (by omega) (by omega) (by omega) (by omega) (by omega) (by omega)  (he_y PS (by omega) (y12g.2.2.1 (by omega)) y15g.2.2 (by have q9 := y14g; omega) x16e)
  exact L3 _ (0) (0) (Nat.lt_succ_self _) (by omega) (by omega) (by omega) (by omega) (by omega)  he_0
set_option maxHeartbeats 4000000 in
set_option maxRecDepth 100000 in
/-- Earlyends.holders -/
theorem c_X6_holders (l : Launch) (hl : l.stackTraces = false) {kc km : Int} {h : dm_H} (hI : Inv kc km h) {B : Int} {σ : St} (hS : CSt B σ h) (hB : B ≤ 80000) {a1 : Int} (h1a : -2147483648 ≤ a1) (h1b : a1 ≤ 2147483647) {a2 : Int} (h2a : -2147483648 ≤ a2) (h2b : a2 ≤ 2147483647) : dm_M l 93 6 8 48 [.ref 0, dI (a1), dI (a2)] h (QX kc km h B XB XA (spHolders σ a1 a2)) := by
  refine dm_M_of dk_93 hl rfl (Nat.le_of_ble_eq_true rfl) ?_
  show dm_W (fun _ _ _ => True) (dm_P (QX kc km h B XB XA (spHolders σ a1 a2)) 8 48) l 93 6 8 48 0 [some (.ref 0), some (dI (a1)), some (dI (a2)), none] [] h 0 0
  refine di_aload_n rfl rfl ?_
  refine dr_iload_n rfl rfl ?_
  obtain ⟨r1, c2, c3, hc4⟩ := I_cls hI
  refine dr_virt rfl rfl rfl rfl hc4 (f_X6_bookAt l hl hI (a1 := a1) (by omega) (by omega)) (by decide) (by decide) (by decide) (Nat.le_of_ble_eq_true rfl) (fun Y h9 q9 => by obtain ⟨rfl, rfl, hC⟩ := q9; exact dr_out rfl (by decide) (by decide) (QX_1 (a := 0) hI FrC_rf hS (by omega) (by unfold spHolders; (repeat' split) <;> first | rfl | (exfalso; omega) | (apply Prod.ext <;> first | rfl | (dsimp only; omega) | (apply Prod.ext <;> first | rfl | (dsimp only; omega)))))) (kPXR (fun r5 ⟨q6, q7, q8, q10⟩ => ?_))
  refine di_astore_n (ls2 := [some (.ref 0), some (dI (a1)), some (dI (a2)), some (.ref r5)]) rfl rfl rfl ?_
  refine dr_iload_n rfl rfl ?_
  refine dr_stat rfl rfl rfl rfl (f_X6_needPlace l hl hI (a0 := a2) (by omega) (by omega)) (by decide) (by decide) (by decide) (Nat.le_of_ble_eq_true rfl) (fun Y h9 q9 => by obtain ⟨rfl, rfl, hC⟩ := q9; exact dr_out rfl (by decide) (by decide) (QX_2 (a := 0) hI FrC_rf hS (by omega) (by unfold spHolders; (repeat' split) <;> first | rfl | (exfalso; omega) | (apply Prod.ext <;> first | rfl | (dsimp only; omega) | (apply Prod.ext <;> first | rfl | (dsimp only; omega)))))) (kPXV (fun q11 => ?_))
  refine di_aload_n rfl rfl ?_
  refine dr_iload_n rfl rfl ?_
  obtain ⟨s12, m13, u14, w15, hc16, hr17, ht18, ma19, mb20⟩ := CSt_bk hS (k := a1) q8 q10 q7
  have sq21 : 0 ≤ s12 ∧ s12 ≤ 8 := ⟨hc16.2.2.2.2.2.1, hc16.2.2.2.2.2.2.1⟩
  have hz22 : zF (σ.1 a1) = s12 := zF_eq hr17
  refine dr_virt rfl rfl rfl rfl hc16.1 (f_X0_holding l hl hI q6 hc16 (a1 := a2) (by omega) (by omega)) (by decide) (by decide) (by decide) (Nat.le_of_ble_eq_true rfl) kNP (kIP (fun y23 y23f y23a y23b => ?_))
  obtain ⟨y23c, y23d, y23k⟩ := y23f
  have e9 : anHold (σ.1 a1) a2 = y23 := hold_e hr17 ht18 y23k
  exact dr_iret (ty := .int) rfl rfl rfl (by decide) (by decide) (QX_ok hI FrC_rf hS (by omega) (by unfold spHolders; (try rw [e9]); (repeat' split) <;> first | rfl | (exfalso; omega) | (apply Prod.ext <;> first | rfl | (dsimp only; omega) | (apply Prod.ext <;> first | rfl | (dsimp only; omega)))))
set_option maxHeartbeats 4000000 in
set_option maxRecDepth 100000 in
/-- Earlyends.unheld -/
theorem c_X6_unheld (l : Launch) (hl : l.stackTraces = false) {kc km : Int} {h : dm_H} (hI : Inv kc km h) {B : Int} {σ : St} (hS : CSt B σ h) (hB : B ≤ 80000) {a1 : Int} (h1a : -2147483648 ≤ a1) (h1b : a1 ≤ 2147483647) {a2 : Int} (h2a : -2147483648 ≤ a2) (h2b : a2 ≤ 2147483647) : dm_M l 92 6 8 48 [.ref 0, dI (a1), dI (a2)] h (QX kc km h B XB XA (spUnheld σ a1 a2)) := by
  refine dm_M_of dk_92 hl rfl (Nat.le_of_ble_eq_true rfl) ?_
  show dm_W (fun _ _ _ => True) (dm_P (QX kc km h B XB XA (spUnheld σ a1 a2)) 8 48) l 92 6 8 48 0 [some (.ref 0), some (dI (a1)), some (dI (a2)), none] [] h 0 0
  refine di_aload_n rfl rfl ?_
  refine dr_iload_n rfl rfl ?_
  obtain ⟨r1, c2, c3, hc4⟩ := I_cls hI
  refine dr_virt rfl rfl rfl rfl hc4 (f_X6_bookAt l hl hI (a1 := a1) (by omega) (by omega)) (by decide) (by decide) (by decide) (Nat.le_of_ble_eq_true rfl) (fun Y h9 q9 => by obtain ⟨rfl, rfl, hC⟩ := q9; exact dr_out rfl (by decide) (by decide) (QX_1 (a := 0) hI FrC_rf hS (by omega) (by unfold spUnheld; (repeat' split) <;> first | rfl | (exfalso; omega) | (apply Prod.ext <;> first | rfl | (dsimp only; omega) | (apply Prod.ext <;> first | rfl | (dsimp only; omega)))))) (kPXR (fun r5 ⟨q6, q7, q8, q10⟩ => ?_))
  refine di_astore_n (ls2 := [some (.ref 0), some (dI (a1)), some (dI (a2)), some (.ref r5)]) rfl rfl rfl ?_
  refine di_aload_n rfl rfl ?_
  refine dr_iload_n rfl rfl ?_
  obtain ⟨s11, m12, u13, w14, hc15, hr16, ht17, ma18, mb19⟩ := CSt_bk hS (k := a1) q8 q10 q7
  have sq20 : 0 ≤ s11 ∧ s11 ≤ 8 := ⟨hc15.2.2.2.2.2.1, hc15.2.2.2.2.2.2.1⟩
  have hz21 : zF (σ.1 a1) = s11 := zF_eq hr16
  refine dr_stat rfl rfl rfl rfl (f_X6_needSet l hl hI q6 hc15 (a1 := a2) (by omega) (by omega)) (by decide) (by decide) (by decide) (Nat.le_of_ble_eq_true rfl) (fun Y h9 q9 => by obtain ⟨rfl, rfl, hC⟩ := q9; exact dr_out rfl (by decide) (by decide) (QX_2 (a := 0) hI FrC_rf hS (by omega) (by unfold spUnheld; (try rw [hz21]); (repeat' split) <;> first | rfl | (exfalso; omega) | (apply Prod.ext <;> first | rfl | (dsimp only; omega) | (apply Prod.ext <;> first | rfl | (dsimp only; omega)))))) (kPXV (fun q22 => ?_))
  have p823 := pwI_8 (r := s11) (by omega) (by omega)
  have p823c : a2 ≤ 255 := by omega
  refine di_aload_n rfl rfl ?_
  refine dr_virt rfl rfl rfl rfl hc15.1 (f_X0_count l hl hI q6 hc15 ) (by decide) (by decide) (by decide) (Nat.le_of_ble_eq_true rfl) kNP (kIP (fun y24 y24f y24a y24b => ?_))
  obtain ⟨y24c, y24d, y24e⟩ := y24f
  have y24e2 := y24e.symm
  subst y24e2
  refine di_aload_n rfl rfl ?_
  refine dr_iload_n rfl rfl ?_
  refine dr_virt rfl rfl rfl rfl hc15.1 (f_X0_holdingEndsOf l hl hI q6 hc15 (a1 := a2) (by omega) (by omega)) (by decide) (by decide) (by decide) (Nat.le_of_ble_eq_true rfl) kNP (kIP (fun y25 y25f y25a y25b => ?_))
  obtain ⟨y25c, y25d, y25k⟩ := y25f
  refine dr_stat rfl rfl rfl rfl (f_bitCount l hl (a0 := y25) (by omega) (by omega)) (by decide) (by decide) (by decide) (Nat.le_of_ble_eq_true rfl) kNP (kIP (fun y26 y26f y26a y26b => ?_))
  have y26f : y26 = bb y25 8 := y26f
  subst y26f
  refine di_isub rfl ?_
  have b89 := bb_8 (s := y25) (by omega) (by omega)
  have b09 := bb_nn y25 8
  have e9 : anUnheld (σ.1 a1) a2 = (s11 - (bb y25 8)) := unh_e hr16 ht17 y25k
  exact dr_iret (ty := .int) rfl rfl rfl (by decide) (by decide) (QX_ok hI FrC_rf hS (by omega) (by unfold spUnheld; (try rw [hz21]); (try rw [e9]); (repeat' split) <;> first | rfl | (exfalso; omega) | (apply Prod.ext <;> first | rfl | (dsimp only; omega) | (apply Prod.ext <;> first | rfl | (dsimp only; omega)))))
set_option maxHeartbeats 4000000 in
set_option maxRecDepth 100000 in
/-- Earlyends.choice -/
theorem c_X6_choice (l : Launch) (hl : l.stackTraces = false) {kc km : Int} {h : dm_H} (hI : Inv kc km h) {B : Int} {σ : St} (hS : CSt B σ h) (hB : B ≤ 80000) {a1 : Int} (h1a : -2147483648 ≤ a1) (h1b : a1 ≤ 2147483647) {a2 : Int} (h2a : -2147483648 ≤ a2) (h2b : a2 ≤ 2147483647) : dm_M l 91 6 8 48 [.ref 0, dI (a1), dI (a2)] h (QX kc km h B XB XA (spChoice σ a1 a2)) := by
  refine dm_M_of dk_91 hl rfl (Nat.le_of_ble_eq_true rfl) ?_
  show dm_W (fun _ _ _ => True) (dm_P (QX kc km h B XB XA (spChoice σ a1 a2)) 8 48) l 91 6 8 48 0 [some (.ref 0), some (dI (a1)), some (dI (a2)), none, none] [] h 0 0
  refine di_aload_n rfl rfl ?_
  refine dr_iload_n rfl rfl ?_
  obtain ⟨r1, c2, c3, hc4⟩ := I_cls hI
  refine dr_virt rfl rfl rfl rfl hc4 (f_X6_bookAt l hl hI (a1 := a1) (by omega) (by omega)) (by decide) (by decide) (by decide) (Nat.le_of_ble_eq_true rfl) (fun Y h9 q9 => by obtain ⟨rfl, rfl, hC⟩ := q9; exact dr_out rfl (by decide) (by decide) (QX_1 (a := 0) hI FrC_rf hS (by omega) (by unfold spChoice; (repeat' split) <;> first | rfl | (exfalso; omega) | (apply Prod.ext <;> first | rfl | (dsimp only; omega) | (apply Prod.ext <;> first | rfl | (dsimp only; omega)))))) (kPXR (fun r5 ⟨q6, q7, q8, q10⟩ => ?_))
  refine di_astore_n (ls2 := [some (.ref 0), some (dI (a1)), some (dI (a2)), some (.ref r5), none]) rfl rfl rfl ?_
  refine di_aload_n rfl rfl ?_
  refine dr_iload_n rfl rfl ?_
  obtain ⟨s11, m12, u13, w14, hc15, hr16, ht17, ma18, mb19⟩ := CSt_bk hS (k := a1) q8 q10 q7
  have sq20 : 0 ≤ s11 ∧ s11 ≤ 8 := ⟨hc15.2.2.2.2.2.1, hc15.2.2.2.2.2.2.1⟩
  have hz21 : zF (σ.1 a1) = s11 := zF_eq hr16
  refine dr_stat rfl rfl rfl rfl (f_X6_needSet l hl hI q6 hc15 (a1 := a2) (by omega) (by omega)) (by decide) (by decide) (by decide) (Nat.le_of_ble_eq_true rfl) (fun Y h9 q9 => by obtain ⟨rfl, rfl, hC⟩ := q9; exact dr_out rfl (by decide) (by decide) (QX_2 (a := 0) hI FrC_rf hS (by omega) (by unfold spChoice; (try rw [hz21]); (repeat' split) <;> first | rfl | (exfalso; omega) | (apply Prod.ext <;> first | rfl | (dsimp only; omega) | (apply Prod.ext <;> first | rfl | (dsimp only; omega)))))) (kPXV (fun q22 => ?_))
  have p823 := pwI_8 (r := s11) (by omega) (by omega)
  have p823c : a2 ≤ 255 := by omega
  refine di_const rfl ?_
  refine di_istore (ls2 := [some (.ref 0), some (dI (a1)), some (dI (a2)), some (.ref r5), some (dI (0))]) rfl rfl rfl ?_
  have L25 : ∀ (n : Nat) (i24 : Int), (8 - i24).toNat < n → 0 ≤ i24 → i24 ≤ 8 → i24 ≤ s11 → chP i24 (cv u13) s11 a2 → dm_W (fun _ _ _ => True) (dm_P (QX kc km h B XB XA (spChoice σ a1 a2)) 8 48) l 91 6 8 48 14 [some (.ref 0), some (dI (a1)), some (dI (a2)), some (.ref r5), some (dI (i24))] [] h 2 12 := by
    intro n
    induction n with
    | zero => intro i24 hm; exact absurd hm (Nat.not_lt_zero _)
    | succ n ih =>
      intro i24 hm29 hb26 hb27 hx28 PA
      have ihL25 := ih
      clear ih
      refine dr_iload rfl rfl ?_
      refine di_aload_n rfl rfl ?_
      refine dr_virt rfl rfl rfl rfl hc15.1 (f_X0_count l hl hI q6 hc15 ) (by decide) (by decide) (by decide) (Nat.le_of_ble_eq_true rfl) kNP (kIP (fun y30 y30f y30a y30b => ?_))
      obtain ⟨y30c, y30d, y30e⟩ := y30f
      have y30e2 := y30e.symm
      subst y30e2
      refine di_icmp_ge rfl rfl (by omega) (by omega) (by omega) (by omega) (fun c31 => ?_) (fun c31 => ?_)
      · skip
        refine dr_iload_n rfl rfl ?_
        refine dr_stat rfl rfl rfl rfl (f_bitCount l hl (a0 := a2) (by omega) (by omega)) (by decide) (by decide) (by decide) (Nat.le_of_ble_eq_true rfl) kNP (kIP (fun y32 y32f y32a y32b => ?_))
        have y32f : y32 = bb a2 8 := y32f
        subst y32f
        have b89 := bb_8 (s := a2) (by omega) (by omega)
        have b09 := bb_nn a2 8
        have e9 : anChoice (σ.1 a1) a2 = bb a2 8 := cho_y hr16 ht17 (ch_e PA (by omega))
        exact dr_iret (ty := .int) rfl rfl rfl (by decide) (by decide) (QX_ok hI FrC_rf hS (by omega) (by unfold spChoice; (try rw [hz21]); (try rw [e9]); (repeat' split) <;> first | rfl | (exfalso; omega) | (apply Prod.ext <;> first | rfl | (dsimp only; omega) | (apply Prod.ext <;> first | rfl | (dsimp only; omega)))))
      · skip
        refine dr_iload_n rfl rfl ?_
        refine dr_iload rfl rfl ?_
        refine dr_stat rfl rfl rfl rfl (f_X6_isInSet l hl hI (a0 := a2) (by omega) (by omega) (a1 := i24) (by omega) (by omega)) (by decide) (by decide) (by decide) (Nat.le_of_ble_eq_true rfl) kNP (kIP (fun y33 y33f y33a y33b => ?_))
        obtain ⟨y33c, y33d, y33k, y33k2⟩ := y33f
        refine di_if_eq rfl rfl (by omega) (by omega) (fun c34 => ?_) (fun c34 => ?_)
        · skip
          refine di_iinc (ls2 := [some (.ref 0), some (dI (a1)), some (dI (a2)), some (.ref r5), some (dI ((i24 + 1)))]) rfl rfl rfl rfl ?_
          refine dr_goto rfl rfl ?_
          exact ihL25 ((i24 + 1)) (by omega) (by omega) (by omega) (by omega)  (ch_n PA (y33k2 (by omega)))
        · skip
          refine di_aload_n rfl rfl ?_
          refine dr_iload rfl rfl ?_
          refine dr_virt rfl rfl rfl rfl hc15.1 (f_X0_meeting l hl hI q6 hc15 (a1 := i24) (by omega) (by omega) (by omega) (by omega)) (by decide) (by decide) (by decide) (Nat.le_of_ble_eq_true rfl) kNP (kIP (fun y35 y35f y35a y35b => ?_))
          obtain ⟨y35c, y35d, y35k⟩ := y35f
          refine dr_iload_n rfl rfl ?_
          refine di_and rfl (by omega) (by omega) (by omega) (fun x36 x36a x36b x36e => ?_)
          refine di_const rfl ?_
          refine dr_iload rfl rfl ?_
          refine di_shl7 rfl (by omega) (by omega) (fun w37 w37a w37b w37e => ?_)
          refine di_icmp_eq rfl rfl (by omega) (by omega) (by omega) (by omega) (fun c38 => ?_) (fun c38 => ?_)
          · skip
            refine di_iinc (ls2 := [some (.ref 0), some (dI (a1)), some (dI (a2)), some (.ref r5), some (dI ((i24 + 1)))]) rfl rfl rfl rfl ?_
            refine dr_goto rfl rfl ?_
            exact ihL25 ((i24 + 1)) (by omega) (by omega) (by omega) (by omega)  (ch_y PA (by omega) (by omega) (by omega) (by omega) (by omega) y35k x36e w37e (by omega))
          · skip
            refine di_const rfl ?_
            have ra9 := (CA_arr hc15).1 i24 (by omega) (by omega)
            have e9 : anChoice (σ.1 a1) a2 = -1 := cho_n hr16 ht17 (ch_x (by omega) (by omega) (by omega) (by omega) (by omega) (y33k (by omega)) ra9 y35k x36e w37e (by omega))
            exact dr_iret (ty := .int) rfl rfl rfl (by decide) (by decide) (QX_ok hI FrC_rf hS (by omega) (by unfold spChoice; (try rw [hz21]); (try rw [e9]); (repeat' split) <;> first | rfl | (exfalso; omega) | (apply Prod.ext <;> first | rfl | (dsimp only; omega) | (apply Prod.ext <;> first | rfl | (dsimp only; omega)))))
  exact L25 _ (0) (Nat.lt_succ_self _) (by omega) (by omega) (by omega)  ch_0
