/-! ===== stretches that are held ===== -/
def cov (f : Int → Int) (s A a b : Int) : Prop := ∀ q : Int, a ≤ q → q ≤ b → ∃ k : Int, (0 ≤ k ∧ k < s) ∧ hbt A k ∧ f k % 100 ≤ q ∧ q ≤ f k / 100
def covR (f : Int → Int) (A r a o : Int) : Prop := ∀ q : Int, a ≤ q → q ≤ o → ∃ k : Int, (0 ≤ k ∧ k ≤ r) ∧ hbt A k ∧ f k % 100 ≤ q ∧ q ≤ f k / 100
section SR
variable {f g F : Int → Int} {s A a b o r i j k p x : Int} {P : Int → Bool}
theorem las_ex : ∀ m : Nat, (∃ j : Int, 0 ≤ j ∧ j < m ∧ P (f j) = true) → ∃ j : Int, 0 ≤ j ∧ j < m ∧ P (f j) = true ∧ ∀ i : Int, j < i → i < m → P (f i) = false
  | 0, ⟨j, j0, j1, _⟩ => by omega
  | m + 1, ⟨j, j0, j1, hj⟩ => by
    rcases hb : P (f (m : Int)) with _ | _
    · have hne : j ≠ m := fun e => by rw [e, hb] at hj; cases hj
      obtain ⟨k, k0, k1, k2, k3⟩ := las_ex m ⟨j, j0, by omega, hj⟩
      refine ⟨k, k0, by omega, k2, fun i i0 i1 => ?_⟩
      by_cases e : i = m
      · rw [e]; exact hb
      · exact k3 i i0 (by omega)
    · exact ⟨m, by omega, by omega, hb, fun i i0 i1 => by omega⟩
theorem grt_at (hr : Rep f g s F) (ht : Srt f s) (r0 : 0 ≤ r) (r1 : r < s) (hp : P (f r) = true) : ∃ j : Int, r ≤ j ∧ j < s ∧ grt F P = f j ∧ P (f j) = true := by
  obtain ⟨j, j0, j1, j2, j3⟩ := las_ex (f := f) (P := P) s.toNat ⟨r, r0, by omega, hp⟩
  have jr : r ≤ j := Classical.byContradiction fun h => by
    have := j3 r (by omega) (by omega)
    rw [hp] at this; cases this
  refine ⟨j, jr, by omega, grt_eq ⟨(Rep_yes hr j0 (by omega) rfl).2.1, j2, fun c hc hpc => ?_⟩, j2⟩
  obtain ⟨i, i0, i1, rfl⟩ := Rep_ex hr hc
  by_cases q : j < i
  · have := j3 i q (by omega)
    rw [hpc] at this; cases this
  · by_cases q2 : i = j
    · rw [q2]; exact Int.le_refl _
    · have := ht i j i0 (by omega) (by omega); omega
theorem gh_at (hr : Rep f g s F) (ht : Srt f s) (r0 : 0 ≤ r) (r1 : r < s) (hh : f r % 100 ≤ p ∧ p ≤ f r / 100) : ∃ j : Int, r ≤ j ∧ j < s ∧ gh F p = f j ∧ f j % 100 ≤ p ∧ p ≤ f j / 100 := by
  obtain ⟨j, j0, j1, j2, j3⟩ := grt_at hr ht (P := hoP p) r0 r1 (hoP_t hh)
  exact ⟨j, j0, j1, j2, of_decide_eq_true j3⟩
theorem gh_d (hr : Rep f g s F) (h : gh F p ≠ -1) : ∃ j : Int, (0 ≤ j ∧ j < s) ∧ gh F p = f j ∧ f j % 100 ≤ p ∧ p ≤ f j / 100 := by
  rcases grt_d (P := hoP p) hr with ⟨e, -⟩ | ⟨-, e1, e2⟩
  · exact absurd e h
  · obtain ⟨j, j0, j1, ej⟩ := Rep_ex hr e1
    have e2 := of_decide_eq_true e2
    refine ⟨j, ⟨j0, j1⟩, ej.symm, ?_⟩
    rw [ej]; exact e2
theorem pl_up (hr : Rep f g s F) : ∀ n : Nat, lkOK F a b n → a ≤ pl F a n
  | 0, _ => Int.le_refl _
  | n + 1, h => by
    have ih := pl_up hr n (fun j hj => h j (by omega))
    obtain ⟨j, -, e, h1, h2⟩ := gh_d hr (h n (by omega)).2
    show a ≤ gh F (pl F a n) / 100 + 1
    rw [e]; omega
/-- a set that holds a stretch is not smaller than the links are many -/
theorem cv_ge (hr : Rep f g s F) (ht : Srt f s) (hc : cov f s A a b) : ∀ n : Nat, lkOK F a b (n + 1) → ∃ k : Int, (0 ≤ k ∧ k < s) ∧ hbt A k ∧ (f k % 100 ≤ pl F a n ∧ pl F a n ≤ f k / 100) ∧ (n : Int) ≤ bb A k
  | 0, h => by
    obtain ⟨k, hk, hA, hh⟩ := hc a (Int.le_refl _) (h 0 (by omega)).1
    exact ⟨k, hk, hA, hh, bb_nn A k⟩
  | n + 1, h => by
    obtain ⟨k, ⟨k0, k1⟩, hA, hh, hn⟩ := cv_ge hr ht hc n (fun j hj => h j (by omega))
    obtain ⟨j, j0, j1, e, h1, h2⟩ := gh_at hr ht k0 k1 hh
    have hm := to_mo ht k0 j0 j1
    have hp : pl F a (n + 1) = f j / 100 + 1 := by
      show gh F (pl F a n) / 100 + 1 = f j / 100 + 1
      rw [e]
    have ha := pl_up hr (b := b) (n + 1) (fun j hj => h j (by omega))
    obtain ⟨k', ⟨a0, a1⟩, hA', hh'⟩ := hc (pl F a (n + 1)) ha (h (n + 1) (by omega)).1
    have hlt : k < k' := Classical.byContradiction fun hn => by
      have := to_mo ht a0 (show k' ≤ k by omega) k1
      omega
    have := bb_in (A := A) k0 hA hlt
    exact ⟨k', ⟨a0, a1⟩, hA', hh', by omega⟩
theorem cv_m (hr : Rep f g s F) (ht : Srt f s) (s8 : s ≤ 8) (hc : cov f s A a b) (x0 : 0 ≤ x) (h : lkOK F a b x.toNat) : x ≤ bb A 8 := by
  by_cases hz : x = 0
  · rw [hz]; exact bb_nn A 8
  · obtain ⟨k, ⟨k0, k1⟩, k2, -, k4⟩ := cv_ge hr ht hc (x.toNat - 1) (by rw [show x.toNat - 1 + 1 = x.toNat by omega]; exact h)
    have := bb_in (A := A) (j := 8) k0 k2 (by omega)
    omega
theorem cv_no (hr : Rep f g s F) (ht : Srt f s) (h : fnE F a b) : ¬ cov f s A a b := fun hc => by
  obtain ⟨n, h1, h2, h3⟩ := h
  obtain ⟨k, ⟨k0, k1⟩, -, hh⟩ := hc (pl F a n) (pl_up hr n h1) h2
  obtain ⟨j, j0, j1, e, -⟩ := gh_at hr ht k0 k1 hh
  have := (Rep_at hr (j := j) (by omega) j1).1
  omega
theorem pl_fi : ∀ (n : Nat) (q : Int), a ≤ q → q < pl F a n → ∃ i : Nat, i < n ∧ pl F a i ≤ q ∧ q < pl F a (i + 1)
  | 0, q, h0, h1 => by
    have h1 : q < a := h1
    omega
  | n + 1, q, h0, h1 => by
    by_cases c : q < pl F a n
    · obtain ⟨i, i0, i1, i2⟩ := pl_fi n q h0 c
      exact ⟨i, by omega, i1, i2⟩
    · exact ⟨n, by omega, by omega, h1⟩
/-- the links themselves hold it -/
theorem lk_cv (hr : Rep f g s F) (ht : Srt f s) (s8 : s ≤ 8) (x0 : 0 ≤ x) (h : lkOK F a b x.toNat) (hb : b < pl F a x.toNat) : ∃ A : Int, hsP A s (hbt A) ∧ cov f s A a b ∧ bb A 8 ≤ x := by
  have s0 := hr.1.1
  obtain ⟨A, hA⟩ := hs_ex (H := fun r => ∃ i : Nat, i < x.toNat ∧ f r = gh F (pl F a i)) s.toNat (by omega)
  rw [show ((s.toNat : Nat) : Int) = s by omega] at hA
  have hA2 : hsP A s (hbt A) := sB_cg hA (fun r r0 r1 => ⟨fun q => ⟨q.1, (hA.2 r r0 r1).mpr q⟩, fun q => (hA.2 r r0 r1).mp q.2⟩)
  refine ⟨A, hA2, fun q q0 q1 => ?_, ?_⟩
  · obtain ⟨i, i0, i1, i2⟩ := pl_fi (F := F) (a := a) x.toNat q q0 (by omega)
    obtain ⟨j, ⟨j0, j1⟩, e, h1, h2⟩ := gh_d hr (h i i0).2
    have i2 : q < gh F (pl F a i) / 100 + 1 := i2
    rw [e] at i2
    exact ⟨j, ⟨j0, j1⟩, (hA.2 j j0 (by omega)).mpr ⟨j1, i, i0, e.symm⟩, by omega, by omega⟩
  · have e := bb_cnt (f := fun j => j) (P := fun r => @decide (hbt A r) (Classical.propDecidable _)) hA2 s0 s8 (fun r => @decide_eq_true_iff _ (Classical.propDecidable _))
    rw [e]
    obtain ⟨c, c1, c2, c3⟩ := cnt_pick (fun j => j) (fun r => @decide (hbt A r) (Classical.propDecidable _)) s.toNat
    have hb2 := (cnt_b (fun j => j) (fun r => @decide (hbt A r) (Classical.propDecidable _)) s.toNat).1
    have := inj_le x.toNat (cnt (fun j => j) (fun r => @decide (hbt A r) (Classical.propDecidable _)) s.toNat).toNat (fun i => f (c i)) (fun i => gh F (pl F a i)) (fun i j hij hj => ?_) (fun i hi => ?_)
    · omega
    · obtain ⟨x0', x1, -⟩ := c1 i (by omega) (by omega)
      obtain ⟨y0, y1, -⟩ := c1 j (by omega) (by omega)
      have hlt := c2 i j (by omega) (by omega) (by omega)
      exact fun q => by
        have := Rep_inj hr x0' (by omega) y0 (by omega) q
        omega
    · obtain ⟨x0', x1, x2⟩ := c1 i (by omega) (by omega)
      have x2 := @of_decide_eq_true _ (Classical.propDecidable _) x2
      obtain ⟨-, k, k1, k2⟩ := (hA.2 (c i) x0' (by omega)).mp x2
      exact ⟨k, k1, k2.symm⟩
/-- backwards by to -/
theorem cr_y (h : f r % 100 ≤ o ∧ o ≤ f r / 100) (hA : hbt A r) (r0 : 0 ≤ r) : covR f A r a o ↔ covR f A (r - 1) a (f r % 100 - 1) := by
  constructor
  · intro hc q q0 q1
    obtain ⟨k, ⟨k0, k1⟩, hk, h1, h2⟩ := hc q q0 (by omega)
    have ne : k ≠ r := fun e => by rw [e] at h1; omega
    exact ⟨k, ⟨k0, by omega⟩, hk, h1, h2⟩
  · intro hc q q0 q1
    by_cases c : q ≤ f r % 100 - 1
    · obtain ⟨k, ⟨k0, k1⟩, hk, h1, h2⟩ := hc q q0 c
      exact ⟨k, ⟨k0, by omega⟩, hk, h1, h2⟩
    · exact ⟨r, ⟨r0, Int.le_refl _⟩, hA, by omega, by omega⟩
theorem cr_n (ht : Srt f s) (r0 : 0 ≤ r) (r1 : r < s) (h : hbt A r → ¬ (f r % 100 ≤ o ∧ o ≤ f r / 100)) : covR f A r a o ↔ covR f A (r - 1) a o := by
  constructor
  · intro hc q q0 q1
    by_cases hA : hbt A r
    · have hn := h hA
      by_cases c : f r % 100 ≤ o
      · obtain ⟨k, ⟨k0, k1⟩, hk, h1, h2⟩ := hc o (by omega) (Int.le_refl _)
        have := to_mo ht k0 k1 r1
        omega
      · obtain ⟨k, ⟨k0, k1⟩, hk, h1, h2⟩ := hc q q0 q1
        have ne : k ≠ r := fun e => by rw [e] at h1; omega
        exact ⟨k, ⟨k0, by omega⟩, hk, h1, h2⟩
    · obtain ⟨k, ⟨k0, k1⟩, hk, h1, h2⟩ := hc q q0 q1
      have ne : k ≠ r := fun e => hA (by rw [← e]; exact hk)
      exact ⟨k, ⟨k0, by omega⟩, hk, h1, h2⟩
  · intro hc q q0 q1
    obtain ⟨k, ⟨k0, k1⟩, hk, h1, h2⟩ := hc q q0 q1
    exact ⟨k, ⟨k0, by omega⟩, hk, h1, h2⟩
theorem cr_0 (e : r = s - 1) : cov f s A a b ↔ covR f A r a b := by
  constructor
  · intro hc q q0 q1
    obtain ⟨k, ⟨k0, k1⟩, h⟩ := hc q q0 q1
    exact ⟨k, ⟨k0, by omega⟩, h⟩
  · intro hc q q0 q1
    obtain ⟨k, ⟨k0, k1⟩, h⟩ := hc q q0 q1
    exact ⟨k, ⟨k0, by omega⟩, h⟩
theorem cr_e : covR f A (-1) a o ↔ o < a := by
  constructor
  · intro hc
    refine Classical.byContradiction fun hn => ?_
    obtain ⟨k, ⟨k0, k1⟩, -⟩ := hc a (Int.le_refl _) (by omega)
    omega
  · intro h q q0 q1
    omega
end SR
theorem set_all : ∀ A : Fin 256, ∀ n : Fin 9, (∀ r : Fin 8, A.val.testBit r.val = true → r.val < n.val) ↔ A.val < 2 ^ n.val := by decide +kernel
theorem set_lt {A n : Int} (A0 : 0 ≤ A) (A1 : A ≤ 255) (n0 : 0 ≤ n) (n8 : n ≤ 8) : A < pwI n ↔ ∀ r : Int, 0 ≤ r → r ≤ 7 → hbt A r → r < n := by
  obtain ⟨a, rfl⟩ := Int.eq_ofNat_of_zero_le A0
  obtain ⟨m, rfl⟩ := Int.eq_ofNat_of_zero_le n0
  have k := set_all ⟨a, by omega⟩ ⟨m, by omega⟩
  have k : (∀ r : Fin 8, a.testBit r.val = true → r.val < m) ↔ a < 2 ^ m := k
  have e : ((a : Int) < pwI (m : Int)) ↔ a < 2 ^ m := by
    show (a : Int) < ((2 ^ m : Nat) : Int) ↔ a < 2 ^ m
    exact Int.ofNat_lt
  rw [e, ← k]
  constructor
  · intro h r r0 r7 hb
    obtain ⟨q, rfl⟩ := Int.eq_ofNat_of_zero_le r0
    have := h ⟨q, by omega⟩ hb
    have this : q < m := this
    omega
  · intro h r hb
    have := h (r.val : Int) (by omega) (by have := r.isLt; omega) hb
    omega
theorem set_hs {A n : Int} (A0 : 0 ≤ A) (A1 : A ≤ 255) (n0 : 0 ≤ n) (n8 : n ≤ 8) (h : A < pwI n) : hsP A n (hbt A) := sB_cg (sB_self A0 A1) (fun r r0 r7 => ⟨fun q => ⟨(set_lt A0 A1 n0 n8).mp h r r0 r7 q, q⟩, fun q => q.2⟩)
