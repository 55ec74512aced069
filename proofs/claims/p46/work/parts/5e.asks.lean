/-! ===== what is true of spans in sequence ===== -/
section SP
variable {f g F : Int → Int} {s A r i j k p n : Int} {P : Int → Bool}
def okf (f : Int → Int) (s : Int) : Prop := ∀ j : Int, 0 ≤ j → j < s → f j % 100 ≤ f j / 100
theorem to_mo (ht : Srt f s) (i0 : 0 ≤ i) (ij : i ≤ j) (js : j < s) : f i / 100 ≤ f j / 100 := by
  by_cases e : i = j
  · rw [e]; exact Int.le_refl _
  · have := ht i j i0 (by omega) js; omega
theorem bb_mo (h0 : 0 ≤ i) : ∀ m : Nat, bb A i ≤ bb A (i + m)
  | 0 => by rw [show i + ((0 : Nat) : Int) = i by omega]; exact Int.le_refl _
  | m + 1 => by
    have ih := bb_mo h0 m
    rw [show i + ((m + 1 : Nat) : Int) = (i + m) + 1 by omega]
    rcases bb_s (S := A) (r := i + m) (by omega) with ⟨e, -⟩ | ⟨e, -⟩ <;> omega
theorem bb_ml (h0 : 0 ≤ i) (h : i ≤ j) : bb A i ≤ bb A j := by
  have := bb_mo (A := A) h0 (j - i).toNat
  rw [show i + ((j - i).toNat : Int) = j by omega] at this
  exact this
theorem bb_in (h0 : 0 ≤ i) (hA : hbt A i) (h : i < j) : bb A i + 1 ≤ bb A j := by
  have := bb_ml (A := A) (i := i + 1) (j := j) (by omega) (by omega)
  rcases bb_s (S := A) (r := i) h0 with ⟨e, -⟩ | ⟨-, e⟩
  · omega
  · exact absurd hA e
theorem bb_pv : ∀ m : Nat, 0 < bb A (m : Int) → ∃ k : Int, 0 ≤ k ∧ k < m ∧ hbt A k ∧ bb A k + 1 = bb A (m : Int)
  | 0, h => by
    have e : bb A ((0 : Nat) : Int) = 0 := rfl
    omega
  | m + 1, h => by
    rw [show ((m + 1 : Nat) : Int) = (m : Int) + 1 by omega] at h ⊢
    rcases bb_s (S := A) (r := (m : Int)) (by omega) with ⟨e, hA⟩ | ⟨e, -⟩
    · exact ⟨m, by omega, by omega, hA, e.symm⟩
    · rw [e] at h
      obtain ⟨k, k0, k1, k2, k3⟩ := bb_pv m h
      exact ⟨k, k0, by omega, k2, by rw [e]; exact k3⟩
/-- the first one that is so -/
theorem fst_ex : ∀ m : Nat, (∃ j : Int, 0 ≤ j ∧ j < m ∧ P (f j) = true) → ∃ j : Int, 0 ≤ j ∧ j < m ∧ P (f j) = true ∧ ∀ i : Int, 0 ≤ i → i < j → P (f i) = false
  | 0, ⟨j, j0, j1, _⟩ => by omega
  | m + 1, ⟨j, j0, j1, hj⟩ => by
    by_cases he : ∃ j : Int, 0 ≤ j ∧ j < m ∧ P (f j) = true
    · obtain ⟨k, k0, k1, k2, k3⟩ := fst_ex m he
      exact ⟨k, k0, by omega, k2, k3⟩
    · refine ⟨j, j0, j1, hj, fun i i0 i1 => ?_⟩
      rcases hb : P (f i) with _ | _
      · rfl
      · exact absurd ⟨i, i0, by omega, hb⟩ he
theorem lst_at (hr : Rep f g s F) (ht : Srt f s) (r0 : 0 ≤ r) (r1 : r < s) (hp : P (f r) = true) : ∃ j : Int, 0 ≤ j ∧ j ≤ r ∧ lst F P = f j ∧ P (f j) = true := by
  obtain ⟨j, j0, j1, j2, j3⟩ := fst_ex (f := f) (P := P) s.toNat ⟨r, r0, by omega, hp⟩
  have jr : j ≤ r := Classical.byContradiction fun h => by
    have := j3 r r0 (by omega)
    rw [hp] at this; cases this
  refine ⟨j, j0, jr, lst_eq ⟨(Rep_yes hr j0 (by omega) rfl).2.1, j2, fun c hc hpc => ?_⟩, j2⟩
  obtain ⟨i, i0, i1, rfl⟩ := Rep_ex hr hc
  by_cases q : i < j
  · have := j3 i i0 q
    rw [hpc] at this; cases this
  · by_cases q2 : i = j
    · rw [q2]; exact Int.le_refl _
    · have := ht j i j0 (by omega) i1; omega
/-- the chain is the earliest: a set that lies apart is not longer, and ends nowhere sooner -/
theorem ch_ea (hr : Rep f g s F) (ht : Srt f s) (hok : okf f s) (ha : apt f s A) : ∀ (m : Nat) (r : Int), 0 ≤ r → r < m → r < s → hbt A r → moP F (bb A r).toNat ∧ chn F (bb A r).toNat ≠ -1 ∧ chn F (bb A r).toNat / 100 ≤ f r / 100
  | 0, r, r0, rm, _, _ => by omega
  | m + 1, r, r0, rm, r1, hA => by
    have b0 := bb_nn A r
    by_cases hz : bb A r = 0
    · rw [hz]
      obtain ⟨j, j0, j1, j2, j3⟩ := lst_at hr ht (P := frP (-1)) r0 r1 (frP_t (by have := (Rep_at hr r0 r1).1; omega))
      refine ⟨fun q hq => absurd hq (Nat.not_lt_zero _), ?_⟩
      show lst F (frP (-1)) ≠ -1 ∧ lst F (frP (-1)) / 100 ≤ f r / 100
      rw [j2]
      have := (Rep_at hr j0 (by omega)).1
      exact ⟨by omega, to_mo ht j0 j1 r1⟩
    · obtain ⟨k, k0, k1, k2, k3⟩ := bb_pv (A := A) r.toNat (by rw [show (r.toNat : Int) = r by omega]; omega)
      rw [show (r.toNat : Int) = r by omega] at k1 k3
      obtain ⟨h1, h2, h3⟩ := ch_ea hr ht hok ha m k k0 (by omega) (by omega) k2
      have hn := ha r k r0 r1 k0 (by omega) hA k2 (by omega)
      have hm := to_mo ht k0 (Int.le_of_lt k1) r1
      have hk := hok k k0 (by omega)
      have hrr := hok r r0 r1
      have kb := bb_nn A k
      have e : (bb A r).toNat = (bb A k).toNat + 1 := by omega
      rw [e]
      have hmo : moP F ((bb A k).toNat + 1) := fun q hq => by
        by_cases c : q < (bb A k).toNat
        · exact h1 q c
        · rw [show q = (bb A k).toNat by omega]; exact h2
      refine ⟨hmo, ?_⟩
      rw [chn_e _ hmo]
      show lst F (frP (chn F (bb A k).toNat / 100)) ≠ -1 ∧ lst F (frP (chn F (bb A k).toNat / 100)) / 100 ≤ f r / 100
      obtain ⟨j, j0, j1, j2, j3⟩ := lst_at hr ht (P := frP (chn F (bb A k).toNat / 100)) r0 r1 (frP_t (by omega))
      rw [j2]
      have := (Rep_at hr j0 (by omega)).1
      exact ⟨by omega, to_mo ht j0 j1 r1⟩
theorem mo_le {m : Nat} {q : Nat} (h : chn F m = -1) (hq : moP F q) (hq2 : chn F q ≠ -1) : q < m := Classical.byContradiction fun hn => by
  have := chn_d h (q - m)
  rw [show m + (q - m) = q by omega] at this
  exact hq2 this
end SP
