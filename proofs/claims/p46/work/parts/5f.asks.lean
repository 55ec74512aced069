/-! ===== held, meeting, rooms ===== -/
section SQ
variable {f g F v : Int → Int} {s A r i j k p n m : Int} {P : Int → Bool}
theorem chn_at (hr : Rep f g s F) {q : Nat} (hm : moP F q) (hn : chn F q ≠ -1) : ∃ c : Int, (0 ≤ c ∧ c < s) ∧ chn F q = f c ∧ eN F q < f c % 100 := by
  rw [chn_e _ hm] at hn ⊢
  rcases lst_d (P := frP (eN F q)) hr with ⟨e, -⟩ | ⟨-, e1, e2⟩
  · exact absurd e hn
  · obtain ⟨c, c0, c1, ec⟩ := Rep_ex hr e1
    refine ⟨c, ⟨c0, c1⟩, ec.symm, ?_⟩
    rw [ec]
    exact of_decide_eq_true e2
/-- a set that holds all is not smaller than the chain is long -/
theorem he_ge (hr : Rep f g s F) (ht : Srt f s) (h : ∀ r : Int, 0 ≤ r → r < s → heQ f s A r) : ∀ q : Nat, moP F (q + 1) → ∃ k : Int, (0 ≤ k ∧ k < s) ∧ hbt A k ∧ f k / 100 ≤ chn F q / 100 ∧ (q : Int) ≤ bb A k
  | 0, hm => by
    obtain ⟨c, ⟨c0, c1⟩, ec, -⟩ := chn_at hr (q := 0) (fun j hj => absurd hj (Nat.not_lt_zero _)) (hm 0 (by omega))
    obtain ⟨k, k0, k1, k2, k3, k4⟩ := h c c0 c1
    exact ⟨k, ⟨k0, k1⟩, k2, by rw [ec]; exact k4, bb_nn A k⟩
  | q + 1, hm => by
    obtain ⟨k, ⟨k0, k1⟩, k2, k3, k4⟩ := he_ge hr ht h q (fun j hj => hm j (by omega))
    obtain ⟨c, ⟨c0, c1⟩, ec, el⟩ := chn_at hr (q := q + 1) (fun j hj => hm j (by omega)) (hm (q + 1) (by omega))
    obtain ⟨k', a0, a1, a2, a3, a4⟩ := h c c0 c1
    have el : chn F q / 100 < f c % 100 := el
    have hlt : k < k' := Classical.byContradiction fun hn => by
      have := to_mo ht a0 (show k' ≤ k by omega) k1
      omega
    have := bb_in (A := A) k0 k2 hlt
    exact ⟨k', ⟨a0, a1⟩, a2, by rw [ec]; exact a4, by omega⟩
theorem he_m (hr : Rep f g s F) (ht : Srt f s) (s8 : s ≤ 8) (h : ∀ r : Int, 0 ≤ r → r < s → heQ f s A r) (m0 : 0 ≤ m) (hm : moP F m.toNat) : m ≤ bb A 8 := by
  by_cases hz : m = 0
  · rw [hz]; exact bb_nn A 8
  · obtain ⟨k, ⟨k0, k1⟩, k2, -, k4⟩ := he_ge hr ht h (m.toNat - 1) (by rw [show m.toNat - 1 + 1 = m.toNat by omega]; exact hm)
    have := bb_in (A := A) (j := 8) k0 k2 (by omega)
    omega
/-- each span is held by the to of a chosen one -/
theorem ch_ho (hr : Rep f g s F) (ht : Srt f s) (hok : okf f s) (r0 : 0 ≤ r) (r1 : r < s) : ∀ (n q : Nat), (f r / 100 - chn F q / 100).toNat < n → moP F (q + 1) → chn F q / 100 ≤ f r / 100 → ∃ q2 : Nat, moP F (q2 + 1) ∧ f r % 100 ≤ chn F q2 / 100 ∧ chn F q2 / 100 ≤ f r / 100
  | 0, q, hn, _, _ => absurd hn (Nat.not_lt_zero _)
  | n + 1, q, hn, hm, hl => by
    by_cases c : f r % 100 ≤ chn F q / 100
    · exact ⟨q, hm, c, hl⟩
    · obtain ⟨j, j0, j1, j2, j3⟩ := lst_at hr ht (P := frP (chn F q / 100)) r0 r1 (frP_t (by omega))
      have e : chn F (q + 1) = f j := (chn_e (q + 1) hm).trans j2
      have j3 := of_decide_eq_true j3
      have hj := hok j j0 (by omega)
      have hm2 := to_mo ht j0 j1 r1
      have h9 := (Rep_at hr j0 (by omega)).1
      refine ch_ho hr ht hok r0 r1 n (q + 1) (by rw [e]; omega) (fun i hi => ?_) (by rw [e]; exact hm2)
      by_cases d : i < q + 1
      · exact hm i d
      · rw [show i = q + 1 by omega, e]; omega
theorem ch_hl (hr : Rep f g s F) (ht : Srt f s) (hok : okf f s) (r0 : 0 ≤ r) (r1 : r < s) : ∃ q : Nat, moP F (q + 1) ∧ f r % 100 ≤ chn F q / 100 ∧ chn F q / 100 ≤ f r / 100 := by
  obtain ⟨j, j0, j1, j2, j3⟩ := lst_at hr ht (P := frP (-1)) r0 r1 (frP_t (by have := (Rep_at hr r0 r1).1; omega))
  have e : chn F 0 = f j := j2
  have h9 := (Rep_at hr j0 (by omega)).1
  exact ch_ho hr ht hok r0 r1 _ 0 (Nat.lt_succ_self _) (fun i hi => by rw [show i = 0 by omega, e]; omega) (by rw [e]; exact to_mo ht j0 j1 r1)
/-- of those that are so one has the greatest from -/
theorem mxQ {Q : Int → Prop} : ∀ n : Nat, (∃ j : Int, 0 ≤ j ∧ j < n ∧ Q j) → ∃ j : Int, 0 ≤ j ∧ j < n ∧ Q j ∧ ∀ i : Int, 0 ≤ i → i < n → Q i → f i % 100 ≤ f j % 100
  | 0, ⟨j, j0, j1, _⟩ => by omega
  | n + 1, ⟨j, j0, j1, h⟩ => by
    by_cases hn : Q (n : Int)
    · by_cases he : ∃ j : Int, 0 ≤ j ∧ j < n ∧ Q j
      · obtain ⟨k, k0, k1, k2, k3⟩ := mxQ n he
        by_cases hc : f k % 100 ≤ f (n : Int) % 100
        · refine ⟨n, by omega, by omega, hn, fun i i0 i1 hi => ?_⟩
          by_cases e : i = n
          · rw [e]; exact Int.le_refl _
          · have := k3 i i0 (by omega) hi; omega
        · refine ⟨k, k0, by omega, k2, fun i i0 i1 hi => ?_⟩
          by_cases e : i = n
          · rw [e]; omega
          · exact k3 i i0 (by omega) hi
      · refine ⟨n, by omega, by omega, hn, fun i i0 i1 hi => ?_⟩
        by_cases e : i = n
        · rw [e]; exact Int.le_refl _
        · exact absurd ⟨i, i0, by omega, hi⟩ he
    · have hne : j ≠ n := fun e => hn (e ▸ h)
      obtain ⟨k, k0, k1, k2, k3⟩ := mxQ n ⟨j, j0, by omega, h⟩
      refine ⟨k, k0, by omega, k2, fun i i0 i1 hi => ?_⟩
      by_cases e : i = n
      · rw [e] at hi; exact absurd hi hn
      · exact k3 i i0 (by omega) hi
theorem cnt_cp : ∀ n : Nat, cnt (fun j => j) (fun j => P (f j)) n = cnt f P n
  | 0 => rfl
  | n + 1 => by
    show cnt (fun j => j) (fun j => P (f j)) n + (if P (f (n : Int)) then 1 else 0) = cnt f P n + (if P (f (n : Int)) then 1 else 0)
    rw [cnt_cp n]
/-- spans that meet each other share a place -/
theorem he_lly (s0 : 0 ≤ s) (s8 : s ≤ 8) (hok : okf f s) (hS : hsP A s (hbt A)) (hm : ∀ r k : Int, 0 ≤ r → r < s → 0 ≤ k → k < s → hbt A r → hbt A k → mt f k r) : bb A 8 = 0 ∨ ∃ p : Int, (∃ j : Int, 0 ≤ j ∧ j < s ∧ p = f j % 100) ∧ bb A 8 ≤ cnt f (hoP p) s.toNat := by
  have e := bb_cnt (f := fun j => j) (P := fun r => @decide (hbt A r) (Classical.propDecidable _)) hS s0 s8 (fun r => @decide_eq_true_iff _ (Classical.propDecidable _))
  by_cases he : ∃ j : Int, 0 ≤ j ∧ j < s.toNat ∧ hbt A j
  · obtain ⟨j, j0, j1, j2, j3⟩ := mxQ (f := f) s.toNat he
    refine Or.inr ⟨f j % 100, ⟨j, j0, by omega, rfl⟩, ?_⟩
    rw [e, ← cnt_cp (f := f) (P := hoP (f j % 100)) s.toNat]
    refine cnt_pm s.toNat (fun i i0 i1 hi => ?_)
    have hi := @of_decide_eq_true _ (Classical.propDecidable _) hi
    have h1 := hm j i j0 (by omega) i0 (by omega) j2 hi
    exact hoP_t ⟨j3 i i0 i1 hi, h1.2⟩
  · refine Or.inl ?_
    rw [e]
    exact cnt_no s.toNat (fun i i0 i1 => @decide_eq_false _ (Classical.propDecidable _) (fun hi => he ⟨i, i0, i1, hi⟩))
/-- rooms -/
theorem mt_sy (h : mt f k r) : mt f r k := ⟨h.2, h.1⟩
theorem rm_pr (h : RM f s v) (r0 : 0 ≤ r) (r1 : r < s) (k0 : 0 ≤ k) (k1 : k < s) (ne : r ≠ k) (e : v r = v k) : ¬ mt f k r := fun hm => by
  rcases Int.lt_trichotomy (f k % 100) (f r % 100) with c | c | c
  · exact (h r r0 r1).2.1 k k0 k1 (Or.inl c) e.symm hm
  · rcases Int.lt_or_gt_of_ne ne with d | d
    · exact (h k k0 k1).2.1 r r0 r1 (Or.inr ⟨c.symm, d⟩) e (mt_sy hm)
    · exact (h r r0 r1).2.1 k k0 k1 (Or.inr ⟨c, d⟩) e.symm hm
  · exact (h k k0 k1).2.1 r r0 r1 (Or.inl c) e (mt_sy hm)
theorem rm_le (s0 : 0 ≤ s) (hok : okf f s) (h : RM f s v) (hm : mxR v s m) : m = 0 ∨ ∃ j : Int, (0 ≤ j ∧ j < s) ∧ m ≤ cnt f (hoP (f j % 100)) s.toNat := by
  rcases hm.2 with e | ⟨r, ⟨r0, r1⟩, p0, p1⟩
  · exact Or.inl e
  · refine Or.inr ⟨r, ⟨r0, r1⟩, ?_⟩
    obtain ⟨a, a1, a2, a3⟩ := cnt_pick f (hoP (f r % 100)) s.toNat
    have hb := (cnt_b f (hoP (f r % 100)) s.toNat).1
    have hrr := hok r r0 r1
    have cov : ∀ q : Int, 0 ≤ q → q < m → ∃ k : Int, (0 ≤ k ∧ k < s) ∧ hoP (f r % 100) (f k) = true ∧ v k = q := fun q q0 q1 => by
      by_cases c : q = v r
      · exact ⟨r, ⟨r0, r1⟩, hoP_t ⟨Int.le_refl _, hrr⟩, c.symm⟩
      · obtain ⟨k, ⟨k0, k1⟩, kb, kq, km⟩ := (h r r0 r1).2.2 q q0 (by omega)
        refine ⟨k, ⟨k0, k1⟩, hoP_t ⟨?_, km.2⟩, kq⟩
        rcases kb with kb | kb <;> omega
    have := pig (cnt f (hoP (f r % 100)) s.toNat).toNat (fun i => v (a i)) m (fun q q0 q1 => by
      obtain ⟨k, ⟨k0, k1⟩, kh, kq⟩ := cov q q0 q1
      obtain ⟨i, i0, i1, ei⟩ := a3 k k0 (by omega) kh
      exact ⟨i, i0, by omega, by show v (a i) = q; rw [ei]; exact kq⟩)
    omega
theorem rm_ge (s0 : 0 ≤ s) (h : RM f s v) (hm : mxR v s m) (m0 : 0 ≤ m) : cnt f (hoP p) s.toNat ≤ m := by
  obtain ⟨a, a1, a2, a3⟩ := cnt_pick f (hoP p) s.toNat
  have hb := (cnt_b f (hoP p) s.toNat).1
  have := inj_le m.toNat (cnt f (hoP p) s.toNat).toNat (fun i => v (a i)) (fun j => j) (fun i j hij hj => ?_) (fun j hj => ?_)
  · omega
  · obtain ⟨x0, x1, x2⟩ := a1 i (by omega) (by omega)
    obtain ⟨y0, y1, y2⟩ := a1 j (by omega) (by omega)
    have hlt := a2 i j (by omega) (by omega) (by omega)
    have x2 := of_decide_eq_true x2
    have y2 := of_decide_eq_true y2
    show v (a i) ≠ v (a j)
    intro e
    exact rm_pr h x0 (by omega) y0 (by omega) (by omega) e ⟨by omega, by omega⟩
  · obtain ⟨x0, x1, -⟩ := a1 j (by omega) (by omega)
    have h1 := (h (a j) x0 (by omega)).1
    have h2 := hm.1 (a j) x0 (by omega)
    exact ⟨(v (a j)).toNat, by omega, by show ((v (a j)).toNat : Int) = v (a j); omega⟩
end SQ
