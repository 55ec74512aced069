/-! ===== the state of the class, told by what it means ===== -/
/-- the books: the note of each code; the part: book, low, high; the hand: book, lost, reached, held -/
abbrev St : Type := (Int → Int → Int) × (Int × Int × Int) × (Int × Int × Int × Int × Int)
def stN (σ : St) (k : Int) (F : Int → Int) : St := (fun i => if i = k then F else σ.1 i, σ.2)
/-- one more refusal -/
def rf (σ : St) : St := (σ.1, σ.2.1, (σ.2.2.1, σ.2.2.2.1, σ.2.2.2.2.1, σ.2.2.2.2.2.1, σ.2.2.2.2.2.2 + 1))
def rRel (σ : St) (h : dm_H) : Prop := ∃ k9 : Int, h[0]? = some (8, [.ref 1, .ref 2, .ref 3, .ref 4, .ref 6, .ref 8, dI σ.2.2.2.2.2.2, dI k9])
def stM (σ : St) (k : Int) (F : Int → Int) : St := (fun i => if i = k then F else σ.1 i, σ.2.1, (σ.2.2.1, if σ.2.2.1 = k then 1 else σ.2.2.2.1, σ.2.2.2.2.1, σ.2.2.2.2.2.1, σ.2.2.2.2.2.2))
theorem CA_uq {b : Nat} {s m s' m' : Int} {u w u' w' : List Value} {h : dm_H} (a : CA b s m u w h) (c : CA b s' m' u' w' h) : s = s' ∧ m = m' ∧ u = u' ∧ w = w' := by
  obtain ⟨a1, a2, a3, -, -, a6, a7, a8, a9⟩ := a
  obtain ⟨c1, c2, c3, -, -, c6, c7, c8, c9⟩ := c
  have e1 := a1.symm.trans c1
  have e2 := a2.symm.trans c2
  have e3 := a3.symm.trans c3
  simp only [Option.some.injEq, Prod.mk.injEq, List.cons.injEq, Value.int.injEq, true_and, and_true] at e1 e2 e3
  exact ⟨(dI_eq ⟨by omega, by omega⟩ ⟨by omega, by omega⟩).mp e1.1, (dI_eq ⟨by omega, by omega⟩ ⟨by omega, by omega⟩).mp e1.2, e2, e3⟩
theorem CA_fr {b b' : Nat} {s m : Int} {u w : List Value} {h h' : dm_H} (f : FrB b h h') (d : b + 2 < b' ∨ b' + 2 < b) : CA b' s m u w h' ↔ CA b' s m u w h := by
  unfold CA
  rw [f.2 b' (by omega) (by omega) (by omega), f.2 (b' + 1) (by omega) (by omega) (by omega), f.2 (b' + 2) (by omega) (by omega) (by omega)]
def hRel (B : Int) (σ : St) (mv : Int → Int) (h : dm_H) : Prop := ∃ sn nx ho : Int, h[3]? = some (4, [dI σ.2.2.1, dI sn, dI nx, dI ho]) ∧ (-1 ≤ σ.2.2.1 ∧ σ.2.2.1 ≤ 2) ∧ (0 ≤ nx ∧ nx ≤ 8) ∧ (ho = 0 ∨ ho = 1) ∧ (0 ≤ sn ∧ sn ≤ B) ∧ (σ.2.2.2.1 = 0 ∨ σ.2.2.2.1 = 1) ∧ (-1 ≤ σ.2.2.2.2.1 ∧ σ.2.2.2.2.1 ≤ 9999) ∧ (-1 ≤ σ.2.2.2.2.2.1 ∧ σ.2.2.2.2.2.1 ≤ 9999) ∧
  (0 ≤ σ.2.2.1 → (σ.2.2.2.1 = 1 ∧ sn < mv σ.2.2.1) ∨ (σ.2.2.2.1 = 0 ∧ sn = mv σ.2.2.1 ∧ ∀ (b : Nat) (s : Int) (u w : List Value), (b : Int) = 17 + 3 * σ.2.2.1 → CA b s (mv σ.2.2.1) u w h → blw (cv u) s (σ.2.2.2.2.1 + 1) nx ∧ ((ho = 0 ∧ σ.2.2.2.2.2.1 = -1) ∨ (ho = 1 ∧ σ.2.2.2.2.2.1 = σ.2.2.2.2.1 ∧ 1 ≤ nx ∧ cv u (nx - 1) = σ.2.2.2.2.2.1))))
def bRel (B : Int) (σ : St) (mv : Int → Int) (h : dm_H) : Prop := ∀ (k : Int) (b : Nat), 0 ≤ k → k ≤ 2 → (b : Int) = 17 + 3 * k → (0 ≤ mv k ∧ mv k ≤ B) ∧ ∃ (s : Int) (u w : List Value), CA b s (mv k) u w h ∧ Rep (cv u) (cv w) s (σ.1 k) ∧ Srt (cv u) s
def pRel (σ : St) (h : dm_H) : Prop := h[2]? = some (6, [dI σ.2.1.1, dI σ.2.1.2.1, dI σ.2.1.2.2]) ∧ (-1 ≤ σ.2.1.1 ∧ σ.2.1.1 ≤ 2) ∧ (-1 ≤ σ.2.1.2.1 ∧ σ.2.1.2.1 ≤ 99) ∧ (-1 ≤ σ.2.1.2.2 ∧ σ.2.1.2.2 ≤ 99) ∧ (0 ≤ σ.2.1.2.1 → 0 ≤ σ.2.1.2.2 → σ.2.1.2.1 ≤ σ.2.1.2.2)
def CSt (B : Int) (σ : St) (h : dm_H) : Prop := ((∃ mv : Int → Int, bRel B σ mv h ∧ hRel B σ mv h) ∧ rRel σ h) ∧ pRel σ h
theorem CSt_up {B B' : Int} {σ : St} {h : dm_H} (hS : CSt B σ h) (hB : B ≤ B') : CSt B' σ h := by
  obtain ⟨⟨⟨mv, hb, sn, nx, ho, q1, q2, q3, q4, q5, q6⟩, hz⟩, hp⟩ := hS
  refine ⟨⟨⟨mv, fun k b k0 k1 kb => ?_, sn, nx, ho, q1, q2, q3, q4, ⟨q5.1, by omega⟩, q6⟩, hz⟩, hp⟩
  obtain ⟨x, y⟩ := hb k b k0 k1 kb
  exact ⟨⟨x.1, by omega⟩, y⟩
theorem CSt_bk {B : Int} {σ : St} {h : dm_H} (hS : CSt B σ h) {k : Int} {b : Nat} (k0 : 0 ≤ k) (k1 : k ≤ 2) (kb : (b : Int) = 17 + 3 * k) : ∃ (s m : Int) (u w : List Value), CA b s m u w h ∧ Rep (cv u) (cv w) s (σ.1 k) ∧ Srt (cv u) s ∧ 0 ≤ m ∧ m ≤ B := by
  obtain ⟨⟨⟨mv, hb, -⟩, -⟩, -⟩ := hS
  obtain ⟨x, s, u, w, y1, y2, y3⟩ := hb k b k0 k1 kb
  exact ⟨s, mv k, u, w, y1, y2, y3, x.1, x.2⟩
theorem CSt_same {B : Int} {σ : St} {h h' : dm_H} (hS : CSt B σ h) (hk : ∀ j : Nat, 0 ≤ j → j ≤ 3 ∨ 17 ≤ j → j ≤ 25 → h'[j]? = h[j]?) : CSt B σ h' := by
  obtain ⟨⟨⟨mv, hb, sn, nx, ho, q1, q2, q3, q4, q5, q6, q7, q8, q9⟩, ⟨k9, hz⟩⟩, hp⟩ := hS
  have hc : ∀ (k : Int) (b : Nat) (s m : Int) (u w : List Value), 0 ≤ k → k ≤ 2 → (b : Int) = 17 + 3 * k → (CA b s m u w h' ↔ CA b s m u w h) := fun k b s m u w k0 k1 kb => by
    unfold CA
    rw [hk b (by omega) (by omega) (by omega), hk (b + 1) (by omega) (by omega) (by omega), hk (b + 2) (by omega) (by omega) (by omega)]
  refine ⟨⟨⟨mv, fun k b k0 k1 kb => ?_, sn, nx, ho, (hk 3 (by omega) (by omega) (by omega)).trans q1, q2, q3, q4, q5, q6, q7, q8, fun g0 => ?_⟩, ⟨k9, (hk 0 (by omega) (by omega) (by omega)).trans hz⟩⟩, (hk 2 (by omega) (by omega) (by omega)).trans hp.1, hp.2⟩
  · obtain ⟨x, s, u, w, y1, y2, y3⟩ := hb k b k0 k1 kb
    exact ⟨x, s, u, w, (hc k b _ _ _ _ k0 k1 kb).mpr y1, y2, y3⟩
  · rcases q9 g0 with q | ⟨x, y, z⟩
    · exact Or.inl q
    · exact Or.inr ⟨x, y, fun b s u w kb hCA => z b s u w kb ((hc _ b _ _ _ _ g0 q2.2 kb).mp hCA)⟩
/-- a note is changed -/
theorem CSt_N {B : Int} {σ : St} {h h' : dm_H} (hS : CSt B σ h) {k : Int} {b : Nat} (k0 : 0 ≤ k) (k1 : k ≤ 2) (kb : (b : Int) = 17 + 3 * k) {s m : Int} {u w w' : List Value} {F : Int → Int} (hc : CA b s m u w h) (hF : FrB b h h') (hc' : CA b s m u w' h') (hR : Rep (cv u) (cv w') s F) : CSt B (stN σ k F) h' := by
  obtain ⟨⟨⟨mv, hb, sn, nx, ho, q1, q2, q3, q4, q5, q6, q7, q8, q9⟩, ⟨k9, hz⟩⟩, hp⟩ := hS
  have hother : ∀ (k' : Int) (b' : Nat), 0 ≤ k' → k' ≤ 2 → (b' : Int) = 17 + 3 * k' → k' ≠ k → b + 2 < b' ∨ b' + 2 < b := fun k' b' a0 a1 ab ne => by omega
  have hsame : ∀ (k' : Int) (b' : Nat), (b' : Int) = 17 + 3 * k' → k' = k → b' = b := fun k' b' ab e => by omega
  refine ⟨⟨⟨mv, fun k' b' a0 a1 ab => ?_, sn, nx, ho, (hF.2 3 (by omega) (by omega) (by omega)).trans q1, q2, q3, q4, q5, q6, q7, q8, fun g0 => ?_⟩, ⟨k9, (hF.2 0 (by omega) (by omega) (by omega)).trans hz⟩⟩, (hF.2 2 (by omega) (by omega) (by omega)).trans hp.1, hp.2⟩
  · obtain ⟨x, s9, u9, w9, y1, y2, y3⟩ := hb k' b' a0 a1 ab
    refine ⟨x, ?_⟩
    by_cases e : k' = k
    · have e2 := hsame k' b' ab e
      subst e2
      obtain ⟨e3, e4, e5, e6⟩ := CA_uq y1 hc
      subst e3; subst e5; subst e6
      refine ⟨_, _, w', by rw [e4]; exact hc', ?_, y3⟩
      show Rep _ _ _ (if k' = k then F else σ.1 k')
      rw [if_pos e]; exact hR
    · refine ⟨s9, u9, w9, (CA_fr hF (hother k' b' a0 a1 ab e)).mpr y1, ?_, y3⟩
      show Rep _ _ _ (if k' = k then F else σ.1 k')
      rw [if_neg e]; exact y2
  · rcases q9 g0 with q | ⟨x, y, z⟩
    · exact Or.inl q
    · refine Or.inr ⟨x, y, fun b' s9 u9 w9 ab hCA => ?_⟩
      by_cases e : σ.2.2.1 = k
      · have e2 := hsame σ.2.2.1 b' ab e
        subst e2
        obtain ⟨e3, e4, e5, e6⟩ := CA_uq hCA hc'
        subst e3; subst e5
        exact z b' s9 u9 w ab (by have := hc; rw [← e4] at this; exact this)
      · exact z b' s9 u9 w9 ab ((CA_fr hF (hother σ.2.2.1 b' g0 q2.2 ab e)).mp hCA)
/-- spans come or go -/
theorem CSt_M {B B' : Int} {σ : St} {h h' : dm_H} (hS : CSt B σ h) (hBB : B ≤ B') {k : Int} {b : Nat} (k0 : 0 ≤ k) (k1 : k ≤ 2) (kb : (b : Int) = 17 + 3 * k) {s m s' m' : Int} {u w u' w' : List Value} {F : Int → Int} (hc : CA b s m u w h) (hF : FrB b h h') (hc' : CA b s' m' u' w' h') (hm : m < m') (hmB : m' ≤ B') (hR : Rep (cv u') (cv w') s' F) (hT : Srt (cv u') s') : CSt B' (stM σ k F) h' := by
  obtain ⟨⟨⟨mv, hb, sn, nx, ho, q1, q2, q3, q4, q5, q6, q7, q8, q9⟩, ⟨k9, hz⟩⟩, hp⟩ := hS
  have hother : ∀ (k' : Int) (b' : Nat), 0 ≤ k' → k' ≤ 2 → (b' : Int) = 17 + 3 * k' → k' ≠ k → b + 2 < b' ∨ b' + 2 < b := fun k' b' a0 a1 ab ne => by omega
  have hsame : ∀ (k' : Int) (b' : Nat), (b' : Int) = 17 + 3 * k' → k' = k → b' = b := fun k' b' ab e => by omega
  have hmv : mv k = m := by
    obtain ⟨-, s9, u9, w9, y1, -⟩ := hb k b k0 k1 kb
    exact (CA_uq y1 hc).2.1
  have hmp : 0 ≤ m := by
    obtain ⟨x, -⟩ := hb k b k0 k1 kb
    omega
  refine ⟨⟨⟨fun i => if i = k then m' else mv i, fun k' b' a0 a1 ab => ?_, sn, nx, ho, (hF.2 3 (by omega) (by omega) (by omega)).trans q1, q2, q3, q4, ⟨q5.1, by omega⟩, ?_, q7, q8, fun g0 => ?_⟩, ⟨k9, (hF.2 0 (by omega) (by omega) (by omega)).trans hz⟩⟩, (hF.2 2 (by omega) (by omega) (by omega)).trans hp.1, hp.2⟩
  · obtain ⟨x, s9, u9, w9, y1, y2, y3⟩ := hb k' b' a0 a1 ab
    by_cases e : k' = k
    · have e2 := hsame k' b' ab e
      subst e2
      show (0 ≤ (if k' = k then m' else mv k') ∧ (if k' = k then m' else mv k') ≤ B') ∧ ∃ (s : Int) (u w : List Value), CA b' s (if k' = k then m' else mv k') u w h' ∧ Rep (cv u) (cv w) s (if k' = k then F else σ.1 k') ∧ Srt (cv u) s
      rw [if_pos e, if_pos e]
      exact ⟨⟨by omega, hmB⟩, s', u', w', hc', hR, hT⟩
    · show (0 ≤ (if k' = k then m' else mv k') ∧ (if k' = k then m' else mv k') ≤ B') ∧ ∃ (s : Int) (u w : List Value), CA b' s (if k' = k then m' else mv k') u w h' ∧ Rep (cv u) (cv w) s (if k' = k then F else σ.1 k') ∧ Srt (cv u) s
      rw [if_neg e, if_neg e]
      exact ⟨⟨x.1, by omega⟩, s9, u9, w9, (CA_fr hF (hother k' b' a0 a1 ab e)).mpr y1, y2, y3⟩
  · show (if σ.2.2.1 = k then (1 : Int) else σ.2.2.2.1) = 0 ∨ (if σ.2.2.1 = k then (1 : Int) else σ.2.2.2.1) = 1
    by_cases e : σ.2.2.1 = k
    · rw [if_pos e]; exact Or.inr rfl
    · rw [if_neg e]; exact q6
  · show ((if σ.2.2.1 = k then (1 : Int) else σ.2.2.2.1) = 1 ∧ sn < (if σ.2.2.1 = k then m' else mv σ.2.2.1)) ∨ ((if σ.2.2.1 = k then (1 : Int) else σ.2.2.2.1) = 0 ∧ sn = (if σ.2.2.1 = k then m' else mv σ.2.2.1) ∧ ∀ (b : Nat) (s : Int) (u w : List Value), (b : Int) = 17 + 3 * σ.2.2.1 → CA b s (if σ.2.2.1 = k then m' else mv σ.2.2.1) u w h' → blw (cv u) s (σ.2.2.2.2.1 + 1) nx ∧ ((ho = 0 ∧ σ.2.2.2.2.2.1 = -1) ∨ (ho = 1 ∧ σ.2.2.2.2.2.1 = σ.2.2.2.2.1 ∧ 1 ≤ nx ∧ cv u (nx - 1) = σ.2.2.2.2.2.1)))
    by_cases e : σ.2.2.1 = k
    · rw [if_pos e, if_pos e]
      refine Or.inl ⟨rfl, ?_⟩
      have := q9 g0
      rw [e, hmv] at this
      rcases this with q | q <;> omega
    · rw [if_neg e, if_neg e]
      rcases q9 g0 with q | ⟨x, y, z⟩
      · exact Or.inl q
      · exact Or.inr ⟨x, y, fun b' s9 u9 w9 ab hCA => z b' s9 u9 w9 ab ((CA_fr hF (hother σ.2.2.1 b' g0 q2.2 ab e)).mp hCA)⟩
