/-! ===== what a book's two rows say: f the codes, g the notes, s of them; F the note of each code, -1 for none ===== -/
def Rep (f g : Int → Int) (s : Int) (F : Int → Int) : Prop :=
  (0 ≤ s ∧ ∀ j : Int, 0 ≤ j → j < s → (0 ≤ f j ∧ f j ≤ 9999) ∧ (0 ≤ g j ∧ g j ≤ 99) ∧ F (f j) = g j) ∧
  (∀ c : Int, F c ≠ -1 → ∃ j : Int, 0 ≤ j ∧ j < s ∧ f j = c) ∧
  (∀ i j : Int, 0 ≤ i → i < j → j < s → f i ≠ f j)
def Srt (f : Int → Int) (s : Int) : Prop := ∀ i j : Int, 0 ≤ i → i < j → j < s → f i < f j
def up (F : Int → Int) (c x : Int) : Int → Int := fun d => if d = c then x else F d
def insf (f : Int → Int) (r c : Int) : Int → Int := fun j => if j < r then f j else if j = r then c else f (j - 1)
def delf (f : Int → Int) (r : Int) : Int → Int := fun j => if j < r then f j else f (j + 1)
def stf (f : Int → Int) (r x : Int) : Int → Int := fun j => if j = r then x else f j
theorem up_s {F : Int → Int} {c x : Int} : up F c x c = x := if_pos rfl
theorem up_n {F : Int → Int} {c x d : Int} (h : d ≠ c) : up F c x d = F d := if_neg h
section REP
variable {f g f' g' F : Int → Int} {s s' : Int}
theorem Rep_s0 (h : Rep f g s F) : 0 ≤ s := h.1.1
theorem Rep_at (h : Rep f g s F) {j : Int} (h0 : 0 ≤ j) (h1 : j < s) : (0 ≤ f j ∧ f j ≤ 9999) ∧ (0 ≤ g j ∧ g j ≤ 99) ∧ F (f j) = g j := h.1.2 j h0 h1
theorem Rep_inj (h : Rep f g s F) {i j : Int} (hi : 0 ≤ i) (hi' : i < s) (hj : 0 ≤ j) (hj' : j < s) (e : f i = f j) : i = j := by
  rcases Int.lt_trichotomy i j with q | q | q
  · exact absurd e (h.2.2 i j hi q hj')
  · exact q
  · exact absurd e.symm (h.2.2 j i hj q hi')
theorem Rep_no (h : Rep f g s F) {c : Int} (hn : ∀ j : Int, 0 ≤ j → j < s → f j ≠ c) : F c = -1 := by
  by_cases e : F c = -1
  · exact e
  · obtain ⟨j, h0, h1, h2⟩ := h.2.1 c e
    exact absurd h2 (hn j h0 h1)
theorem Rep_yes (h : Rep f g s F) {c j : Int} (h0 : 0 ≤ j) (h1 : j < s) (e : f j = c) : F c = g j ∧ F c ≠ -1 ∧ 0 ≤ c ∧ c ≤ 9999 ∧ 0 ≤ g j ∧ g j ≤ 99 := by
  obtain ⟨⟨a1, a2⟩, ⟨a3, a4⟩, a5⟩ := Rep_at h h0 h1
  rw [e] at a1 a2 a5
  exact ⟨a5, by rw [a5]; omega, a1, a2, a3, a4⟩
theorem Rep_ge (h : Rep f g s F) (c : Int) : -1 ≤ F c ∧ F c ≤ 99 := by
  by_cases e : F c = -1
  · omega
  · obtain ⟨j, h0, h1, h2⟩ := h.2.1 c e
    obtain ⟨q1, q2, q3, q4, q5, q6⟩ := Rep_yes h h0 h1 h2
    omega
theorem Rep_cg (h : Rep f g s F) (hf : ∀ j : Int, 0 ≤ j → j < s → f' j = f j) (hg : ∀ j : Int, 0 ≤ j → j < s → g' j = g j) : Rep f' g' s F := by
  refine ⟨⟨h.1.1, fun j h0 h1 => ?_⟩, fun c hc => ?_, fun i j h0 h1 h2 => ?_⟩
  · rw [hf j h0 h1, hg j h0 h1]; exact Rep_at h h0 h1
  · obtain ⟨j, h0, h1, h2⟩ := h.2.1 c hc
    exact ⟨j, h0, h1, by rw [hf j h0 h1]; exact h2⟩
  · rw [hf i h0 (by omega), hf j (by omega) h2]; exact h.2.2 i j h0 h1 h2
theorem Srt_cg (h : Srt f s) (hf : ∀ j : Int, 0 ≤ j → j < s → f' j = f j) : Srt f' s := fun i j h0 h1 h2 => by
  rw [hf i h0 (by omega), hf j (by omega) h2]; exact h i j h0 h1 h2
theorem Rep_note (h : Rep f g s F) {r x : Int} (h0 : 0 ≤ r) (h1 : r < s) (x0 : 0 ≤ x) (x1 : x ≤ 99) : Rep f (stf g r x) s (up F (f r) x) := by
  refine ⟨⟨h.1.1, fun j j0 j1 => ?_⟩, fun c hc => ?_, h.2.2⟩
  · obtain ⟨a, b, e⟩ := Rep_at h j0 j1
    by_cases q : j = r
    · subst q
      exact ⟨a, by unfold stf; rw [if_pos rfl]; exact ⟨x0, x1⟩, by unfold stf up; rw [if_pos rfl, if_pos rfl]⟩
    · refine ⟨a, by unfold stf; rw [if_neg q]; exact b, ?_⟩
      unfold stf up
      rw [if_neg q, if_neg (fun e9 => q (Rep_inj h j0 j1 h0 h1 e9))]
      exact e
  · by_cases q : c = f r
    · exact ⟨r, h0, h1, q.symm⟩
    · rw [up_n q] at hc
      exact h.2.1 c hc
theorem Rep_ins (h : Rep f g s F) {r c x : Int} (h0 : 0 ≤ r) (h1 : r ≤ s) (hc : F c = -1) (c0 : 0 ≤ c) (c1 : c ≤ 9999) (x0 : 0 ≤ x) (x1 : x ≤ 99) : Rep (insf f r c) (insf g r x) (s + 1) (up F c x) := by
  have hne : ∀ j : Int, 0 ≤ j → j < s → f j ≠ c := fun j j0 j1 e => (Rep_yes h j0 j1 e).2.1 hc
  have hs := h.1.1
  refine ⟨⟨by omega, fun j j0 j1 => ?_⟩, fun d hd => ?_, fun i j i0 ij j1 => ?_⟩
  · unfold insf
    by_cases q : j < r
    · rw [if_pos q, if_pos q]
      obtain ⟨a, b, e⟩ := Rep_at h j0 (by omega)
      exact ⟨a, b, by rw [up_n (hne j j0 (by omega))]; exact e⟩
    · rw [if_neg q, if_neg q]
      by_cases q2 : j = r
      · rw [if_pos q2, if_pos q2]
        exact ⟨⟨c0, c1⟩, ⟨x0, x1⟩, up_s⟩
      · rw [if_neg q2, if_neg q2]
        obtain ⟨a, b, e⟩ := Rep_at h (j := j - 1) (by omega) (by omega)
        exact ⟨a, b, by rw [up_n (hne (j - 1) (by omega) (by omega))]; exact e⟩
  · by_cases q : d = c
    · exact ⟨r, h0, by omega, by unfold insf; rw [if_neg (by omega), if_pos rfl]; exact q.symm⟩
    · rw [up_n q] at hd
      obtain ⟨j, j0, j1, e⟩ := h.2.1 d hd
      by_cases q2 : j < r
      · exact ⟨j, j0, by omega, by unfold insf; rw [if_pos q2]; exact e⟩
      · exact ⟨j + 1, by omega, by omega, by unfold insf; rw [if_neg (by omega), if_neg (by omega), show j + 1 - 1 = j by omega]; exact e⟩
  · unfold insf
    by_cases q1 : j < r
    · rw [if_pos (by omega), if_pos q1]; exact h.2.2 i j i0 ij (by omega)
    · rw [if_neg q1]
      by_cases q2 : j = r
      · rw [if_pos q2, if_pos (by omega)]; exact hne i i0 (by omega)
      · rw [if_neg q2]
        by_cases q3 : i < r
        · rw [if_pos q3]; exact h.2.2 i (j - 1) i0 (by omega) (by omega)
        · rw [if_neg q3]
          by_cases q4 : i = r
          · rw [if_pos q4]; exact fun e => hne (j - 1) (by omega) (by omega) e.symm
          · rw [if_neg q4]; exact h.2.2 (i - 1) (j - 1) (by omega) (by omega) (by omega)
theorem Rep_del (h : Rep f g s F) {r : Int} (h0 : 0 ≤ r) (h1 : r < s) : Rep (delf f r) (delf g r) (s - 1) (up F (f r) (-1)) := by
  refine ⟨⟨by omega, fun j j0 j1 => ?_⟩, fun d hd => ?_, fun i j i0 ij j1 => ?_⟩
  · unfold delf
    by_cases q : j < r
    · rw [if_pos q, if_pos q]
      obtain ⟨a, b, e⟩ := Rep_at h j0 (by omega)
      exact ⟨a, b, by rw [up_n (h.2.2 j r j0 q h1)]; exact e⟩
    · rw [if_neg q, if_neg q]
      obtain ⟨a, b, e⟩ := Rep_at h (j := j + 1) (by omega) (by omega)
      exact ⟨a, b, by rw [up_n (fun e9 => h.2.2 r (j + 1) h0 (by omega) (by omega) e9.symm)]; exact e⟩
  · by_cases q : d = f r
    · rw [q, up_s] at hd; exact absurd rfl hd
    · rw [up_n q] at hd
      obtain ⟨j, j0, j1, e⟩ := h.2.1 d hd
      have hj : j ≠ r := fun e9 => q (by rw [← e, e9])
      by_cases q2 : j < r
      · exact ⟨j, j0, by omega, by unfold delf; rw [if_pos q2]; exact e⟩
      · exact ⟨j - 1, by omega, by omega, by unfold delf; rw [if_neg (by omega), show j - 1 + 1 = j by omega]; exact e⟩
  · unfold delf
    by_cases q1 : j < r
    · rw [if_pos (by omega), if_pos q1]; exact h.2.2 i j i0 ij (by omega)
    · rw [if_neg q1]
      by_cases q3 : i < r
      · rw [if_pos q3]; exact h.2.2 i (j + 1) i0 (by omega) (by omega)
      · rw [if_neg q3]; exact h.2.2 (i + 1) (j + 1) (by omega) (by omega) (by omega)
/-- where a code stands, or would stand -/
def blw (f : Int → Int) (s c x : Int) : Prop := 0 ≤ x ∧ x ≤ s ∧ (∀ j : Int, 0 ≤ j → j < x → f j < c) ∧ (x < s → c ≤ f x)
theorem blw_ge (hs : Srt f s) {c x : Int} (h : blw f s c x) : ∀ j : Int, x ≤ j → j < s → c ≤ f j := fun j h0 h1 => by
  obtain ⟨a, b, -, d⟩ := h
  have := d (by omega)
  by_cases e : x = j
  · rw [← e]; exact this
  · have := hs x j a (by omega) h1
    omega
theorem Srt_ins (hs : Srt f s) (hr : Rep f g s F) {r c : Int} (hb : blw f s c r) (hc : F c = -1) : Srt (insf f r c) (s + 1) := by
  have hge := blw_ge hs hb
  obtain ⟨b0, b1, b2, b3⟩ := hb
  have hne : ∀ j : Int, 0 ≤ j → j < s → f j ≠ c := fun j j0 j1 e => (Rep_yes hr j0 j1 e).2.1 hc
  intro i j i0 ij j1
  unfold insf
  by_cases q1 : j < r
  · rw [if_pos (by omega), if_pos q1]; exact hs i j i0 ij (by omega)
  · rw [if_neg q1]
    by_cases q2 : j = r
    · rw [if_pos q2, if_pos (by omega)]; exact b2 i i0 (by omega)
    · rw [if_neg q2]
      have g1 := hge (j - 1) (by omega) (by omega)
      have g2 := hne (j - 1) (by omega) (by omega)
      by_cases q3 : i < r
      · rw [if_pos q3]; have := b2 i i0 q3; omega
      · rw [if_neg q3]
        by_cases q4 : i = r
        · rw [if_pos q4]; omega
        · rw [if_neg q4]; exact hs (i - 1) (j - 1) (by omega) (by omega) (by omega)
theorem Srt_del (hs : Srt f s) {r : Int} (h0 : 0 ≤ r) (h1 : r < s) : Srt (delf f r) (s - 1) := by
  intro i j i0 ij j1
  unfold delf
  by_cases q1 : j < r
  · rw [if_pos (by omega), if_pos q1]; exact hs i j i0 ij (by omega)
  · rw [if_neg q1]
    by_cases q3 : i < r
    · rw [if_pos q3]; exact hs i (j + 1) i0 (by omega) (by omega)
    · rw [if_neg q3]; exact hs (i + 1) (j + 1) (by omega) (by omega) (by omega)
end REP
/-- as many on both sides -/
theorem inj_le : ∀ (m n : Nat) (a b : Nat → Int), (∀ i j : Nat, i < j → j < n → a i ≠ a j) → (∀ i : Nat, i < n → ∃ j : Nat, j < m ∧ b j = a i) → n ≤ m
  | m, 0, _, _, _, _ => Nat.zero_le m
  | 0, n + 1, a, b, _, h2 => by
    obtain ⟨j, hj, -⟩ := h2 n (Nat.lt_succ_self n)
    exact absurd hj (Nat.not_lt_zero j)
  | m + 1, n + 1, a, b, h1, h2 => by
    obtain ⟨j0, hj0, e0⟩ := h2 n (Nat.lt_succ_self n)
    refine Nat.succ_le_succ (inj_le m n a (fun j => if j < j0 then b j else b (j + 1)) (fun i j hij hj => h1 i j hij (by omega)) (fun i hi => ?_))
    obtain ⟨j, hj, e⟩ := h2 i (by omega)
    have hne : j ≠ j0 := fun q => h1 i n hi (Nat.lt_succ_self n) (by rw [← e, ← e0, q])
    by_cases q : j < j0
    · exact ⟨j, by omega, by show (if j < j0 then b j else b (j + 1)) = a i; rw [if_pos q]; exact e⟩
    · refine ⟨j - 1, by omega, ?_⟩
      show (if j - 1 < j0 then b (j - 1) else b (j - 1 + 1)) = a i
      rw [if_neg (by omega), show j - 1 + 1 = j by omega]; exact e
theorem Rep_le {f g f' g' F : Int → Int} {s s' : Int} (h : Rep f g s F) (h' : Rep f' g' s' F) : s ≤ s' := by
  have k := inj_le s'.toNat s.toNat (fun i => f i) (fun j => f' j) (fun i j hij hj => h.2.2 i j (by omega) (by omega) (by have := h.1.1; omega)) (fun i hi => by
    have hs := h.1.1
    obtain ⟨q1, q2, -⟩ := Rep_yes h (j := (i : Int)) (by omega) (by omega) rfl
    obtain ⟨j, j0, j1, e⟩ := h'.2.1 _ q2
    exact ⟨j.toNat, by omega, by show f' (j.toNat : Int) = f i; rw [Int.toNat_of_nonneg j0]; exact e⟩)
  have a := h.1.1
  have b := h'.1.1
  omega
theorem Rep_sz {f g f' g' F : Int → Int} {s s' : Int} (h : Rep f g s F) (h' : Rep f' g' s' F) : s = s' := Int.le_antisymm (Rep_le h h') (Rep_le h' h)
/-- how many of the first n are so -/
def cnt (f : Int → Int) (P : Int → Bool) : Nat → Int
  | 0 => 0
  | n + 1 => cnt f P n + (if P (f (n : Int)) then 1 else 0)
theorem cnt_b (f : Int → Int) (P : Int → Bool) : ∀ n : Nat, 0 ≤ cnt f P n ∧ cnt f P n ≤ (n : Int)
  | 0 => ⟨Int.le_refl _, Int.le_refl _⟩
  | n + 1 => by
    have := cnt_b f P n
    unfold cnt
    split <;> omega
/-- those that are so, picked out -/
theorem cnt_pick (f : Int → Int) (P : Int → Bool) : ∀ n : Nat, ∃ a : Int → Int, (∀ i : Int, 0 ≤ i → i < cnt f P n → 0 ≤ a i ∧ a i < n ∧ P (f (a i)) = true) ∧ (∀ i j : Int, 0 ≤ i → i < j → j < cnt f P n → a i < a j) ∧ (∀ k : Int, 0 ≤ k → k < n → P (f k) = true → ∃ i : Int, 0 ≤ i ∧ i < cnt f P n ∧ a i = k)
  | 0 => ⟨fun _ => 0, fun i h0 h1 => by have h1 : i < 0 := h1; omega, fun i j h0 h1 h2 => by have h2 : j < 0 := h2; omega, fun k h0 h1 => by omega⟩
  | n + 1 => by
    obtain ⟨a, h1, h2, h3⟩ := cnt_pick f P n
    have hb := cnt_b f P n
    by_cases q : P (f (n : Int)) = true
    · have e : cnt f P (n + 1) = cnt f P n + 1 := by show cnt f P n + (if P (f (n : Int)) then 1 else 0) = _; rw [if_pos q]
      refine ⟨fun i => if i < cnt f P n then a i else n, fun i i0 i1 => ?_, fun i j i0 ij j1 => ?_, fun k k0 k1 hk => ?_⟩
      · by_cases q2 : i < cnt f P n
        · obtain ⟨x, y, z⟩ := h1 i i0 q2
          simp only [if_pos q2]; exact ⟨x, by omega, z⟩
        · simp only [if_neg q2]; exact ⟨by omega, by omega, q⟩
      · rw [e] at j1
        by_cases q2 : j < cnt f P n
        · simp only [if_pos q2, if_pos (show i < cnt f P n by omega)]; exact h2 i j i0 ij q2
        · simp only [if_neg q2, if_pos (show i < cnt f P n by omega)]; exact (h1 i i0 (by omega)).2.1
      · by_cases q2 : k < (n : Int)
        · obtain ⟨i, i0, i1, ei⟩ := h3 k k0 q2 hk
          exact ⟨i, i0, by omega, by simp only [if_pos i1]; exact ei⟩
        · exact ⟨cnt f P n, hb.1, by omega, by simp only [if_neg (Int.lt_irrefl _)]; omega⟩
    · have e : cnt f P (n + 1) = cnt f P n := by show cnt f P n + (if P (f (n : Int)) then 1 else 0) = _; rw [if_neg q, Int.add_zero]
      rw [e]
      refine ⟨a, fun i i0 i1 => ?_, h2, fun k k0 k1 hk => ?_⟩
      · obtain ⟨x, y, z⟩ := h1 i i0 i1
        exact ⟨x, by omega, z⟩
      · have : k ≠ (n : Int) := fun e9 => q (by rw [← e9]; exact hk)
        exact h3 k k0 (by omega) hk
theorem cnt_le {f g f' g' F : Int → Int} {s s' : Int} (P : Int → Bool) (h : Rep f g s F) (h' : Rep f' g' s' F) : cnt f P s.toNat ≤ cnt f' P s'.toNat := by
  obtain ⟨a, a1, a2, a3⟩ := cnt_pick f P s.toNat
  obtain ⟨b, b1, b2, b3⟩ := cnt_pick f' P s'.toNat
  have c1 := cnt_b f P s.toNat
  have c2 := cnt_b f' P s'.toNat
  have hs := h.1.1
  have hs' := h'.1.1
  have k := inj_le (cnt f' P s'.toNat).toNat (cnt f P s.toNat).toNat (fun i => f (a i)) (fun j => f' (b j)) (fun i j hij hj => by
    have q := a2 i j (by omega) (by omega) (by omega)
    obtain ⟨x1, x2, -⟩ := a1 i (by omega) (by omega)
    obtain ⟨y1, y2, -⟩ := a1 j (by omega) (by omega)
    exact h.2.2 _ _ x1 q (by omega)) (fun i hi => by
    obtain ⟨x1, x2, x3⟩ := a1 i (by omega) (by omega)
    obtain ⟨q1, q2, -⟩ := Rep_yes h (j := a i) x1 (by omega) rfl
    obtain ⟨j, j0, j1, e⟩ := h'.2.1 _ q2
    obtain ⟨m, m0, m1, em⟩ := b3 j j0 (by omega) (by rw [e]; exact x3)
    exact ⟨m.toNat, by omega, by show f' (b (m.toNat : Int)) = f (a i); rw [Int.toNat_of_nonneg m0, em]; exact e⟩)
  omega
theorem cnt_eq {f g f' g' F : Int → Int} {s s' : Int} (P : Int → Bool) (h : Rep f g s F) (h' : Rep f' g' s' F) : cnt f P s.toNat = cnt f' P s'.toNat := Int.le_antisymm (cnt_le P h h') (cnt_le P h' h)
/-- the least, the greatest one that is so -/
def isL (F : Int → Int) (P : Int → Bool) (x : Int) : Prop := F x ≠ -1 ∧ P x = true ∧ ∀ c : Int, F c ≠ -1 → P c = true → x ≤ c
def isG (F : Int → Int) (P : Int → Bool) (x : Int) : Prop := F x ≠ -1 ∧ P x = true ∧ ∀ c : Int, F c ≠ -1 → P c = true → c ≤ x
noncomputable def lst (F : Int → Int) (P : Int → Bool) : Int := Classical.epsilon (fun x : Int => isL F P x ∨ ((∀ y, ¬ isL F P y) ∧ x = -1))
noncomputable def grt (F : Int → Int) (P : Int → Bool) : Int := Classical.epsilon (fun x : Int => isG F P x ∨ ((∀ y, ¬ isG F P y) ∧ x = -1))
theorem lst_eq {F : Int → Int} {P : Int → Bool} {x : Int} (h : isL F P x) : lst F P = x := by
  have k := Classical.epsilon_spec (p := fun x : Int => isL F P x ∨ ((∀ y, ¬ isL F P y) ∧ x = -1)) ⟨x, Or.inl h⟩
  rcases k with k | k
  · have a := k.2.2 x h.1 h.2.1
    have b := h.2.2 _ k.1 k.2.1
    exact Int.le_antisymm a b
  · exact absurd h (k.1 x)
theorem grt_eq {F : Int → Int} {P : Int → Bool} {x : Int} (h : isG F P x) : grt F P = x := by
  have k := Classical.epsilon_spec (p := fun x : Int => isG F P x ∨ ((∀ y, ¬ isG F P y) ∧ x = -1)) ⟨x, Or.inl h⟩
  rcases k with k | k
  · have a := k.2.2 x h.1 h.2.1
    have b := h.2.2 _ k.1 k.2.1
    exact Int.le_antisymm b a
  · exact absurd h (k.1 x)
theorem lst_no {F : Int → Int} {P : Int → Bool} (h : ∀ c, F c ≠ -1 → P c = false) : lst F P = -1 := by
  have hn : ∀ y, ¬ isL F P y := fun y q => by have := h y q.1; rw [q.2.1] at this; cases this
  have k := Classical.epsilon_spec (p := fun x : Int => isL F P x ∨ ((∀ y, ¬ isL F P y) ∧ x = -1)) ⟨-1, Or.inr ⟨hn, rfl⟩⟩
  rcases k with k | k
  · exact absurd k (hn _)
  · exact k.2
theorem grt_no {F : Int → Int} {P : Int → Bool} (h : ∀ c, F c ≠ -1 → P c = false) : grt F P = -1 := by
  have hn : ∀ y, ¬ isG F P y := fun y q => by have := h y q.1; rw [q.2.1] at this; cases this
  have k := Classical.epsilon_spec (p := fun x : Int => isG F P x ∨ ((∀ y, ¬ isG F P y) ∧ x = -1)) ⟨-1, Or.inr ⟨hn, rfl⟩⟩
  rcases k with k | k
  · exact absurd k (hn _)
  · exact k.2
/-- how many a book has -/
noncomputable def zF (F : Int → Int) : Int := Classical.epsilon (fun s : Int => ∃ f g : Int → Int, Rep f g s F)
theorem zF_eq {f g F : Int → Int} {s : Int} (h : Rep f g s F) : zF F = s := by
  obtain ⟨f', g', k⟩ := Classical.epsilon_spec (p := fun s : Int => ∃ f g : Int → Int, Rep f g s F) ⟨s, f, g, h⟩
  exact Rep_sz k h
/-- how many of a book's codes are so -/
noncomputable def nF (F : Int → Int) (P : Int → Bool) : Int := Classical.epsilon (fun n : Int => ∃ (f g : Int → Int) (s : Int), Rep f g s F ∧ n = cnt f P s.toNat)
theorem nF_eq {f g F : Int → Int} {s : Int} (P : Int → Bool) (h : Rep f g s F) : nF F P = cnt f P s.toNat := by
  obtain ⟨f', g', s', k, e⟩ := Classical.epsilon_spec (p := fun n : Int => ∃ (f g : Int → Int) (s : Int), Rep f g s F ∧ n = cnt f P s.toNat) ⟨_, f, g, s, h, rfl⟩
  exact e.trans (cnt_eq P k h)
