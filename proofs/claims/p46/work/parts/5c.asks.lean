/-! ===== rooms ===== -/
def bfr (f : Int → Int) (k r : Int) : Prop := f k % 100 < f r % 100 ∨ (f k % 100 = f r % 100 ∧ k < r)
def rmO (f : Int → Int) (s : Int) (v : Int → Int) (r : Int) : Prop := 0 ≤ v r ∧ (∀ k : Int, 0 ≤ k → k < s → bfr f k r → v k = v r → ¬ mt f k r) ∧ ∀ q : Int, 0 ≤ q → q < v r → ∃ k : Int, (0 ≤ k ∧ k < s) ∧ bfr f k r ∧ v k = q ∧ mt f k r
def RM (f : Int → Int) (s : Int) (v : Int → Int) : Prop := ∀ r : Int, 0 ≤ r → r < s → rmO f s v r
def HsI (f : Int → Int) (s : Int) (v : Int → Int) : Prop := ∀ r : Int, 0 ≤ r → r < s → v r = -1 ∨ (rmO f s v r ∧ ∀ k : Int, 0 ≤ k → k < s → bfr f k r → v k ≠ -1)
section RMS
variable {f f2 v w : Int → Int} {s r x n : Int} {V V2 : List Value}
theorem HsI_0 (h : ∀ j : Int, 0 ≤ j → j < s → v j = -1) : HsI f s v := fun r r0 r1 => Or.inl (h r r0 r1)
theorem HsI_s (h : HsI f s (cv V)) (r0 : 0 ≤ r) (r1 : r < s) (hv : cv V r = -1) (hb : ∀ k : Int, 0 ≤ k → k < s → (bfr f k r ↔ cv V k ≠ -1)) (hf : frV f (cv V) s r x) (hs : stt V V2 r x) : HsI f s (cv V2) := fun r' a0 a1 => by
  by_cases e : r' = r
  · subst e
    have k1 : ∀ k : Int, 0 ≤ k → k < s → bfr f k r' → cv V2 k = cv V k := fun k k0 k1 kb => stt_ne hs k0 (fun q => by rw [q] at kb; rcases kb with kb | kb <;> omega)
    have k2 := stt_at hs r0
    refine Or.inr ⟨⟨by rw [k2]; exact hf.1, fun k k0 kk kb => ?_, fun q q0 q1 => ?_⟩, fun k k0 kk kb => ?_⟩
    · rw [k1 k k0 kk kb, k2]; exact hf.2.1 k k0 kk
    · rw [k2] at q1
      obtain ⟨k, k0, kk, kq, km⟩ := hf.2.2 q q0 q1
      have kb := (hb k k0 kk).mpr (by omega)
      exact ⟨k, ⟨k0, kk⟩, kb, by rw [k1 k k0 kk kb]; exact kq, km⟩
    · rw [k1 k k0 kk kb]; exact (hb k k0 kk).mp kb
  · rcases h r' a0 a1 with q | ⟨⟨p0, p1, p2⟩, p3⟩
    · exact Or.inl ((stt_ne hs a0 e).trans q)
    · have k1 : ∀ k : Int, 0 ≤ k → k < s → bfr f k r' → cv V2 k = cv V k := fun k k0 kk kb => stt_ne hs k0 (fun q => p3 k k0 kk kb (by rw [q]; exact hv))
      have k2 := stt_ne hs a0 e
      refine Or.inr ⟨⟨by rw [k2]; exact p0, fun k k0 kk kb => ?_, fun q q0 q1 => ?_⟩, fun k k0 kk kb => ?_⟩
      · rw [k1 k k0 kk kb, k2]; exact p1 k k0 kk kb
      · rw [k2] at q1
        obtain ⟨k, ⟨k0, kk⟩, kb, kq, km⟩ := p2 q q0 q1
        exact ⟨k, ⟨k0, kk⟩, kb, by rw [k1 k k0 kk kb]; exact kq, km⟩
      · rw [k1 k k0 kk kb]; exact p3 k k0 kk kb
theorem HsI_e (h : HsI f s v) (ha : ∀ j : Int, 0 ≤ j → j < s → v j ≠ -1) : RM f s v := fun r r0 r1 => (h r r0 r1).elim (fun q => absurd q (ha r r0 r1)) (fun q => q.1)
theorem HsI_7 (h : HsI f s v) (s8 : s ≤ 8) (r0 : 0 ≤ r) (r1 : r < s) : -1 ≤ v r ∧ v r ≤ 7 := by
  rcases h r r0 r1 with q | ⟨⟨p0, p1, p2⟩, -⟩
  · omega
  · have := pig s.toNat v (v r + 1) (fun j j0 j1 => by
      by_cases e : j = v r
      · exact ⟨r, r0, by omega, e.symm⟩
      · obtain ⟨k, ⟨k0, kk⟩, -, kq, -⟩ := p2 j j0 (by omega)
        exact ⟨k, k0, by omega, kq⟩)
    omega
theorem RM_cg (h : RM f s v) (e : ∀ j : Int, 0 ≤ j → j < s → f j = f2 j) : RM f2 s v := fun r r0 r1 => by
  obtain ⟨p0, p1, p2⟩ := h r r0 r1
  have kb : ∀ k : Int, 0 ≤ k → k < s → (bfr f2 k r ↔ bfr f k r) := fun k k0 kk => by unfold bfr; rw [e k k0 kk, e r r0 r1]
  have km : ∀ k : Int, 0 ≤ k → k < s → (mt f2 k r ↔ mt f k r) := fun k k0 kk => by unfold mt; rw [e k k0 kk, e r r0 r1]
  refine ⟨p0, fun k k0 kk b q m => p1 k k0 kk ((kb k k0 kk).mp b) q ((km k k0 kk).mp m), fun q q0 q1 => ?_⟩
  obtain ⟨k, ⟨k0, kk⟩, a, b, c⟩ := p2 q q0 q1
  exact ⟨k, ⟨k0, kk⟩, (kb k k0 kk).mpr a, b, (km k k0 kk).mpr c⟩
theorem RM_uq (a : RM f s v) (b : RM f s w) (s8 : s ≤ 8) : ∀ (n : Nat) (r : Int), 0 ≤ r → r < s → 8 * (f r % 100) + r < n → v r = w r
  | 0, r, r0, r1, h => by omega
  | n + 1, r, r0, r1, h => by
    obtain ⟨a0, a1, a2⟩ := a r r0 r1
    obtain ⟨b0, b1, b2⟩ := b r r0 r1
    have ih : ∀ k : Int, 0 ≤ k → k < s → bfr f k r → v k = w k := fun k k0 kk kb => RM_uq a b s8 n k k0 kk (by rcases kb with kb | kb <;> omega)
    rcases Int.lt_trichotomy (v r) (w r) with q | q | q
    · obtain ⟨k, ⟨k0, kk⟩, kb, kq, km⟩ := b2 (v r) a0 q
      exact absurd km (a1 k k0 kk kb ((ih k k0 kk kb).trans kq))
    · exact q
    · obtain ⟨k, ⟨k0, kk⟩, kb, kq, km⟩ := a2 (w r) b0 q
      exact absurd km (b1 k k0 kk kb ((ih k k0 kk kb).symm.trans kq))
def mxR (v : Int → Int) (s m : Int) : Prop := (∀ r : Int, 0 ≤ r → r < s → v r < m) ∧ (m = 0 ∨ ∃ r : Int, (0 ≤ r ∧ r < s) ∧ 0 ≤ v r ∧ v r + 1 = m)
theorem mx_uq {m m2 : Int} (e : ∀ r : Int, 0 ≤ r → r < s → v r = w r) (a : mxR v s m) (b : mxR w s m2) : m = m2 := by
  rcases a.2 with a2 | ⟨r, ⟨r0, r1⟩, p, q⟩ <;> rcases b.2 with b2 | ⟨r', ⟨r0', r1'⟩, p', q'⟩
  · omega
  · have := a.1 r' r0' r1'; rw [e r' r0' r1'] at this; omega
  · have := b.1 r r0 r1; rw [← e r r0 r1] at this; omega
  · have h1 := a.1 r' r0' r1'; rw [e r' r0' r1'] at h1
    have h2 := b.1 r r0 r1; rw [← e r r0 r1] at h2
    omega
theorem mx_0 (h : ∀ j : Int, 0 ≤ j → j < s → v j = -1) : mxR v s 0 := ⟨fun r r0 r1 => by rw [h r r0 r1]; omega, Or.inl rfl⟩
theorem mx_s {m q : Int} (h : mxR (cv V) s m) (hv : cv V r = -1) (r0 : 0 ≤ r) (r1 : r < s) (x0 : 0 ≤ x) (hs : stt V V2 r x) (hq : m < x + 1 ∧ q = x + 1 ∨ x + 1 ≤ m ∧ q = m) : mxR (cv V2) s q := by
  refine ⟨fun j j0 j1 => ?_, ?_⟩
  · by_cases e : j = r
    · rw [e, stt_at hs r0]; omega
    · rw [stt_ne hs j0 e]; have := h.1 j j0 j1; omega
  · by_cases c : m < x + 1
    · exact Or.inr ⟨r, ⟨r0, r1⟩, by rw [stt_at hs r0]; exact x0, by rw [stt_at hs r0]; omega⟩
    · rcases h.2 with e | ⟨k, ⟨k0, k1⟩, p, e⟩
      · exact Or.inl (by omega)
      · have ne : k ≠ r := fun z => by rw [z, hv] at p; omega
        exact Or.inr ⟨k, ⟨k0, k1⟩, by rw [stt_ne hs k0 ne]; exact p, by rw [stt_ne hs k0 ne]; omega⟩
def hcP (v : Int → Int) (s : Int) (t : Int) : Prop := t = cnt v (fun x => decide (x ≠ -1)) s.toNat
theorem hc_0 (h : ∀ j : Int, 0 ≤ j → j < s → v j = -1) (s0 : 0 ≤ s) : hcP v s 0 := (cnt_no s.toNat (fun j j0 j1 => decide_eq_false (fun q => q (h j j0 (by omega))))).symm
theorem hc_n {P : Int → Bool} : ∀ n : Nat, 0 ≤ r → r < n → cv V r = -1 → P (-1) = false → P x = true → stt V V2 r x → cnt (cv V2) P n = cnt (cv V) P n + 1
  | 0, h0, h1, _, _, _, _ => by omega
  | n + 1, h0, h1, hv, p0, p1, hs => by
    show cnt (cv V2) P n + (if P (cv V2 (n : Int)) then 1 else 0) = cnt (cv V) P n + (if P (cv V (n : Int)) then 1 else 0) + 1
    by_cases e : r = n
    · have k : cnt (cv V2) P n = cnt (cv V) P n := by
        have : ∀ m : Nat, (m : Int) ≤ r → cnt (cv V2) P m = cnt (cv V) P m := fun m => by
          induction m with
          | zero => intro _; rfl
          | succ m ih =>
            intro hm
            show cnt (cv V2) P m + (if P (cv V2 (m : Int)) then 1 else 0) = cnt (cv V) P m + (if P (cv V (m : Int)) then 1 else 0)
            rw [ih (by omega), stt_ne hs (by omega) (by omega)]
        exact this n (by omega)
      rw [k, ← e, stt_at hs h0, hv, p0, p1]
      simp
    · rw [hc_n n h0 (by omega) hv p0 p1 hs, stt_ne hs (by omega) (fun q => e q.symm)]
      omega
theorem hc_s {t : Int} (h : hcP (cv V) s t) (r0 : 0 ≤ r) (r1 : r < s) (hv : cv V r = -1) (x0 : 0 ≤ x) (hs : stt V V2 r x) : hcP (cv V2) s (t + 1) := by
  unfold hcP at *
  rw [hc_n s.toNat r0 (by omega) hv (by decide) (decide_eq_true (by omega)) hs, ← h]
theorem hc_e {t : Int} (h : hcP v s t) (s0 : 0 ≤ s) (e : s ≤ t) : ∀ j : Int, 0 ≤ j → j < s → v j ≠ -1 := fun j j0 j1 => by
  have hb := (cnt_b v (fun x => decide (x ≠ -1)) s.toNat).2
  have := (cnt_al (f := v) (P := fun x => decide (x ≠ -1)) (n := s.toNat)).mp (by unfold hcP at h; omega) j j0 (by omega)
  exact of_decide_eq_true this
theorem hc_a {t : Int} (h : hcP v s t) (s0 : 0 ≤ s) (ha : ∀ j : Int, 0 ≤ j → j < s → v j ≠ -1) : t = s := by
  have := (cnt_al (f := v) (P := fun x => decide (x ≠ -1)) (n := s.toNat)).mpr (fun j j0 j1 => decide_eq_true (ha j j0 (by omega)))
  unfold hcP at h
  omega
/-- the first of the least from among those without a room -/
def eaI (f v : Int → Int) (b i : Int) : Prop := (b = -1 ∧ ∀ j : Int, 0 ≤ j → j < i → v j ≠ -1) ∨ ((0 ≤ b ∧ b < i) ∧ v b = -1 ∧ ∀ j : Int, 0 ≤ j → j < i → v j = -1 → j ≠ b → bfr f b j)
theorem ea_0 : eaI f v (-1) 0 := Or.inl ⟨rfl, fun j j0 j1 => by omega⟩
theorem ea_n {b i : Int} (h : eaI f v b i) (i0 : 0 ≤ i) (q : v i = -1 → b ≠ -1 ∧ bfr f b i) : eaI f v b (i + 1) := by
  rcases h with ⟨h0, h1⟩ | ⟨h0, h1, h2⟩
  · refine Or.inl ⟨h0, fun j j0 j1 => ?_⟩
    by_cases e : j = i
    · rw [e]; exact fun z => (q z).1 h0
    · exact h1 j j0 (by omega)
  · refine Or.inr ⟨⟨h0.1, by omega⟩, h1, fun j j0 j1 hj ne => ?_⟩
    by_cases e : j = i
    · rw [e] at hj ⊢; exact (q hj).2
    · exact h2 j j0 (by omega) hj ne
theorem ea_y {b i : Int} (h : eaI f v b i) (i0 : 0 ≤ i) (hv : v i = -1) (q : b ≠ -1 → f i % 100 < f b % 100) : eaI f v i (i + 1) := by
  refine Or.inr ⟨⟨i0, by omega⟩, hv, fun j j0 j1 hj ne => ?_⟩
  rcases h with ⟨h0, h1⟩ | ⟨h0, h1, h2⟩
  · exact absurd hj (h1 j j0 (by omega))
  · have k := q (by omega)
    by_cases e : j = b
    · rw [e]; exact Or.inl k
    · rcases h2 j j0 (by omega) hj e with z | z
      · exact Or.inl (by omega)
      · exact Or.inl (by omega)
def eaP (f v : Int → Int) (s x : Int) : Prop := (x = -1 ∧ ∀ j : Int, 0 ≤ j → j < s → v j ≠ -1) ∨ ((0 ≤ x ∧ x < s) ∧ v x = -1 ∧ ∀ j : Int, 0 ≤ j → j < s → v j = -1 → j ≠ x → bfr f x j)
theorem ea_b (h : eaP f v s x) (hx : x ≠ -1) (hI : HsI f s v) : (0 ≤ x ∧ x < s) ∧ v x = -1 ∧ ∀ k : Int, 0 ≤ k → k < s → (bfr f k x ↔ v k ≠ -1) := by
  rcases h with ⟨h0, -⟩ | ⟨h0, h1, h2⟩
  · exact absurd h0 hx
  · refine ⟨h0, h1, fun k k0 kk => ⟨fun kb kv => ?_, fun kv => ?_⟩⟩
    · have ne : k ≠ x := fun e => by rw [e] at kb; rcases kb with kb | kb <;> omega
      rcases h2 k k0 kk kv ne with z | z <;> rcases kb with kb | kb <;> omega
    · refine Classical.byContradiction fun kb => ?_
      have ne : k ≠ x := fun e => kv (by rw [e]; exact h1)
      have xb : bfr f x k := by
        unfold bfr at *
        rcases Int.lt_trichotomy (f k % 100) (f x % 100) with c | c | c
        · exact absurd (Or.inl c) kb
        · rcases Int.lt_or_gt_of_ne ne with d | d
          · exact absurd (Or.inr ⟨c, d⟩) kb
          · exact Or.inr ⟨c.symm, d⟩
        · exact Or.inl c
      rcases hI k k0 kk with z | ⟨-, z⟩
      · exact kv z
      · exact z x h0.1 h0.2 xb h1
/-- the rooms in use about a rank -/
def usP (f v : Int → Int) (r S k : Int) : Prop := sB S (fun q => ∃ j : Int, (0 ≤ j ∧ j < k) ∧ v j = q ∧ mt f j r)
theorem us_0 : usP f v r 0 0 := sB_cg sB_0 (fun q _ _ => ⟨fun h => h.elim, fun ⟨j, hj, _⟩ => by omega⟩)
theorem us_n {S k : Int} (h : usP f v r S k) (z : v k = -1 ∨ ¬ mt f k r) : usP f v r S (k + 1) := sB_cg h (fun q q0 _ => ⟨fun ⟨j, hj, e⟩ => ⟨j, ⟨hj.1, by omega⟩, e⟩, fun ⟨j, hj, e, m⟩ => by
  by_cases c : j = k
  · subst c; rcases z with z | z
    · omega
    · exact absurd m z
  · exact ⟨j, ⟨hj.1, by omega⟩, e, m⟩⟩)
theorem us_y {S k w y x : Int} (h : usP f v r S k) (k0 : 0 ≤ k) (hv : v k = y) (y0 : 0 ≤ y) (y7 : y ≤ 7) (m : mt f k r) (ew : w = pwI y) (ex : x = orI S w) : usP f v r x (k + 1) := by
  subst ew; subst ex
  refine sB_cg (sB_or h (sB_pw y0 y7)) (fun q q0 _ => ⟨fun z => ?_, fun ⟨j, hj, e, mj⟩ => ?_⟩)
  · rcases z with ⟨j, hj, e⟩ | z
    · exact ⟨j, ⟨hj.1, by omega⟩, e⟩
    · exact ⟨k, ⟨k0, by omega⟩, by rw [hv, z], m⟩
  · by_cases c : j = k
    · exact Or.inr (by rw [← e, c, hv])
    · exact Or.inl ⟨j, ⟨hj.1, by omega⟩, e, mj⟩
theorem us_e {S x k : Int} (h : usP f v r S k) (e : k = s) (s8 : s ≤ 8) (r0 : 0 ≤ r) (r1 : r < s) (hr : v r = -1) (x0 : 0 ≤ x) (x8 : x ≤ 8) (hb : ∀ q : Int, 0 ≤ q → q < x → hbt S q) (hx : x ≤ 7 → ¬ hbt S x) : x ≤ 7 ∧ frV f v s r x := by
  subst e
  have k1 : ∀ q : Int, 0 ≤ q → q < x → hasR f v k r q := fun q q0 q1 => by
    obtain ⟨j, hj, ej, mj⟩ := (h.2 q q0 (by omega)).mp (hb q q0 q1)
    exact ⟨j, hj.1, hj.2, ej, mj⟩
  have x7 : x ≤ 7 := Classical.byContradiction fun hn => by
    have := pig k.toNat (fun j => if j = r then 8 else v j) 9 (fun j j0 j1 => by
      by_cases c : j = 8
      · exact ⟨r, r0, by omega, by show (if r = r then (8 : Int) else v r) = j; rw [if_pos rfl, c]⟩
      · obtain ⟨i, i0, i1, ei, -⟩ := k1 j j0 (by omega)
        exact ⟨i, i0, by omega, by show (if i = r then (8 : Int) else v i) = j; rw [if_neg (fun q => by rw [q, hr] at ei; omega)]; exact ei⟩)
    omega
  exact ⟨x7, x0, fun j j0 j1 ej mj => hx x7 ((h.2 x x0 x7).mpr ⟨j, ⟨j0, j1⟩, ej, mj⟩), k1⟩
end RMS
def rmX (F v : Int → Int) : Prop := RM (cR F) (zF F) v
noncomputable def anRooms (F : Int → Int) : Int := Classical.epsilon (fun m : Int => ∃ v : Int → Int, rmX F v ∧ mxR v (zF F) m)
noncomputable def anRoomOf (F : Int → Int) (c : Int) : Int := Classical.epsilon (fun x : Int => (F c = -1 ∧ x = -1) ∨ ∃ (v : Int → Int) (r : Int), rmX F v ∧ (0 ≤ r ∧ r < zF F) ∧ cR F r = c ∧ x = v r)
section RME
variable {F f g v : Int → Int} {s m r c : Int}
theorem rmX_uq {w : Int → Int} (hr : Rep f g s F) (s8 : s ≤ 8) (a : rmX F v) (b : rmX F w) (r0 : 0 ≤ r) (r1 : r < zF F) : v r = w r := RM_uq a b (by rw [zF_eq hr]; exact s8) (8 * (cR F r % 100) + r + 1).toNat r r0 r1 (by omega)
theorem rooms_e (hr : Rep f g s F) (s8 : s ≤ 8) (h : rmX F v) (hm : mxR v (zF F) m) : anRooms F = m := by
  obtain ⟨w, a, b⟩ := Classical.epsilon_spec (p := fun m : Int => ∃ v : Int → Int, rmX F v ∧ mxR v (zF F) m) ⟨m, v, h, hm⟩
  exact mx_uq (fun r r0 r1 => rmX_uq hr s8 a h r0 r1) b hm
theorem cR_F (hr : Rep f g s F) (ht : Srt f s) (r0 : 0 ≤ r) (r1 : r < zF F) : F (cR F r) ≠ -1 := by
  rw [zF_eq hr] at r1
  rw [cR_eq hr ht r0 r1]
  exact (Rep_yes hr r0 r1 rfl).2.1
theorem roomOf_n (hr : Rep f g s F) (ht : Srt f s) (h : F c = -1) : anRoomOf F c = -1 := by
  rcases Classical.epsilon_spec (p := fun x : Int => (F c = -1 ∧ x = -1) ∨ ∃ (v : Int → Int) (r : Int), rmX F v ∧ (0 ≤ r ∧ r < zF F) ∧ cR F r = c ∧ x = v r) ⟨-1, Or.inl ⟨h, rfl⟩⟩ with q | ⟨w, r, -, ⟨r0, r1⟩, e, -⟩
  · exact q.2
  · exact absurd h (by rw [← e]; exact cR_F hr ht r0 r1)
theorem roomOf_y (hr : Rep f g s F) (ht : Srt f s) (s8 : s ≤ 8) (h : rmX F v) (r0 : 0 ≤ r) (r1 : r < zF F) (e : cR F r = c) : anRoomOf F c = v r := by
  rcases Classical.epsilon_spec (p := fun x : Int => (F c = -1 ∧ x = -1) ∨ ∃ (v : Int → Int) (r : Int), rmX F v ∧ (0 ≤ r ∧ r < zF F) ∧ cR F r = c ∧ x = v r) ⟨v r, Or.inr ⟨v, r, h, ⟨r0, r1⟩, e, rfl⟩⟩ with q | ⟨w, k, hw, ⟨k0, k1⟩, e2, e3⟩
  · exact absurd q.1 (by rw [← e]; exact cR_F hr ht r0 r1)
  · have ek : k = r := by
      rw [zF_eq hr] at r1 k1
      rw [cR_eq hr ht r0 r1] at e
      rw [cR_eq hr ht k0 k1] at e2
      exact Rep_inj hr k0 k1 r0 r1 (e2.trans e.symm)
    subst ek
    exact e3.trans (rmX_uq hr s8 hw h k0 k1)
theorem rmX_of (hr : Rep f g s F) (ht : Srt f s) (h : RM f s v) : rmX F v := by
  unfold rmX
  rw [zF_eq hr]
  exact RM_cg h (fun j j0 j1 => (cR_eq hr ht j0 j1).symm)
end RME
noncomputable def spRooms (σ : St) (b : Int) : Int × Int × St := if b < 0 ∨ 2 < b then (1, 0, σ) else (0, anRooms (σ.1 b), σ)
noncomputable def spRoomOf (σ : St) (b f t : Int) : Int × Int × St := if b < 0 ∨ 2 < b then (1, 0, σ) else if f < 0 ∨ t < f ∨ 99 < t then (2, 0, σ) else (0, anRoomOf (σ.1 b) (100 * t + f), σ)
def HsA (b : Nat) (s n : Int) (v : List Value) (h : dm_H) : Prop := h[b]? = some (5, [.ref (b + 1), dI s, dI n]) ∧ h[b + 1]? = some (20, v) ∧ arr 8 anyI v ∧ (0 ≤ s ∧ s ≤ 8) ∧ -2147483648 ≤ n ∧ n < 2147483648
theorem I_hsA {kc km : Int} {h : dm_H} (hI : Inv kc km h) {b : Nat} (hb : isHs b) : ∃ (s n : Int) (v : List Value), HsA b s n v h := by
  obtain ⟨s, n, s0, s1, n0, n1, hc⟩ := I_hs hI hb
  obtain ⟨v, hv, ha⟩ := I_hsa hI hb
  exact ⟨s, n, v, hc, hv, ha, ⟨s0, s1⟩, n0, n1⟩
theorem hs_15 {b : Nat} (hb : isHs b) : 6 ≤ b ∧ b ≤ 15 := by rcases hb with rfl | rfl <;> decide
theorem CA_Kh {a b : Nat} {s m : Int} {u w : List Value} {h h' : dm_H} (f : FrK a h h') (ha : isHs a) (hb : isBk b) (hc : CA b s m u w h) : CA b s m u w h' := by
  have h1 := hs_15 ha
  have h2 := bk_17 hb
  unfold CA at *
  rw [f.2 b (by omega) (by omega), f.2 (b + 1) (by omega) (by omega), f.2 (b + 2) (by omega) (by omega)]
  exact hc
theorem FrC_Kh {a : Nat} {h h' : dm_H} (f : FrK a h h') (ha : isHs a) : FrC h h' := ⟨f.1, fun j x => by have := hs_15 ha; exact f.2 j (by omega) (by omega)⟩
theorem CSt_Kh {a : Nat} {B : Int} {σ : St} {h h' : dm_H} (hS : CSt B σ h) (f : FrK a h h') (ha : isHs a) : CSt B σ h' := CSt_same hS (fun j j0 j1 j2 => by have := hs_15 ha; exact f.2 j (by omega) (by omega))
def QHs (kc km : Int) (h : dm_H) (b : Nat) (Φ : Int → Int → List Value → Option Value → Prop) : dm_Rs := fun r h' => Inv kc km h' ∧ FrK b h h' ∧ match r with
  | .inl v => ∃ (s n : Int) (w : List Value), HsA b s n w h' ∧ Φ s n w v
  | .inr _ => False
section KHS
variable {E : dm_Ex} {P : dm_Po} {l : Launch} {z d MC MS pc ce sl : Nat} {ls : List (Option Value)} {st : List Value} {h : dm_H} {kc km : Int} {b : Nat}
theorem kHsN {Φ : Int → Int → List Value → Option Value → Prop} : ∀ (Y : String) (h1 : dm_H), QHs kc km h b Φ (.inr Y) h1 → dm_T9 E P l z d MC MS Y pc ls h1 ce sl := fun _ _ q => q.2.2.elim
theorem kHsV {Φ : Int → Int → List Value → Prop} (kk : ∀ (h1 : dm_H), Inv kc km h1 → FrK b h h1 → ∀ (s n : Int) (w : List Value), HsA b s n w h1 → Φ s n w → dm_W E P l z d MC MS pc ls st h1 ce sl) : ∀ (v : Option Value) (h1 : dm_H), QHs kc km h b (fun s n w v => Φ s n w ∧ v = none) (.inl v) h1 → dm_W E P l z d MC MS pc ls (v.toList ++ st) h1 ce sl := by
  rintro v h1 ⟨a, c, s, n, w, q1, q2, rfl⟩
  exact kk h1 a c s n w q1 q2
end KHS
set_option maxHeartbeats 4000000 in
set_option maxRecDepth 100000 in
theorem f_X3_earliestUnhoused (l : Launch) (hl : l.stackTraces = false) {kc km : Int} {h : dm_H} (hI : Inv kc km h) {b : Nat} (hb : isHs b) {b1 : Nat} (hb1 : isBk b1) {s m n : Int} {u w v : List Value} (hC : CA b1 s m u w h) (hH : HsA b s n v h) : dm_M l 39 1 0 0 [.ref b, .ref b1] h (QP h (RI (fun x => (-1 ≤ x ∧ x ≤ 7) ∧ eaP (cv u) (cv v) s x)) []) := by
  obtain ⟨c1, c2, c3, ⟨s0, s8⟩, c4, c5⟩ := id hH
  refine dm_M_of dk_39 hl rfl (Nat.le_of_ble_eq_true rfl) ?_
  show dm_W (fun _ _ _ => True) (dm_P (QP h (RI (fun x => (-1 ≤ x ∧ x ≤ 7) ∧ eaP (cv u) (cv v) s x)) []) 0 0) l 39 1 0 0 0 [some (.ref b), some (.ref b1), none, none, none] [] h 0 0
  refine di_const rfl ?_
  refine di_istore_n (ls2 := [some (.ref b), some (.ref b1), some (dI (-1)), none, none]) rfl rfl rfl ?_
  refine di_const rfl ?_
  refine di_istore_n (ls2 := [some (.ref b), some (.ref b1), some (dI (-1)), some (dI 0), none]) rfl rfl rfl ?_
  have L : ∀ (k : Nat) (e i : Int), (8 - i).toNat < k → -1 ≤ e → e ≤ 7 → e < i → 0 ≤ i → i ≤ s → eaI (cv u) (cv v) e i → dm_W (fun _ _ _ => True) (dm_P (QP h (RI (fun x => (-1 ≤ x ∧ x ≤ 7) ∧ eaP (cv u) (cv v) s x)) []) 0 0) l 39 1 0 0 4 [some (.ref b), some (.ref b1), some (dI e), some (dI i), none] [] h 0 0 := by
    intro k
    induction k with
    | zero => intro e i hm; exact absurd hm (Nat.not_lt_zero _)
    | succ k ih =>
      intro e i hm e0 e1 ei i0 i1 PE
      refine dr_iload_n rfl rfl ?_
      refine di_aload_n rfl rfl ?_
      refine dr_getf rfl c1 rfl ?_
      refine di_icmp_ge rfl rfl (by omega) (by omega) (by omega) (by omega) (fun c => ?_) (fun c => ?_)
      · refine dr_iload_n rfl rfl ?_
        have ee : i = s := by omega
        subst ee
        exact dr_iret (ty := .int) rfl rfl rfl (by decide) (by decide) ⟨rfl, e, ⟨⟨by omega, by omega⟩, PE⟩, by omega, by omega, rfl⟩
      have tail : ∀ t : Int, 0 ≤ t → t ≤ 1 → (t = 1 → e = -1 ∨ cv u i % 100 < cv u e % 100) → (t = 0 → e ≠ -1 ∧ ¬ cv u i % 100 < cv u e % 100) → dm_W (fun _ _ _ => True) (dm_P (QP h (RI (fun x => (-1 ≤ x ∧ x ≤ 7) ∧ eaP (cv u) (cv v) s x)) []) 0 0) l 39 1 0 0 35 [some (.ref b), some (.ref b1), some (dI e), some (dI i), none] [dI t] h 0 0 := by
        intro t t0 t1 ht1 ht0
        refine di_istore (ls2 := [some (.ref b), some (.ref b1), some (dI e), some (dI i), some (dI t)]) rfl rfl rfl ?_
        refine di_aload_n rfl rfl ?_
        refine dr_getf rfl c1 rfl ?_
        refine dr_iload_n rfl rfl ?_
        refine di_iald rfl c2 c3 (by omega) (by omega) (fun x xf xa xb xv => ?_)
        have xw : cv v i = x := cv_eq xv xa xb
        refine di_const rfl ?_
        refine di_icmp_ne rfl rfl (by omega) (by omega) (by omega) (by omega) (fun c2 => ?_) (fun c2 => ?_)
        · refine di_iinc (ls2 := [some (.ref b), some (.ref b1), some (dI e), some (dI (i + 1)), some (dI t)]) rfl rfl rfl rfl ?_
          refine dr_goto rfl rfl ?_
          refine dm_wk (ls2 := [some (.ref b), some (.ref b1), some (dI e), some (dI (i + 1)), none]) ⟨Or.inr rfl, Or.inr rfl, Or.inr rfl, Or.inr rfl, Or.inl rfl, trivial⟩ ?_
          exact ih e (i + 1) (by omega) e0 e1 (by omega) (by omega) (by omega) (ea_n PE i0 (fun q => absurd (xw.symm.trans q) c2))
        refine dr_iload rfl rfl ?_
        refine di_if_eq rfl rfl (by omega) (by omega) (fun c3 => ?_) (fun c3 => ?_)
        · refine di_iinc (ls2 := [some (.ref b), some (.ref b1), some (dI e), some (dI (i + 1)), some (dI t)]) rfl rfl rfl rfl ?_
          refine dr_goto rfl rfl ?_
          refine dm_wk (ls2 := [some (.ref b), some (.ref b1), some (dI e), some (dI (i + 1)), none]) ⟨Or.inr rfl, Or.inr rfl, Or.inr rfl, Or.inr rfl, Or.inl rfl, trivial⟩ ?_
          exact ih e (i + 1) (by omega) e0 e1 (by omega) (by omega) (by omega) (ea_n PE i0 (fun _ => ⟨(ht0 c3).1, by have := (ht0 c3).2; unfold bfr; omega⟩))
        · refine dr_iload_n rfl rfl ?_
          refine di_istore_n (ls2 := [some (.ref b), some (.ref b1), some (dI i), some (dI i), some (dI t)]) rfl rfl rfl ?_
          refine di_iinc (ls2 := [some (.ref b), some (.ref b1), some (dI i), some (dI (i + 1)), some (dI t)]) rfl rfl rfl rfl ?_
          refine dr_goto rfl rfl ?_
          refine dm_wk (ls2 := [some (.ref b), some (.ref b1), some (dI i), some (dI (i + 1)), none]) ⟨Or.inr rfl, Or.inr rfl, Or.inr rfl, Or.inr rfl, Or.inl rfl, trivial⟩ ?_
          exact ih i (i + 1) (by omega) (by omega) (by omega) (by omega) (by omega) (by omega) (ea_y PE i0 (by omega) (fun q => (ht1 (by omega)).resolve_left q))
      refine dr_iload_n rfl rfl ?_
      refine di_const rfl ?_
      refine di_icmp_eq rfl rfl (by omega) (by omega) (by omega) (by omega) (fun c2 => ?_) (fun c2 => ?_)
      · refine di_const rfl ?_
        refine dr_goto rfl rfl ?_
        exact tail 1 (by decide) (by decide) (fun _ => Or.inl c2) (fun q => absurd q (by decide))
      refine di_aload_n rfl rfl ?_
      refine dr_iload_n rfl rfl ?_
      refine dr_virt rfl rfl rfl rfl hC.1 (f_X0_fromAt l hl hI hb1 hC (a1 := i) (by omega) (by omega)) (by decide) (by decide) (by decide) (Nat.le_of_ble_eq_true rfl) kNP (kIP (fun x xf xa xb => ?_))
      obtain ⟨xc, xd, xk, xk2, xk3⟩ := xf
      have xe := xk i0 (by omega)
      refine di_aload_n rfl rfl ?_
      refine dr_iload_n rfl rfl ?_
      refine dr_virt rfl rfl rfl rfl hC.1 (f_X0_fromAt l hl hI hb1 hC (a1 := e) (by omega) (by omega)) (by decide) (by decide) (by decide) (Nat.le_of_ble_eq_true rfl) kNP (kIP (fun y yf ya yb => ?_))
      obtain ⟨yc, yd, yk, yk2, yk3⟩ := yf
      have ye := yk (by omega) (by omega)
      refine di_icmp_ge rfl rfl (by omega) (by omega) (by omega) (by omega) (fun c3 => ?_) (fun c3 => ?_)
      · refine di_const rfl ?_
        exact tail 0 (by decide) (by decide) (fun q => absurd q (by decide)) (fun _ => ⟨by omega, by omega⟩)
      · refine di_const rfl ?_
        refine dr_goto rfl rfl ?_
        exact tail 1 (by decide) (by decide) (fun _ => Or.inr (by omega)) (fun q => absurd q (by decide))
  exact L _ (-1) 0 (Nat.lt_succ_self _) (by omega) (by omega) (by omega) (by omega) (by omega) ea_0
set_option maxHeartbeats 4000000 in
set_option maxRecDepth 100000 in
theorem f_X3_firstFree (l : Launch) (hl : l.stackTraces = false) {kc km : Int} {h : dm_H} (hI : Inv kc km h) {b : Nat} (hb : isHs b) {b1 : Nat} (hb1 : isBk b1) {s m n : Int} {u w v : List Value} (hC : CA b1 s m u w h) (hH : HsA b s n v h) (h7 : ∀ j : Int, 0 ≤ j → j < s → -1 ≤ cv v j ∧ cv v j ≤ 7) {a2 : Int} (h2a : 0 ≤ a2) (h2b : a2 < s) (hv : cv v a2 = -1) : dm_M l 40 2 0 0 [.ref b, .ref b1, dI a2] h (QP h (RI (fun x => (0 ≤ x ∧ x ≤ 7) ∧ frV (cv u) (cv v) s a2 x)) []) := by
  obtain ⟨c1, c2, c3, ⟨s0, s8⟩, c4, c5⟩ := id hH
  refine dm_M_of dk_40 hl rfl (Nat.le_of_ble_eq_true rfl) ?_
  show dm_W (fun _ _ _ => True) (dm_P (QP h (RI (fun x => (0 ≤ x ∧ x ≤ 7) ∧ frV (cv u) (cv v) s a2 x)) []) 0 0) l 40 2 0 0 0 [some (.ref b), some (.ref b1), some (dI a2), none, none] [] h 0 0
  refine di_const rfl ?_
  refine di_istore_n (ls2 := [some (.ref b), some (.ref b1), some (dI a2), some (dI 0), none]) rfl rfl rfl ?_
  refine di_const rfl ?_
  refine di_istore (ls2 := [some (.ref b), some (.ref b1), some (dI a2), some (dI 0), some (dI 0)]) rfl rfl rfl ?_
  have L2 : ∀ (k : Nat) (S x : Int), (8 - x).toNat < k → 0 ≤ S → S ≤ 255 → 0 ≤ x → x ≤ 8 → usP (cv u) (cv v) a2 S s → (∀ q : Int, 0 ≤ q → q < x → hbt S q) → dm_W (fun _ _ _ => True) (dm_P (QP h (RI (fun x => (0 ≤ x ∧ x ≤ 7) ∧ frV (cv u) (cv v) s a2 x)) []) 0 0) l 40 2 0 0 56 [some (.ref b), some (.ref b1), some (dI a2), some (dI S), some (dI x)] [] h 0 0 := by
    intro k
    induction k with
    | zero => intro S x hm; exact absurd hm (Nat.not_lt_zero _)
    | succ k ih =>
      intro S x hm S0 S1 x0 x1 PU PB
      refine dr_iload rfl rfl ?_
      refine di_bipush rfl (by decide) ?_
      refine di_icmp_ge rfl rfl (by omega) (by omega) (by omega) (by omega) (fun c => ?_) (fun c => ?_)
      · exact absurd (us_e PU rfl s8 h2a h2b hv x0 x1 PB (fun q => absurd q (by omega))).1 (by omega)
      refine dr_iload_n rfl rfl ?_
      refine dr_iload rfl rfl ?_
      refine dr_statN rfl rfl rfl rfl (f_X6_isInSet l hl hI (a0 := S) (by omega) (by omega) (a1 := x) (by omega) (by omega)) kNP0 (by decide) (by decide) (by decide) (Nat.le_of_ble_eq_true rfl) (kIP (fun y yf ya yb => ?_))
      obtain ⟨yc, yd, yk, yk2⟩ := yf
      refine di_if_eq rfl rfl (by omega) (by omega) (fun e2 => ?_) (fun e2 => ?_)
      · have hq := us_e PU rfl s8 h2a h2b hv x0 x1 PB (fun _ => yk2 e2)
        refine dr_iload rfl rfl ?_
        exact dr_iret (ty := .int) rfl rfl rfl (by decide) (by decide) ⟨rfl, x, ⟨⟨by omega, by omega⟩, hq.2⟩, by omega, by omega, rfl⟩
      · refine di_iinc (ls2 := [some (.ref b), some (.ref b1), some (dI a2), some (dI S), some (dI (x + 1))]) rfl rfl rfl rfl ?_
        refine dr_goto rfl rfl ?_
        exact ih S (x + 1) (by omega) S0 S1 (by omega) (by omega) PU (fun q q0 q1 => by
          by_cases e : q = x
          · rw [e]; exact yk (by omega)
          · exact PB q q0 (by omega))
  have L : ∀ (k : Nat) (S i : Int), (8 - i).toNat < k → 0 ≤ S → S ≤ 255 → 0 ≤ i → i ≤ s → usP (cv u) (cv v) a2 S i → dm_W (fun _ _ _ => True) (dm_P (QP h (RI (fun x => (0 ≤ x ∧ x ≤ 7) ∧ frV (cv u) (cv v) s a2 x)) []) 0 0) l 40 2 0 0 5 [some (.ref b), some (.ref b1), some (dI a2), some (dI S), some (dI i)] [] h 0 0 := by
    intro k
    induction k with
    | zero => intro S i hm; exact absurd hm (Nat.not_lt_zero _)
    | succ k ih =>
      intro S i hm S0 S1 i0 i1 PU
      refine dr_iload rfl rfl ?_
      refine di_aload_n rfl rfl ?_
      refine dr_getf rfl c1 rfl ?_
      refine di_icmp_ge rfl rfl (by omega) (by omega) (by omega) (by omega) (fun c => ?_) (fun c => ?_)
      · have ee : i = s := by omega
        subst ee
        refine di_const rfl ?_
        refine di_istore (ls2 := [some (.ref b), some (.ref b1), some (dI a2), some (dI S), some (dI 0)]) rfl rfl rfl ?_
        exact L2 _ S 0 (Nat.lt_succ_self _) S0 S1 (by omega) (by omega) PU (fun q q0 q1 => by omega)
      refine di_aload_n rfl rfl ?_
      refine dr_getf rfl c1 rfl ?_
      refine dr_iload rfl rfl ?_
      refine di_iald rfl c2 c3 (by omega) (by omega) (fun y yf ya yb yv => ?_)
      have yw : cv v i = y := cv_eq yv ya yb
      have y7 := h7 i i0 (by omega)
      rw [yw] at y7
      refine di_const rfl ?_
      refine di_icmp_eq rfl rfl (by omega) (by omega) (by omega) (by omega) (fun e2 => ?_) (fun e2 => ?_)
      · refine di_iinc (ls2 := [some (.ref b), some (.ref b1), some (dI a2), some (dI S), some (dI (i + 1))]) rfl rfl rfl rfl ?_
        refine dr_goto rfl rfl ?_
        exact ih S (i + 1) (by omega) S0 S1 (by omega) (by omega) (us_n PU (Or.inl (yw.trans e2)))
      refine di_aload_n rfl rfl ?_
      refine dr_iload rfl rfl ?_
      refine dr_iload_n rfl rfl ?_
      refine dr_virt rfl rfl rfl rfl hC.1 (f_X0_doMeet l hl hI hb1 hC (a1 := i) (by omega) (by omega) (a2 := a2) (by omega) (by omega) (by omega) (by omega) (by omega) (by omega)) (by decide) (by decide) (by decide) (Nat.le_of_ble_eq_true rfl) kNP (kIP (fun t tf ta tb => ?_))
      obtain ⟨tc, td, tk, tk2⟩ := tf
      refine di_if_eq rfl rfl (by omega) (by omega) (fun e3 => ?_) (fun e3 => ?_)
      · refine di_iinc (ls2 := [some (.ref b), some (.ref b1), some (dI a2), some (dI S), some (dI (i + 1))]) rfl rfl rfl rfl ?_
        refine dr_goto rfl rfl ?_
        exact ih S (i + 1) (by omega) S0 S1 (by omega) (by omega) (us_n PU (Or.inr (by have := tk2 e3; unfold mt; omega)))
      refine dr_iload_n rfl rfl ?_
      refine di_const rfl ?_
      refine di_aload_n rfl rfl ?_
      refine dr_getf rfl c1 rfl ?_
      refine dr_iload rfl rfl ?_
      refine di_iald rfl c2 c3 (by omega) (by omega) (fun y2 y2f y2a y2b y2v => ?_)
      have y2w : cv v i = y2 := cv_eq y2v y2a y2b
      refine di_shl7 rfl (by omega) (by omega) (fun w9 w9a w9b w9e => ?_)
      refine di_or rfl (by omega) (by omega) (by omega) (by omega) (fun x9 x9a x9b x9e => ?_)
      refine di_istore_n (ls2 := [some (.ref b), some (.ref b1), some (dI a2), some (dI x9), some (dI i)]) rfl rfl rfl ?_
      refine di_iinc (ls2 := [some (.ref b), some (.ref b1), some (dI a2), some (dI x9), some (dI (i + 1))]) rfl rfl rfl rfl ?_
      refine dr_goto rfl rfl ?_
      exact ih x9 (i + 1) (by omega) x9a x9b (by omega) (by omega) (us_y PU i0 y2w (by omega) (by omega) (by have := tk (by omega); unfold mt; omega) w9e x9e)
  exact L _ 0 0 (Nat.lt_succ_self _) (by omega) (by omega) (by omega) (by omega) us_0
set_option maxHeartbeats 4000000 in
set_option maxRecDepth 100000 in
theorem f_X3_fill (l : Launch) (hl : l.stackTraces = false) {kc km : Int} {h : dm_H} (hI : Inv kc km h) {b : Nat} (hb : isHs b) {b1 : Nat} (hb1 : isBk b1) {s m : Int} {u w : List Value} (hC : CA b1 s m u w h) : dm_M l 38 3 0 0 [.ref b, .ref b1] h (QHs kc km h b (fun s2 n v r => (s2 = s ∧ RM (cv u) s (cv v) ∧ mxR (cv v) s n ∧ ∀ j : Int, 0 ≤ j → j < s → -1 ≤ cv v j ∧ cv v j ≤ 7) ∧ r = none)) := by
  refine dm_M_of dk_38 hl rfl (Nat.le_of_ble_eq_true rfl) ?_
  show dm_W (fun _ _ _ => True) (dm_P (QHs kc km h b (fun s2 n v r => (s2 = s ∧ RM (cv u) s (cv v) ∧ mxR (cv v) s n ∧ ∀ j : Int, 0 ≤ j → j < s → -1 ≤ cv v j ∧ cv v j ≤ 7) ∧ r = none)) 0 0) l 38 3 0 0 0 [some (.ref b), some (.ref b1), none, none] [] h 0 0
  obtain ⟨sz, n0, v0, c1, c2, c3, -, c4, c5⟩ := I_hsA hI hb
  have s0 := hC.2.2.2.2.2.1
  have s8 := hC.2.2.2.2.2.2.1
  have hb15 := hs_15 hb
  refine di_aload_n rfl rfl ?_
  refine di_aload_n rfl rfl ?_
  refine dr_virt rfl rfl rfl rfl hC.1 (f_X0_count l hl hI hb1 hC) (by decide) (by decide) (by decide) (Nat.le_of_ble_eq_true rfl) kNP (kIP (fun y yf ya yb => ?_))
  obtain ⟨yc, yd, ye⟩ := yf
  have ye2 := ye.symm
  subst ye2
  refine pfX rfl c1 (Nat.le_of_ble_eq_true rfl) rfl hI (lt_hs hb) (T37_hs hb (by omega) (by omega)) (fun h1 hI1 hk1 hc1 => ?_)
  refine di_aload_n rfl rfl ?_
  refine di_const rfl ?_
  refine pfX rfl hc1 (Nat.le_of_ble_eq_true rfl) rfl hI1 (lt_hs hb) (T37_hs hb (by omega) (by omega)) (fun h2 hI2 hk2 hc2 => ?_)
  have hK2 : FrK b h h2 := FrK_tr (FrK_of hk1 (Or.inl rfl)) (FrK_of hk2 (Or.inl rfl))
  have hv2 : h2[b + 1]? = some (20, v0) := (hk2.2 (b + 1) (by omega)).trans ((hk1.2 (b + 1) (by omega)).trans c2)
  refine di_const rfl ?_
  refine di_istore_n (ls2 := [some (.ref b), some (.ref b1), some (dI 0), none]) rfl rfl rfl ?_
  have L2 : ∀ (k : Nat) (t n : Int) (v : List Value) (h3 : dm_H), (8 - t).toNat < k → 0 ≤ t → t ≤ s → 0 ≤ n → n ≤ 8 → Inv kc km h3 → FrK b h h3 → HsA b s n v h3 → HsI (cv u) s (cv v) → hcP (cv v) s t → mxR (cv v) s n → dm_W (fun _ _ _ => True) (dm_P (QHs kc km h b (fun s2 n v r => (s2 = s ∧ RM (cv u) s (cv v) ∧ mxR (cv v) s n ∧ ∀ j : Int, 0 ≤ j → j < s → -1 ≤ cv v j ∧ cv v j ≤ 7) ∧ r = none)) 0 0) l 38 3 0 0 38 [some (.ref b), some (.ref b1), some (dI t), none] [] h3 0 0 := by
    intro k
    induction k with
    | zero => intro t n v h3 hm; exact absurd hm (Nat.not_lt_zero _)
    | succ k ih =>
      intro t n v h3 hm t0 t1 nn0 nn1 hI3 hK3 hH3 PI PT PM
      obtain ⟨d1, d2, d3, -, -, -⟩ := id hH3
      have hC3 := CA_Kh hK3 hb hb1 hC
      refine dr_iload_n rfl rfl ?_
      refine di_aload_n rfl rfl ?_
      refine dr_getf rfl d1 rfl ?_
      refine di_icmp_ge rfl rfl (by omega) (by omega) (by omega) (by omega) (fun c => ?_) (fun c => ?_)
      · exact dr_vret rfl rfl (by decide) (by decide) ⟨hI3, hK3, s, n, v, hH3, ⟨rfl, HsI_e PI (hc_e PT s0 c), PM, fun j j0 j1 => HsI_7 PI s8 j0 j1⟩, rfl⟩
      refine di_aload_n rfl rfl ?_
      refine di_aload_n rfl rfl ?_
      refine dr_virt rfl rfl rfl rfl d1 (f_X3_earliestUnhoused l hl hI3 hb hb1 hC3 hH3) (by decide) (by decide) (by decide) (Nat.le_of_ble_eq_true rfl) kNP (kIP (fun x xf xa xb => ?_))
      obtain ⟨⟨xc, xd⟩, xk⟩ := xf
      refine di_istore_n (ls2 := [some (.ref b), some (.ref b1), some (dI t), some (dI x)]) rfl rfl rfl ?_
      refine dr_iload_n rfl rfl ?_
      refine di_const rfl ?_
      refine di_icmp_eq rfl rfl (by omega) (by omega) (by omega) (by omega) (fun c2 => ?_) (fun c2 => ?_)
      · rcases xk with ⟨-, q⟩ | ⟨q, -⟩
        · have := hc_a PT s0 q; omega
        · omega
      obtain ⟨⟨x0, x1⟩, xv, xq⟩ := ea_b xk c2 PI
      refine di_aload_n rfl rfl ?_
      refine dr_getf rfl d1 rfl ?_
      refine dr_iload_n rfl rfl ?_
      refine di_aload_n rfl rfl ?_
      refine di_aload_n rfl rfl ?_
      refine dr_iload_n rfl rfl ?_
      refine dr_virt rfl rfl rfl rfl d1 (f_X3_firstFree l hl hI3 hb hb1 hC3 hH3 (fun j j0 j1 => HsI_7 PI s8 j0 j1) (a2 := x) x0 x1 xv) (by decide) (by decide) (by decide) (Nat.le_of_ble_eq_true rfl) kNP (kIP (fun r rf ra rb => ?_))
      obtain ⟨⟨rc, rd⟩, rk⟩ := rf
      refine paX rfl d2 d3 (by omega) (by omega) trivial (by omega) (by omega) hI3 (lt_hs1 hb) (fun us9 hu9 => T37_hsa hb hu9) (fun h4 v4 hI4 hk4 hu4 ha4 hs4 => ?_)
      have e1 := (hk4.2 b (by omega)).trans d1
      refine di_aload_n rfl rfl ?_
      refine di_aload_n rfl rfl ?_
      refine dr_getf rfl e1 rfl ?_
      refine di_aload_n rfl rfl ?_
      refine dr_getf rfl e1 rfl ?_
      refine dr_iload_n rfl rfl ?_
      refine di_iald rfl hu4 ha4 (by omega) (by omega) (fun y2 y2f y2a y2b y2v => ?_)
      have y2w : cv v4 x = y2 := cv_eq y2v y2a y2b
      have y2e : y2 = r := by rw [← y2w]; exact stt_at hs4 x0
      refine di_const rfl ?_
      refine di_iadd rfl ?_
      refine dr_maxE rfl (by omega) (by omega) (by omega) (by omega) (by decide) (by decide) (by decide) (Nat.le_of_ble_eq_true rfl) (fun q hq => ?_)
      refine pfX rfl e1 (Nat.le_of_ble_eq_true rfl) rfl hI4 (lt_hs hb) (T37_hs hb (by omega) (by omega)) (fun h5 hI5 hk5 hc5 => ?_)
      refine di_iinc (ls2 := [some (.ref b), some (.ref b1), some (dI (t + 1)), some (dI x)]) rfl rfl rfl rfl ?_
      refine dr_goto rfl rfl ?_
      refine dm_wk (ls2 := [some (.ref b), some (.ref b1), some (dI (t + 1)), none]) ⟨Or.inr rfl, Or.inr rfl, Or.inr rfl, Or.inl rfl, trivial⟩ ?_
      exact ih (t + 1) q v4 h5 (by omega) (by omega) (by omega) (by omega) (by omega) hI5 (FrK_tr hK3 (FrK_tr (FrK_of hk4 (Or.inr rfl)) (FrK_of hk5 (Or.inl rfl)))) ⟨hc5, (hk5.2 (b + 1) (by omega)).trans hu4, ha4, ⟨s0, s8⟩, by omega, by omega⟩ (HsI_s PI x0 x1 xv xq rk hs4) (hc_s PT x0 x1 xv rc hs4) (mx_s PM xv x0 x1 rc hs4 (by rw [← y2e]; exact hq))
  have L : ∀ (k : Nat) (i : Int) (v : List Value) (h3 : dm_H), (8 - i).toNat < k → 0 ≤ i → i ≤ s → Inv kc km h3 → FrK b h h3 → HsA b s 0 v h3 → (∀ j : Int, 0 ≤ j → j < i → cv v j = -1) → dm_W (fun _ _ _ => True) (dm_P (QHs kc km h b (fun s2 n v r => (s2 = s ∧ RM (cv u) s (cv v) ∧ mxR (cv v) s n ∧ ∀ j : Int, 0 ≤ j → j < s → -1 ≤ cv v j ∧ cv v j ≤ 7) ∧ r = none)) 0 0) l 38 3 0 0 15 [some (.ref b), some (.ref b1), some (dI i), none] [] h3 0 0 := by
    intro k
    induction k with
    | zero => intro i v h3 hm; exact absurd hm (Nat.not_lt_zero _)
    | succ k ih =>
      intro i v h3 hm i0 i1 hI3 hK3 hH3 PZ
      obtain ⟨d1, d2, d3, -, -, -⟩ := id hH3
      refine dr_iload_n rfl rfl ?_
      refine di_aload_n rfl rfl ?_
      refine dr_getf rfl d1 rfl ?_
      refine di_icmp_ge rfl rfl (by omega) (by omega) (by omega) (by omega) (fun c => ?_) (fun c => ?_)
      · have ee : i = s := by omega
        subst ee
        refine di_const rfl ?_
        refine di_istore_n (ls2 := [some (.ref b), some (.ref b1), some (dI 0), none]) rfl rfl rfl ?_
        exact L2 _ 0 0 v h3 (Nat.lt_succ_self _) (by omega) (by omega) (by omega) (by omega) hI3 hK3 hH3 (HsI_0 PZ) (hc_0 PZ s0) (mx_0 PZ)
      refine di_aload_n rfl rfl ?_
      refine dr_getf rfl d1 rfl ?_
      refine dr_iload_n rfl rfl ?_
      refine di_const rfl ?_
      refine paX rfl d2 d3 (by omega) (by omega) trivial (by omega) (by omega) hI3 (lt_hs1 hb) (fun us9 hu9 => T37_hsa hb hu9) (fun h4 v4 hI4 hk4 hu4 ha4 hs4 => ?_)
      refine di_iinc (ls2 := [some (.ref b), some (.ref b1), some (dI (i + 1)), none]) rfl rfl rfl rfl ?_
      refine dr_goto rfl rfl ?_
      exact ih (i + 1) v4 h4 (by omega) (by omega) (by omega) hI4 (FrK_tr hK3 (FrK_of hk4 (Or.inr rfl))) ⟨(hk4.2 b (by omega)).trans d1, hu4, ha4, ⟨s0, s8⟩, by omega, by omega⟩ (fun j j0 j1 => by
        by_cases e : j = i
        · rw [e]; exact stt_at hs4 i0
        · rw [stt_ne hs4 j0 e]; exact PZ j j0 (by omega))
  exact L _ 0 v0 h2 (Nat.lt_succ_self _) (by omega) (by omega) hI2 hK2 ⟨hc2, hv2, c3, ⟨s0, s8⟩, by omega, by omega⟩ (fun j j0 j1 => by omega)
set_option maxRecDepth 100000 in
theorem f_X3_roomAt (l : Launch) (hl : l.stackTraces = false) {kc km : Int} {h : dm_H} (hI : Inv kc km h) {b : Nat} (hb : isHs b) {s n : Int} {v : List Value} (hH : HsA b s n v h) {a1 : Int} (h1a : -2147483648 ≤ a1) (h1b : a1 ≤ 2147483647) : dm_M l 37 0 0 0 [.ref b, dI a1] h (QP h (RI (fun x => (0 ≤ a1 → a1 < s → x = cv v a1) ∧ (a1 < 0 ∨ s ≤ a1 → x = -1))) []) := by
  obtain ⟨c1, c2, c3, ⟨s0, s8⟩, c4, c5⟩ := hH
  refine dm_M_of dk_37 hl rfl (Nat.le_of_ble_eq_true rfl) ?_
  show dm_W (fun _ _ _ => True) (dm_P (QP h (RI (fun x => (0 ≤ a1 → a1 < s → x = cv v a1) ∧ (a1 < 0 ∨ s ≤ a1 → x = -1))) []) 0 0) l 37 0 0 0 0 [some (.ref b), some (dI a1)] [] h 0 0
  refine dr_iload_n rfl rfl ?_
  refine di_if_lt rfl rfl (by omega) (by omega) (fun c => ?_) (fun c => ?_)
  · refine di_const rfl ?_
    exact dr_iret (ty := .int) rfl rfl rfl (by decide) (by decide) ⟨rfl, -1, ⟨by omega, fun _ => rfl⟩, by omega, by omega, rfl⟩
  refine dr_iload_n rfl rfl ?_
  refine di_aload_n rfl rfl ?_
  refine dr_getf rfl c1 rfl ?_
  refine di_icmp_ge rfl rfl (by omega) (by omega) (by omega) (by omega) (fun c => ?_) (fun c => ?_)
  · refine di_const rfl ?_
    exact dr_iret (ty := .int) rfl rfl rfl (by decide) (by decide) ⟨rfl, -1, ⟨by omega, fun _ => rfl⟩, by omega, by omega, rfl⟩
  refine di_aload_n rfl rfl ?_
  refine dr_getf rfl c1 rfl ?_
  refine dr_iload_n rfl rfl ?_
  refine di_iald rfl c2 c3 (by omega) (by omega) (fun x xf xa xb xv => ?_)
  have xw : cv v a1 = x := cv_eq xv xa xb
  refine dr_goto rfl rfl ?_
  exact dr_iret (ty := .int) rfl rfl rfl (by decide) (by decide) ⟨rfl, x, ⟨fun _ _ => xw.symm, by omega⟩, by omega, by omega, rfl⟩
theorem hs_6 : isHs 6 := Or.inl rfl
theorem roomOf_c {F : Int → Int} {u w v : List Value} {s c x y : Int} (hr : Rep (cv u) (cv w) s F) (ht : Srt (cv u) s) (s8 : s ≤ 8) (hR : RM (cv u) s (cv v)) (hk : rkp F (cv u) s c y) (x1 : 0 ≤ y → y < s → x = cv v y) (x2 : y < 0 ∨ s ≤ y → x = -1) : anRoomOf F c = x := by
  rcases hk with ⟨e, hc⟩ | ⟨y0, y1, e⟩
  · rw [x2 (by omega)]; exact roomOf_n hr ht hc
  · rw [x1 y0 y1]
    exact roomOf_y hr ht s8 (rmX_of hr ht hR) y0 (by rw [zF_eq hr]; exact y1) ((cR_eq hr ht y0 y1).trans e)
theorem rooms_c {F : Int → Int} {u w v : List Value} {s n : Int} (hr : Rep (cv u) (cv w) s F) (ht : Srt (cv u) s) (s8 : s ≤ 8) (hR : RM (cv u) s (cv v)) (hm : mxR (cv v) s n) : anRooms F = n := rooms_e hr s8 (rmX_of hr ht hR) (by rw [zF_eq hr]; exact hm)
set_option maxHeartbeats 4000000 in
set_option maxRecDepth 100000 in
/-- Earlyends.rooms -/
theorem c_X6_rooms (l : Launch) (hl : l.stackTraces = false) {kc km : Int} {h : dm_H} (hI : Inv kc km h) {B : Int} {σ : St} (hS : CSt B σ h) (hB : B ≤ 80000) {a1 : Int} (h1a : -2147483648 ≤ a1) (h1b : a1 ≤ 2147483647) : dm_M l 95 6 8 48 [.ref 0, dI (a1)] h (QX kc km h B XB XB (spRooms σ a1)) := by
  refine dm_M_of dk_95 hl rfl (Nat.le_of_ble_eq_true rfl) ?_
  show dm_W (fun _ _ _ => True) (dm_P (QX kc km h B XB XB (spRooms σ a1)) 8 48) l 95 6 8 48 0 [some (.ref 0), some (dI (a1))] [] h 0 0
  refine di_aload_n rfl rfl ?_
  obtain ⟨r1, c2, c3, hc4⟩ := I_cls hI
  refine dr_getf rfl hc4 rfl ?_
  refine di_aload_n rfl rfl ?_
  refine dr_iload_n rfl rfl ?_
  refine dr_virt rfl rfl rfl rfl hc4 (f_X6_bookAt l hl hI (a1 := a1) (by omega) (by omega)) (by decide) (by decide) (by decide) (Nat.le_of_ble_eq_true rfl) (fun Y h9 q9 => by obtain ⟨rfl, rfl, hC⟩ := q9; exact dr_out rfl (by decide) (by decide) (QX_1 (a := 0) hI FrC_rf hS (by omega) (by unfold spRooms; (repeat' split) <;> first | rfl | (exfalso; omega) | (apply Prod.ext <;> first | rfl | (dsimp only; omega) | (apply Prod.ext <;> first | rfl | (dsimp only; omega)))))) (kPXR (fun r5 ⟨q6, q7, q8, q10⟩ => ?_))
  obtain ⟨s11, m12, u13, w14, hc15, hr16, ht17, ma18, mb19⟩ := CSt_bk hS (k := a1) q8 q10 q7
  have sq20 : 0 ≤ s11 ∧ s11 ≤ 8 := ⟨hc15.2.2.2.2.2.1, hc15.2.2.2.2.2.2.1⟩
  have hz21 : zF (σ.1 a1) = s11 := zF_eq hr16
  obtain ⟨s22, n23, v24, hhs25⟩ := I_hsA hI (b := 6) hs_6
  refine dr_virt rfl rfl rfl rfl hhs25.1 (f_X3_fill l hl hI (b := 6) hs_6 q6 hc15) (by decide) (by decide) (by decide) (Nat.le_of_ble_eq_true rfl) kHsN (kHsV (fun h26 hI27 hK28 s29 n30 v31 hH32 qf33 => ?_))
  obtain ⟨qf33e, qf33r, qf33m, qf33b⟩ := qf33
  subst qf33e
  have hF34 := FrC_tr FrC_rf (FrC_Kh hK28 hs_6)
  have hS35 := CSt_Kh hS hK28 hs_6
  have hc36 := CA_Kh hK28 hs_6 q6 hc15
  have n30a := hH32.2.2.2.2.1
  have n30b := hH32.2.2.2.2.2
  refine di_aload_n rfl rfl ?_
  obtain ⟨r37, c38, c39, hc40⟩ := I_cls hI27
  refine dr_getf rfl hc40 rfl ?_
  refine dr_getf rfl hH32.1 rfl ?_
  have e9 : anRooms (σ.1 a1) = n30 := rooms_c hr16 ht17 (by omega) qf33r qf33m
  clear qf33r qf33m qf33b
  exact dr_iret (ty := .int) rfl rfl rfl (by decide) (by decide) (QX_ok hI27 hF34 hS35 (by omega) (by unfold spRooms; (try rw [e9]); (repeat' split) <;> first | rfl | (exfalso; omega) | (apply Prod.ext <;> first | rfl | (dsimp only; omega) | (apply Prod.ext <;> first | rfl | (dsimp only; omega)))))
set_option maxHeartbeats 4000000 in
set_option maxRecDepth 100000 in
/-- Earlyends.roomOf -/
theorem c_X6_roomOf (l : Launch) (hl : l.stackTraces = false) {kc km : Int} {h : dm_H} (hI : Inv kc km h) {B : Int} {σ : St} (hS : CSt B σ h) (hB : B ≤ 80000) {a1 : Int} (h1a : -2147483648 ≤ a1) (h1b : a1 ≤ 2147483647) {a2 : Int} (h2a : -2147483648 ≤ a2) (h2b : a2 ≤ 2147483647) {a3 : Int} (h3a : -2147483648 ≤ a3) (h3b : a3 ≤ 2147483647) : dm_M l 96 6 8 48 [.ref 0, dI (a1), dI (a2), dI (a3)] h (QX kc km h B XB XA (spRoomOf σ a1 a2 a3)) := by
  refine dm_M_of dk_96 hl rfl (Nat.le_of_ble_eq_true rfl) ?_
  show dm_W (fun _ _ _ => True) (dm_P (QX kc km h B XB XA (spRoomOf σ a1 a2 a3)) 8 48) l 96 6 8 48 0 [some (.ref 0), some (dI (a1)), some (dI (a2)), some (dI (a3)), none, none] [] h 0 0
  refine di_aload_n rfl rfl ?_
  refine dr_iload_n rfl rfl ?_
  obtain ⟨r1, c2, c3, hc4⟩ := I_cls hI
  refine dr_virt rfl rfl rfl rfl hc4 (f_X6_bookAt l hl hI (a1 := a1) (by omega) (by omega)) (by decide) (by decide) (by decide) (Nat.le_of_ble_eq_true rfl) (fun Y h9 q9 => by obtain ⟨rfl, rfl, hC⟩ := q9; exact dr_out rfl (by decide) (by decide) (QX_1 (a := 0) hI FrC_rf hS (by omega) (by unfold spRoomOf; (repeat' split) <;> first | rfl | (exfalso; omega) | (apply Prod.ext <;> first | rfl | (dsimp only; omega) | (apply Prod.ext <;> first | rfl | (dsimp only; omega)))))) (kPXR (fun r5 ⟨q6, q7, q8, q10⟩ => ?_))
  refine di_astore (ls2 := [some (.ref 0), some (dI (a1)), some (dI (a2)), some (dI (a3)), some (.ref r5), none]) rfl rfl rfl ?_
  refine dr_iload_n rfl rfl ?_
  refine dr_iload_n rfl rfl ?_
  refine dr_stat rfl rfl rfl rfl (f_X6_codeOfSpan l hl hI (a0 := a2) (by omega) (by omega) (a1 := a3) (by omega) (by omega)) (by decide) (by decide) (by decide) (Nat.le_of_ble_eq_true rfl) (fun Y h9 q9 => by obtain ⟨rfl, rfl, hC⟩ := q9; exact dr_out rfl (by decide) (by decide) (QX_2 (a := 0) hI FrC_rf hS (by omega) (by unfold spRoomOf; (repeat' split) <;> first | rfl | (exfalso; omega) | (apply Prod.ext <;> first | rfl | (dsimp only; omega) | (apply Prod.ext <;> first | rfl | (dsimp only; omega)))))) (kPXI (fun y11 ⟨q12, q13, q14, q15⟩ => ?_))
  subst q12
  refine di_istore (ls2 := [some (.ref 0), some (dI (a1)), some (dI (a2)), some (dI (a3)), some (.ref r5), some (dI ((100 * a3 + a2)))]) rfl rfl rfl ?_
  refine di_aload_n rfl rfl ?_
  refine dr_getf rfl hc4 rfl ?_
  refine di_aload rfl rfl ?_
  obtain ⟨s16, m17, u18, w19, hc20, hr21, ht22, ma23, mb24⟩ := CSt_bk hS (k := a1) q8 q10 q7
  have sq25 : 0 ≤ s16 ∧ s16 ≤ 8 := ⟨hc20.2.2.2.2.2.1, hc20.2.2.2.2.2.2.1⟩
  have hz26 : zF (σ.1 a1) = s16 := zF_eq hr21
  obtain ⟨s27, n28, v29, hhs30⟩ := I_hsA hI (b := 6) hs_6
  refine dr_virt rfl rfl rfl rfl hhs30.1 (f_X3_fill l hl hI (b := 6) hs_6 q6 hc20) (by decide) (by decide) (by decide) (Nat.le_of_ble_eq_true rfl) kHsN (kHsV (fun h31 hI32 hK33 s34 n35 v36 hH37 qf38 => ?_))
  obtain ⟨qf38e, qf38r, qf38m, qf38b⟩ := qf38
  subst qf38e
  have hF39 := FrC_tr FrC_rf (FrC_Kh hK33 hs_6)
  have hS40 := CSt_Kh hS hK33 hs_6
  have hc41 := CA_Kh hK33 hs_6 q6 hc20
  have n35a := hH37.2.2.2.2.1
  have n35b := hH37.2.2.2.2.2
  refine di_aload_n rfl rfl ?_
  obtain ⟨r42, c43, c44, hc45⟩ := I_cls hI32
  refine dr_getf rfl hc45 rfl ?_
  refine di_aload rfl rfl ?_
  refine dr_iload rfl rfl ?_
  refine dr_virt rfl rfl rfl rfl hc41.1 (f_X0_rankOf l hl hI32 q6 hc41 (a1 := (100 * a3 + a2)) (by omega) (by omega) hr21 ht22) (by decide) (by decide) (by decide) (Nat.le_of_ble_eq_true rfl) kNP (kIP (fun y46 y46f y46a y46b => ?_))
  obtain ⟨y46c, y46d, y46k⟩ := y46f
  refine dr_virt rfl rfl rfl rfl hH37.1 (f_X3_roomAt l hl hI32 hs_6 hH37 (a1 := y46) (by omega) (by omega)) (by decide) (by decide) (by decide) (Nat.le_of_ble_eq_true rfl) kNP (kIP (fun y47 y47f y47a y47b => ?_))
  obtain ⟨y47r, y47s⟩ := y47f
  have e9 : anRoomOf (σ.1 a1) (100 * a3 + a2) = y47 := roomOf_c hr21 ht22 (by omega) qf38r y46k y47r y47s
  clear qf38r qf38m qf38b y47r y47s
  exact dr_iret (ty := .int) rfl rfl rfl (by decide) (by decide) (QX_ok hI32 hF39 hS40 (by omega) (by unfold spRoomOf; (try rw [e9]); (repeat' split) <;> first | rfl | (exfalso; omega) | (apply Prod.ext <;> first | rfl | (dsimp only; omega) | (apply Prod.ext <;> first | rfl | (dsimp only; omega)))))
