/-! ===== ranks, ends, and the calls that use them ===== -/
def ltP (c : Int) : Int → Bool := fun d => decide (d < c)
def soP (k a : Int) : Int → Bool := fun c => decide ((k = 0 ∧ c < a) ∨ (k = 1 ∧ c ≤ a) ∨ (k = 2 ∧ a ≤ c) ∨ ((k ≠ 0 ∧ k ≠ 1 ∧ k ≠ 2) ∧ a < c))
theorem soP_t {k a c : Int} (h : (k = 0 ∧ c < a) ∨ (k = 1 ∧ c ≤ a) ∨ (k = 2 ∧ a ≤ c) ∨ ((k ≠ 0 ∧ k ≠ 1 ∧ k ≠ 2) ∧ a < c)) : soP k a c = true := decide_eq_true h
theorem soP_f {k a c : Int} (h : ¬ ((k = 0 ∧ c < a) ∨ (k = 1 ∧ c ≤ a) ∨ (k = 2 ∧ a ≤ c) ∨ ((k ≠ 0 ∧ k ≠ 1 ∧ k ≠ 2) ∧ a < c))) : soP k a c = false := decide_eq_false h
def cnP (n : Int) (f : Int → Int) (P : Int → Bool) (i : Int) : Prop := n = cnt f P i.toNat
theorem cn_0 {f : Int → Int} {P : Int → Bool} : cnP 0 f P 0 := rfl
theorem cn_y {n : Int} {f : Int → Int} {P : Int → Bool} {i x : Int} (h : cnP n f P i) (h0 : 0 ≤ i) (e : f i = x) (p : P x = true) : cnP (n + 1) f P (i + 1) := by
  unfold cnP at *
  rw [cnt_st h0, e, p, if_pos rfl, ← h]
theorem cn_n {n : Int} {f : Int → Int} {P : Int → Bool} {i x : Int} (h : cnP n f P i) (h0 : 0 ≤ i) (e : f i = x) (p : P x = false) : cnP n f P (i + 1) := by
  unfold cnP at *
  rw [cnt_st h0, e, p, if_neg (by decide), ← h]; omega
theorem cn_e {n : Int} {f g F : Int → Int} {P : Int → Bool} {i s : Int} (h : cnP n f P i) (hr : Rep f g s F) (e : i = s) : n = nF F P := by
  subst e
  exact h.trans (nF_eq P hr).symm
theorem Rep_ex {f g F : Int → Int} {s c : Int} (hr : Rep f g s F) (hc : F c ≠ -1) : ∃ j : Int, 0 ≤ j ∧ j < s ∧ f j = c := Classical.byContradiction fun q => hc (Rep_no hr fun j h0 h1 e => q ⟨j, h0, h1, e⟩)
theorem Rep_neg {f g F : Int → Int} {s c : Int} (hr : Rep f g s F) (hc : c < 0) : F c = -1 := Classical.byContradiction fun q => by
  obtain ⟨j, h0, h1, e⟩ := Rep_ex hr q
  have := (Rep_at hr h0 h1).1
  omega
/-- the best so far: the greatest (z), the least -/
def ebP (z : Prop) (b : Int) (f : Int → Int) (P : Int → Bool) (i : Int) : Prop := (b = -1 ∧ ∀ j : Int, 0 ≤ j → j < i → P (f j) = false) ∨ (b ≠ -1 ∧ (∃ j : Int, 0 ≤ j ∧ j < i ∧ f j = b) ∧ P b = true ∧ ∀ j : Int, 0 ≤ j → j < i → P (f j) = true → (z → f j ≤ b) ∧ (¬ z → b ≤ f j))
section EB
variable {z : Prop} {b i x s : Int} {f g F : Int → Int} {P : Int → Bool}
theorem eb_0 : ebP z (-1) f P 0 := Or.inl ⟨rfl, fun j h0 h1 => by omega⟩
theorem eb_n (h : ebP z b f P i) (e : f i = x) (p : P x = false) : ebP z b f P (i + 1) := by
  rcases h with ⟨h1, h2⟩ | ⟨h1, ⟨j9, k0, k1, k2⟩, h3, h4⟩
  · refine Or.inl ⟨h1, fun j j0 j1 => ?_⟩
    by_cases q : j = i
    · rw [q, e]; exact p
    · exact h2 j j0 (by omega)
  · refine Or.inr ⟨h1, ⟨j9, k0, by omega, k2⟩, h3, fun j j0 j1 hp => ?_⟩
    by_cases q : j = i
    · rw [q, e, p] at hp; cases hp
    · exact h4 j j0 (by omega) hp
theorem eb_k (h : ebP z b f P i) (hb : b ≠ -1) (e : f i = x) (p1 : z → x ≤ b) (p2 : ¬ z → b ≤ x) : ebP z b f P (i + 1) := by
  rcases h with ⟨h1, h2⟩ | ⟨h1, ⟨j9, k0, k1, k2⟩, h3, h4⟩
  · exact absurd h1 hb
  · refine Or.inr ⟨h1, ⟨j9, k0, by omega, k2⟩, h3, fun j j0 j1 hp => ?_⟩
    by_cases q : j = i
    · rw [q, e]; exact ⟨p1, p2⟩
    · exact h4 j j0 (by omega) hp
theorem eb_t (h : ebP z b f P i) (h0 : 0 ≤ i) (e : f i = x) (p : P x = true) (x0 : 0 ≤ x) (p1 : b ≠ -1 → z → b ≤ x) (p2 : b ≠ -1 → ¬ z → x ≤ b) : ebP z x f P (i + 1) := by
  refine Or.inr ⟨by omega, ⟨i, h0, by omega, e⟩, p, fun j j0 j1 hp => ?_⟩
  by_cases q : j = i
  · rw [q, e]; exact ⟨fun _ => Int.le_refl _, fun _ => Int.le_refl _⟩
  · rcases h with ⟨h1, h2⟩ | ⟨h1, -, h3, h4⟩
    · have := h2 j j0 (by omega); rw [this] at hp; cases hp
    · have := h4 j j0 (by omega) hp
      exact ⟨fun hz => Int.le_trans (this.1 hz) (p1 h1 hz), fun hz => Int.le_trans (p2 h1 hz) (this.2 hz)⟩
theorem eb_e (h : ebP z b f P i) (hr : Rep f g s F) (e : i = s) : (z → b = grt F P) ∧ (¬ z → b = lst F P) := by
  subst e
  rcases h with ⟨h1, h2⟩ | ⟨h1, ⟨j9, k0, k1, k2⟩, h3, h4⟩
  · have hn : ∀ c, F c ≠ -1 → P c = false := fun c hc => by
      obtain ⟨j, j0, j1, e⟩ := Rep_ex hr hc
      rw [← e]; exact h2 j j0 j1
    exact ⟨fun _ => h1.trans (grt_no hn).symm, fun _ => h1.trans (lst_no hn).symm⟩
  · have hF : F b ≠ -1 := (Rep_yes hr k0 k1 k2).2.1
    exact ⟨fun hz => (grt_eq ⟨hF, h3, fun c hc hp => by
      obtain ⟨j, j0, j1, e⟩ := Rep_ex hr hc
      subst e; exact (h4 j j0 j1 hp).1 hz⟩).symm, fun hz => (lst_eq ⟨hF, h3, fun c hc hp => by
      obtain ⟨j, j0, j1, e⟩ := Rep_ex hr hc
      subst e; exact (h4 j j0 j1 hp).2 hz⟩).symm⟩
end EB
/-- the code of a rank -/
def rkC (F : Int → Int) (r x : Int) : Prop := (x = -1 ∧ ∀ c, F c ≠ -1 → nF F (ltP c) ≠ r) ∨ (F x ≠ -1 ∧ nF F (ltP x) = r)
def noR (F f : Int → Int) (r i : Int) : Prop := ∀ j : Int, 0 ≤ j → j < i → nF F (ltP (f j)) ≠ r
theorem noR_0 {F f : Int → Int} {r : Int} : noR F f r 0 := fun j h0 h1 => by omega
theorem noR_s {F f : Int → Int} {r i x : Int} (h : noR F f r i) (e : f i = x) (hx : nF F (ltP x) ≠ r) : noR F f r (i + 1) := fun j h0 h1 => by
  by_cases q : j = i
  · rw [q, e]; exact hx
  · exact h j h0 (by omega)
theorem noR_e {F f g : Int → Int} {r i s : Int} (h : noR F f r i) (hr : Rep f g s F) (e : i = s) : rkC F r (-1) := Or.inl ⟨rfl, fun c hc => by
  subst e
  obtain ⟨j, h0, h1, e⟩ := Rep_ex hr hc
  subst e; exact h j h0 h1⟩
theorem rkC_y {F : Int → Int} {r x : Int} (h : F x ≠ -1) (e : nF F (ltP x) = r) : rkC F r x := Or.inr ⟨h, e⟩
/-- each book can be told in order -/
def sSt (σ : St) : Prop := ∀ k : Int, 0 ≤ k → k ≤ 2 → ∃ (f g : Int → Int) (s : Int), Rep f g s (σ.1 k) ∧ Srt f s
theorem CSt_sSt {B : Int} {σ : St} {h : dm_H} (hS : CSt B σ h) : sSt σ := fun k k0 k1 => by
  obtain ⟨s, m, u, w, -, h2, h3, -⟩ := CSt_bk hS (k := k) (b := (17 + 3 * k).toNat) k0 k1 (by omega)
  exact ⟨_, _, s, h2, h3⟩
theorem rk_srt {f g F : Int → Int} {s j : Int} (hr : Rep f g s F) (ht : Srt f s) (h0 : 0 ≤ j) (h1 : j < s) : nF F (ltP (f j)) = j := by
  rw [nF_eq _ hr, cnt_rg (a := 0) (e := j) s.toNat (fun i i0 i1 => ?_) (by omega) (by omega)]
  · rw [if_neg (by omega), if_neg (by omega)]; omega
  · unfold ltP
    rw [decide_eq_true_iff]
    constructor
    · intro q
      refine ⟨i0, Classical.byContradiction fun q2 => ?_⟩
      by_cases q3 : i = j
      · rw [q3] at q; omega
      · have := ht j i h0 (by omega) (by omega)
        omega
    · intro q
      exact ht i j i0 q.2 h1
theorem rkC_s {f g F : Int → Int} {s r x : Int} (h : rkC F r x) (hr : Rep f g s F) (ht : Srt f s) : (0 ≤ r → r < s → x = f r) ∧ (r < 0 ∨ s ≤ r → x = -1) := by
  rcases h with ⟨h1, h2⟩ | ⟨h1, h2⟩
  · refine ⟨fun r0 r1 => absurd (rk_srt hr ht r0 r1) (h2 (f r) (Rep_yes hr r0 r1 rfl).2.1), fun _ => h1⟩
  · obtain ⟨j, j0, j1, e⟩ := Rep_ex hr h1
    subst e
    have := rk_srt hr ht j0 j1
    refine ⟨fun r0 r1 => by rw [← h2, this], fun q => by omega⟩
theorem sTake_y {σ : St} {k c : Int} (h : σ.1 k c ≠ -1) : sTake σ k c = (σ.1 k c, stM σ k (up (σ.1 k) c (-1))) := if_pos h
theorem sTake_n {σ : St} {k c : Int} (h : σ.1 k c = -1) : sTake σ k c = (-1, σ) := if_neg (fun q => q h)
theorem stM_1 {σ : St} {k : Int} {F : Int → Int} : (stM σ k F).1 k = F := if_pos rfl

set_option maxHeartbeats 4000000 in
set_option maxRecDepth 100000 in
/-- EarlyendsModel.isSo -/
theorem f_X8_isSo (l : Launch) (hl : l.stackTraces = false) {kc km : Int} {h : dm_H} (hI : Inv kc km h) {a0 : Int} (h0a : -2147483648 ≤ a0) (h0b : a0 ≤ 2147483647) {a1 : Int} (h1a : -2147483648 ≤ a1) (h1b : a1 ≤ 2147483647) {a2 : Int} (h2a : -2147483648 ≤ a2) (h2b : a2 ≤ 2147483647) : dm_M l 177 0 0 0 [dI (a0), dI (a1), dI (a2)] h (QP h (RI (fun x => 0 ≤ x ∧ x ≤ 1 ∧ (x = 1 → (a2 = 0 ∧ a0 < a1) ∨ (a2 = 1 ∧ a0 ≤ a1) ∨ (a2 = 2 ∧ a1 ≤ a0) ∨ ((a2 ≠ 0 ∧ a2 ≠ 1 ∧ a2 ≠ 2) ∧ a1 < a0)) ∧ (x = 0 → ¬ ((a2 = 0 ∧ a0 < a1) ∨ (a2 = 1 ∧ a0 ≤ a1) ∨ (a2 = 2 ∧ a1 ≤ a0) ∨ ((a2 ≠ 0 ∧ a2 ≠ 1 ∧ a2 ≠ 2) ∧ a1 < a0))))) []) := by
  refine dm_M_of dk_177 hl rfl (Nat.le_of_ble_eq_true rfl) ?_
  show dm_W (fun _ _ _ => True) (dm_P (QP h (RI (fun x => 0 ≤ x ∧ x ≤ 1 ∧ (x = 1 → (a2 = 0 ∧ a0 < a1) ∨ (a2 = 1 ∧ a0 ≤ a1) ∨ (a2 = 2 ∧ a1 ≤ a0) ∨ ((a2 ≠ 0 ∧ a2 ≠ 1 ∧ a2 ≠ 2) ∧ a1 < a0)) ∧ (x = 0 → ¬ ((a2 = 0 ∧ a0 < a1) ∨ (a2 = 1 ∧ a0 ≤ a1) ∨ (a2 = 2 ∧ a1 ≤ a0) ∨ ((a2 ≠ 0 ∧ a2 ≠ 1 ∧ a2 ≠ 2) ∧ a1 < a0))))) []) 0 0) l 177 0 0 0 0 [some (dI (a0)), some (dI (a1)), some (dI (a2))] [] h 0 0
  refine dr_iload_n rfl rfl ?_
  refine di_if_ne rfl rfl (by omega) (by omega) (fun c1 => ?_) (fun c1 => ?_)
  · skip
    refine dr_iload_n rfl rfl ?_
    refine di_const rfl ?_
    refine di_icmp_ne rfl rfl (by omega) (by omega) (by omega) (by omega) (fun c2 => ?_) (fun c2 => ?_)
    · skip
      refine dr_iload_n rfl rfl ?_
      refine di_const rfl ?_
      refine di_icmp_ne rfl rfl (by omega) (by omega) (by omega) (by omega) (fun c3 => ?_) (fun c3 => ?_)
      · skip
        refine dr_iload_n rfl rfl ?_
        refine dr_iload_n rfl rfl ?_
        refine di_icmp_le rfl rfl (by omega) (by omega) (by omega) (by omega) (fun c4 => ?_) (fun c4 => ?_)
        · skip
          refine di_const rfl ?_
          exact dr_iret (ty := .boolean) rfl rfl (nar_z (by omega) (by omega)) (by decide) (by decide) ⟨rfl, 0, (show 0 ≤ (0) ∧ (0) ≤ 1 ∧ ((0) = 1 → (a2 = 0 ∧ a0 < a1) ∨ (a2 = 1 ∧ a0 ≤ a1) ∨ (a2 = 2 ∧ a1 ≤ a0) ∨ ((a2 ≠ 0 ∧ a2 ≠ 1 ∧ a2 ≠ 2) ∧ a1 < a0)) ∧ ((0) = 0 → ¬ ((a2 = 0 ∧ a0 < a1) ∨ (a2 = 1 ∧ a0 ≤ a1) ∨ (a2 = 2 ∧ a1 ≤ a0) ∨ ((a2 ≠ 0 ∧ a2 ≠ 1 ∧ a2 ≠ 2) ∧ a1 < a0))) by omega), by omega, by omega, rfl⟩
        · skip
          refine di_const rfl ?_
          refine dr_goto rfl rfl ?_
          exact dr_iret (ty := .boolean) rfl rfl (nar_z (by omega) (by omega)) (by decide) (by decide) ⟨rfl, 1, (show 0 ≤ (1) ∧ (1) ≤ 1 ∧ ((1) = 1 → (a2 = 0 ∧ a0 < a1) ∨ (a2 = 1 ∧ a0 ≤ a1) ∨ (a2 = 2 ∧ a1 ≤ a0) ∨ ((a2 ≠ 0 ∧ a2 ≠ 1 ∧ a2 ≠ 2) ∧ a1 < a0)) ∧ ((1) = 0 → ¬ ((a2 = 0 ∧ a0 < a1) ∨ (a2 = 1 ∧ a0 ≤ a1) ∨ (a2 = 2 ∧ a1 ≤ a0) ∨ ((a2 ≠ 0 ∧ a2 ≠ 1 ∧ a2 ≠ 2) ∧ a1 < a0))) by omega), by omega, by omega, rfl⟩
      · skip
        refine dr_iload_n rfl rfl ?_
        refine dr_iload_n rfl rfl ?_
        refine di_icmp_lt rfl rfl (by omega) (by omega) (by omega) (by omega) (fun c5 => ?_) (fun c5 => ?_)
        · skip
          refine di_const rfl ?_
          refine dr_goto rfl rfl ?_
          exact dr_iret (ty := .boolean) rfl rfl (nar_z (by omega) (by omega)) (by decide) (by decide) ⟨rfl, 0, (show 0 ≤ (0) ∧ (0) ≤ 1 ∧ ((0) = 1 → (a2 = 0 ∧ a0 < a1) ∨ (a2 = 1 ∧ a0 ≤ a1) ∨ (a2 = 2 ∧ a1 ≤ a0) ∨ ((a2 ≠ 0 ∧ a2 ≠ 1 ∧ a2 ≠ 2) ∧ a1 < a0)) ∧ ((0) = 0 → ¬ ((a2 = 0 ∧ a0 < a1) ∨ (a2 = 1 ∧ a0 ≤ a1) ∨ (a2 = 2 ∧ a1 ≤ a0) ∨ ((a2 ≠ 0 ∧ a2 ≠ 1 ∧ a2 ≠ 2) ∧ a1 < a0))) by omega), by omega, by omega, rfl⟩
        · skip
          refine di_const rfl ?_
          refine dr_goto rfl rfl ?_
          exact dr_iret (ty := .boolean) rfl rfl (nar_z (by omega) (by omega)) (by decide) (by decide) ⟨rfl, 1, (show 0 ≤ (1) ∧ (1) ≤ 1 ∧ ((1) = 1 → (a2 = 0 ∧ a0 < a1) ∨ (a2 = 1 ∧ a0 ≤ a1) ∨ (a2 = 2 ∧ a1 ≤ a0) ∨ ((a2 ≠ 0 ∧ a2 ≠ 1 ∧ a2 ≠ 2) ∧ a1 < a0)) ∧ ((1) = 0 → ¬ ((a2 = 0 ∧ a0 < a1) ∨ (a2 = 1 ∧ a0 ≤ a1) ∨ (a2 = 2 ∧ a1 ≤ a0) ∨ ((a2 ≠ 0 ∧ a2 ≠ 1 ∧ a2 ≠ 2) ∧ a1 < a0))) by omega), by omega, by omega, rfl⟩
    · skip
      refine dr_iload_n rfl rfl ?_
      refine dr_iload_n rfl rfl ?_
      refine di_icmp_gt rfl rfl (by omega) (by omega) (by omega) (by omega) (fun c6 => ?_) (fun c6 => ?_)
      · skip
        refine di_const rfl ?_
        refine dr_goto rfl rfl ?_
        exact dr_iret (ty := .boolean) rfl rfl (nar_z (by omega) (by omega)) (by decide) (by decide) ⟨rfl, 0, (show 0 ≤ (0) ∧ (0) ≤ 1 ∧ ((0) = 1 → (a2 = 0 ∧ a0 < a1) ∨ (a2 = 1 ∧ a0 ≤ a1) ∨ (a2 = 2 ∧ a1 ≤ a0) ∨ ((a2 ≠ 0 ∧ a2 ≠ 1 ∧ a2 ≠ 2) ∧ a1 < a0)) ∧ ((0) = 0 → ¬ ((a2 = 0 ∧ a0 < a1) ∨ (a2 = 1 ∧ a0 ≤ a1) ∨ (a2 = 2 ∧ a1 ≤ a0) ∨ ((a2 ≠ 0 ∧ a2 ≠ 1 ∧ a2 ≠ 2) ∧ a1 < a0))) by omega), by omega, by omega, rfl⟩
      · skip
        refine di_const rfl ?_
        refine dr_goto rfl rfl ?_
        exact dr_iret (ty := .boolean) rfl rfl (nar_z (by omega) (by omega)) (by decide) (by decide) ⟨rfl, 1, (show 0 ≤ (1) ∧ (1) ≤ 1 ∧ ((1) = 1 → (a2 = 0 ∧ a0 < a1) ∨ (a2 = 1 ∧ a0 ≤ a1) ∨ (a2 = 2 ∧ a1 ≤ a0) ∨ ((a2 ≠ 0 ∧ a2 ≠ 1 ∧ a2 ≠ 2) ∧ a1 < a0)) ∧ ((1) = 0 → ¬ ((a2 = 0 ∧ a0 < a1) ∨ (a2 = 1 ∧ a0 ≤ a1) ∨ (a2 = 2 ∧ a1 ≤ a0) ∨ ((a2 ≠ 0 ∧ a2 ≠ 1 ∧ a2 ≠ 2) ∧ a1 < a0))) by omega), by omega, by omega, rfl⟩
  · skip
    refine dr_iload_n rfl rfl ?_
    refine dr_iload_n rfl rfl ?_
    refine di_icmp_ge rfl rfl (by omega) (by omega) (by omega) (by omega) (fun c7 => ?_) (fun c7 => ?_)
    · skip
      refine di_const rfl ?_
      refine dr_goto rfl rfl ?_
      exact dr_iret (ty := .boolean) rfl rfl (nar_z (by omega) (by omega)) (by decide) (by decide) ⟨rfl, 0, (show 0 ≤ (0) ∧ (0) ≤ 1 ∧ ((0) = 1 → (a2 = 0 ∧ a0 < a1) ∨ (a2 = 1 ∧ a0 ≤ a1) ∨ (a2 = 2 ∧ a1 ≤ a0) ∨ ((a2 ≠ 0 ∧ a2 ≠ 1 ∧ a2 ≠ 2) ∧ a1 < a0)) ∧ ((0) = 0 → ¬ ((a2 = 0 ∧ a0 < a1) ∨ (a2 = 1 ∧ a0 ≤ a1) ∨ (a2 = 2 ∧ a1 ≤ a0) ∨ ((a2 ≠ 0 ∧ a2 ≠ 1 ∧ a2 ≠ 2) ∧ a1 < a0))) by omega), by omega, by omega, rfl⟩
    · skip
      refine di_const rfl ?_
      refine dr_goto rfl rfl ?_
      exact dr_iret (ty := .boolean) rfl rfl (nar_z (by omega) (by omega)) (by decide) (by decide) ⟨rfl, 1, (show 0 ≤ (1) ∧ (1) ≤ 1 ∧ ((1) = 1 → (a2 = 0 ∧ a0 < a1) ∨ (a2 = 1 ∧ a0 ≤ a1) ∨ (a2 = 2 ∧ a1 ≤ a0) ∨ ((a2 ≠ 0 ∧ a2 ≠ 1 ∧ a2 ≠ 2) ∧ a1 < a0)) ∧ ((1) = 0 → ¬ ((a2 = 0 ∧ a0 < a1) ∨ (a2 = 1 ∧ a0 ≤ a1) ∨ (a2 = 2 ∧ a1 ≤ a0) ∨ ((a2 ≠ 0 ∧ a2 ≠ 1 ∧ a2 ≠ 2) ∧ a1 < a0))) by omega), by omega, by omega, rfl⟩
set_option maxHeartbeats 4000000 in
set_option maxRecDepth 100000 in
/-- EarlyendsModel.rankOf -/
theorem n_X8_rankOf (l : Launch) (hl : l.stackTraces = false) {kc km : Int} {h : dm_H} (hI : Inv kc km h) {th : Int} {σ : St} (hM : MSt km th σ h) {a1 : Int} (h1a : 0 ≤ a1) (h1b : a1 ≤ 2) {a2 : Int} (h2a : -2147483648 ≤ a2) (h2b : a2 ≤ 2147483647) {r q : Nat} {u w us : List Value} (er : (r : Int) = (28 : Nat) + a1) (eq : (q : Int) = (32 : Nat) + a1) (hu : h[r]? = some (20, u)) (hw : h[q]? = some (20, w)) (au : arr 8 okC u) (aw : arr 8 anyI w) (h35 : h[35]? = some (20, us)) (as : arr 3 okS us) (hr : Rep (cv u) (cv w) (cv us a1) (σ.1 a1)) (s0 : 0 ≤ cv us a1) (s8 : cv us a1 ≤ 8) : dm_M l 135 0 0 0 [.ref 26, dI (a1), dI (a2)] h (QP h (RI (fun x => 0 ≤ x ∧ x ≤ 8 ∧ x = nF (σ.1 a1) (ltP a2))) []) := by
  obtain ⟨⟨ni, c26, ni0, ni1⟩, ⟨⟨R1, R2⟩, ⟨R3, R4⟩, ⟨R5, R6⟩, ⟨R7, R8⟩, ⟨R9, R10⟩, ⟨R11, R12⟩, R13⟩, ⟨th0, th1⟩, -⟩ := id hM
  have R14 : σ.2.2.2.2.2.1 = -1 ∨ (0 ≤ σ.2.2.2.2.2.1 ∧ σ.2.2.2.2.2.1 ≤ 9999 ∧ σ.2.2.2.2.2.1 % 100 ≤ σ.2.2.2.2.2.1 / 100) := R13
  have mr : isCR r := isCR_of er (by omega) (by omega)
  have mq : isNR q := isNR_of eq (by omega) (by omega)
  refine dm_M_of dk_135 hl rfl (Nat.le_of_ble_eq_true rfl) ?_
  show dm_W (fun _ _ _ => True) (dm_P (QP h (RI (fun x => 0 ≤ x ∧ x ≤ 8 ∧ x = nF (σ.1 a1) (ltP a2))) []) 0 0) l 135 0 0 0 0 [some (.ref 26), some (dI (a1)), some (dI (a2)), none, none] [] h 0 0
  refine di_const rfl ?_
  refine di_istore_n (ls2 := [some (.ref 26), some (dI (a1)), some (dI (a2)), some (dI (0)), none]) rfl rfl rfl ?_
  refine di_const rfl ?_
  refine di_istore (ls2 := [some (.ref 26), some (dI (a1)), some (dI (a2)), some (dI (0)), some (dI (0))]) rfl rfl rfl ?_
  have L3 : ∀ (n : Nat) (i1 : Int) (i2 : Int), (8 - i2).toNat < n → 0 ≤ i1 → i1 ≤ 8 → 0 ≤ i2 → i2 ≤ 8 → i2 ≤ cv us a1 → i1 ≤ i2 → cnP i1 (cv u) (ltP a2) i2 → dm_W (fun _ _ _ => True) (dm_P (QP h (RI (fun x => 0 ≤ x ∧ x ≤ 8 ∧ x = nF (σ.1 a1) (ltP a2))) []) 0 0) l 135 0 0 0 5 [some (.ref 26), some (dI (a1)), some (dI (a2)), some (dI (i1)), some (dI (i2))] [] h 0 0 := by
    intro n
    induction n with
    | zero => intro i1 i2 hm; exact absurd hm (Nat.not_lt_zero _)
    | succ n ih =>
      intro i1 i2 hm11 hb4 hb5 hb6 hb7 hx8 hx10 PC
      have ihL3 := ih
      clear ih
      refine dr_iload rfl rfl ?_
      refine di_aload_n rfl rfl ?_
      refine dr_getf rfl c26 rfl ?_
      refine dr_iload_n rfl rfl ?_
      refine di_iald rfl h35 as (by omega) (by omega) (fun x12 x12f x12a x12b x12v => ?_)
      have x12w : cv us a1 = x12 := cv_eq x12v x12a x12b
      have x12g : 0 ≤ x12 ∧ x12 ≤ 8 := x12f
      refine di_icmp_ge rfl rfl (by omega) (by omega) (by omega) (by omega) (fun c13 => ?_) (fun c13 => ?_)
      · skip
        refine dr_iload_n rfl rfl ?_
        exact dr_iret (ty := .int) rfl rfl rfl (by decide) (by decide) ⟨rfl, i1, ⟨by omega, by omega, cn_e PC hr (by omega)⟩, by omega, by omega, rfl⟩
      · skip
        refine di_aload_n rfl rfl ?_
        refine dr_getf rfl c26 rfl ?_
        refine dr_iload_n rfl rfl ?_
        have hc14 := I_mcs hI
        refine paaE (k0 := 28) er rfl hc14 (by omega) (by omega) ?_
        refine dr_iload rfl rfl ?_
        refine di_iald rfl hu au (by omega) (by omega) (fun x15 x15f x15a x15b x15v => ?_)
        have x15w : cv u i2 = x15 := cv_eq x15v x15a x15b
        have x15g : 0 ≤ x15 ∧ x15 ≤ 9999 ∧ x15 % 100 ≤ x15 / 100 := x15f
        refine dr_iload_n rfl rfl ?_
        refine di_icmp_ge rfl rfl (by omega) (by omega) (by omega) (by omega) (fun c16 => ?_) (fun c16 => ?_)
        · skip
          refine di_iinc (ls2 := [some (.ref 26), some (dI (a1)), some (dI (a2)), some (dI (i1)), some (dI ((i2 + 1)))]) rfl rfl rfl rfl ?_
          refine dr_goto rfl rfl ?_
          exact ihL3 (i1) ((i2 + 1)) (by omega) (by omega) (by omega) (by omega) (by omega) (by omega) (by omega)  (cn_n PC (by omega) x15w (decide_eq_false (by omega)))
        · skip
          refine di_iinc (ls2 := [some (.ref 26), some (dI (a1)), some (dI (a2)), some (dI ((i1 + 1))), some (dI (i2))]) rfl rfl rfl rfl ?_
          refine di_iinc (ls2 := [some (.ref 26), some (dI (a1)), some (dI (a2)), some (dI ((i1 + 1))), some (dI ((i2 + 1)))]) rfl rfl rfl rfl ?_
          refine dr_goto rfl rfl ?_
          exact ihL3 ((i1 + 1)) ((i2 + 1)) (by omega) (by omega) (by omega) (by omega) (by omega) (by omega) (by omega)  (cn_y PC (by omega) x15w (decide_eq_true (by omega)))
  exact L3 _ (0) (0) (Nat.lt_succ_self _) (by omega) (by omega) (by omega) (by omega) (by omega) (by omega)  cn_0
set_option maxHeartbeats 4000000 in
set_option maxRecDepth 100000 in
/-- EarlyendsModel.codeAt -/
theorem n_X8_codeAt (l : Launch) (hl : l.stackTraces = false) {kc km : Int} {h : dm_H} (hI : Inv kc km h) {th : Int} {σ : St} (hM : MSt km th σ h) {a1 : Int} (h1a : 0 ≤ a1) (h1b : a1 ≤ 2) {a2 : Int} (h2a : -2147483648 ≤ a2) (h2b : a2 ≤ 2147483647) {r q : Nat} {u w us : List Value} (er : (r : Int) = (28 : Nat) + a1) (eq : (q : Int) = (32 : Nat) + a1) (hu : h[r]? = some (20, u)) (hw : h[q]? = some (20, w)) (au : arr 8 okC u) (aw : arr 8 anyI w) (h35 : h[35]? = some (20, us)) (as : arr 3 okS us) (hr : Rep (cv u) (cv w) (cv us a1) (σ.1 a1)) (s0 : 0 ≤ cv us a1) (s8 : cv us a1 ≤ 8) : dm_M l 136 1 0 0 [.ref 26, dI (a1), dI (a2)] h (QP h (RI (fun x => -1 ≤ x ∧ x ≤ 9999 ∧ rkC (σ.1 a1) a2 x)) []) := by
  obtain ⟨⟨ni, c26, ni0, ni1⟩, ⟨⟨R1, R2⟩, ⟨R3, R4⟩, ⟨R5, R6⟩, ⟨R7, R8⟩, ⟨R9, R10⟩, ⟨R11, R12⟩, R13⟩, ⟨th0, th1⟩, -⟩ := id hM
  have R14 : σ.2.2.2.2.2.1 = -1 ∨ (0 ≤ σ.2.2.2.2.2.1 ∧ σ.2.2.2.2.2.1 ≤ 9999 ∧ σ.2.2.2.2.2.1 % 100 ≤ σ.2.2.2.2.2.1 / 100) := R13
  have mr : isCR r := isCR_of er (by omega) (by omega)
  have mq : isNR q := isNR_of eq (by omega) (by omega)
  refine dm_M_of dk_136 hl rfl (Nat.le_of_ble_eq_true rfl) ?_
  show dm_W (fun _ _ _ => True) (dm_P (QP h (RI (fun x => -1 ≤ x ∧ x ≤ 9999 ∧ rkC (σ.1 a1) a2 x)) []) 0 0) l 136 1 0 0 0 [some (.ref 26), some (dI (a1)), some (dI (a2)), none] [] h 0 0
  refine di_const rfl ?_
  refine di_istore_n (ls2 := [some (.ref 26), some (dI (a1)), some (dI (a2)), some (dI (0))]) rfl rfl rfl ?_
  have L2 : ∀ (n : Nat) (i1 : Int), (8 - i1).toNat < n → 0 ≤ i1 → i1 ≤ 8 → i1 ≤ cv us a1 → noR (σ.1 a1) (cv u) a2 i1 → dm_W (fun _ _ _ => True) (dm_P (QP h (RI (fun x => -1 ≤ x ∧ x ≤ 9999 ∧ rkC (σ.1 a1) a2 x)) []) 0 0) l 136 1 0 0 2 [some (.ref 26), some (dI (a1)), some (dI (a2)), some (dI (i1))] [] h 0 0 := by
    intro n
    induction n with
    | zero => intro i1 hm; exact absurd hm (Nat.not_lt_zero _)
    | succ n ih =>
      intro i1 hm6 hb3 hb4 hx5 PN
      have ihL2 := ih
      clear ih
      refine dr_iload_n rfl rfl ?_
      refine di_aload_n rfl rfl ?_
      refine dr_getf rfl c26 rfl ?_
      refine dr_iload_n rfl rfl ?_
      refine di_iald rfl h35 as (by omega) (by omega) (fun x7 x7f x7a x7b x7v => ?_)
      have x7w : cv us a1 = x7 := cv_eq x7v x7a x7b
      have x7g : 0 ≤ x7 ∧ x7 ≤ 8 := x7f
      refine di_icmp_ge rfl rfl (by omega) (by omega) (by omega) (by omega) (fun c8 => ?_) (fun c8 => ?_)
      · skip
        refine di_const rfl ?_
        exact dr_iret (ty := .int) rfl rfl rfl (by decide) (by decide) ⟨rfl, (-1), ⟨by omega, by omega, noR_e PN hr (by omega)⟩, by omega, by omega, rfl⟩
      · skip
        refine di_aload_n rfl rfl ?_
        refine dr_iload_n rfl rfl ?_
        refine di_aload_n rfl rfl ?_
        refine dr_getf rfl c26 rfl ?_
        refine dr_iload_n rfl rfl ?_
        have hc10 := I_mcs hI
        refine paaE (k0 := 28) er rfl hc10 (by omega) (by omega) ?_
        refine dr_iload_n rfl rfl ?_
        refine di_iald rfl hu au (by omega) (by omega) (fun x11 x11f x11a x11b x11v => ?_)
        have x11w : cv u i1 = x11 := cv_eq x11v x11a x11b
        have x11g : 0 ≤ x11 ∧ x11 ≤ 9999 ∧ x11 % 100 ≤ x11 / 100 := x11f
        refine dr_virt rfl rfl rfl rfl c26 (n_X8_rankOf l hl hI hM (a1 := a1) (by omega) (by omega) (a2 := x11) (by omega) (by omega) er eq hu hw au aw h35 as hr s0 s8) (by decide) (by decide) (by decide) (Nat.le_of_ble_eq_true rfl) kNP (kIP (fun y12 y12f y12a y12b => ?_))
        obtain ⟨y12c, y12d, y12k⟩ := y12f
        subst y12k
        refine dr_iload_n rfl rfl ?_
        refine di_icmp_ne rfl rfl (by omega) (by omega) (by omega) (by omega) (fun c13 => ?_) (fun c13 => ?_)
        · skip
          refine di_iinc (ls2 := [some (.ref 26), some (dI (a1)), some (dI (a2)), some (dI ((i1 + 1)))]) rfl rfl rfl rfl ?_
          refine dr_goto rfl rfl ?_
          exact ihL2 ((i1 + 1)) (by omega) (by omega) (by omega) (by omega)  (noR_s PN x11w (by omega))
        · skip
          refine di_aload_n rfl rfl ?_
          refine dr_getf rfl c26 rfl ?_
          refine dr_iload_n rfl rfl ?_
          refine paaE (k0 := 28) er rfl hc10 (by omega) (by omega) ?_
          refine dr_iload_n rfl rfl ?_
          refine di_iald rfl hu au (by omega) (by omega) (fun x14 x14f x14a x14b x14v => ?_)
          have x14w : cv u i1 = x14 := cv_eq x14v x14a x14b
          have x14g : 0 ≤ x14 ∧ x14 ≤ 9999 ∧ x14 % 100 ≤ x14 / 100 := x14f
          exact dr_iret (ty := .int) rfl rfl rfl (by decide) (by decide) ⟨rfl, x14, ⟨by omega, by omega, rkC_y (Rep_yes hr (j := i1) (by omega) (by omega) x14w).2.1 (by rw [show x14 = x11 by omega]; omega)⟩, by omega, by omega, rfl⟩
  exact L2 _ (0) (Nat.lt_succ_self _) (by omega) (by omega) (by omega)  noR_0
set_option maxHeartbeats 4000000 in
set_option maxRecDepth 100000 in
/-- EarlyendsModel.partSize -/
theorem n_X8_partSize (l : Launch) (hl : l.stackTraces = false) {kc km : Int} {h : dm_H} (hI : Inv kc km h) {th : Int} {σ : St} (hM : MSt km th σ h) (hp0 : 0 ≤ σ.2.1.1) : dm_M l 157 1 0 0 [.ref 26] h (QP h (RI (fun x => 0 ≤ x ∧ x ≤ 8 ∧ x = nP σ)) []) := by
  obtain ⟨⟨ni, c26, ni0, ni1⟩, ⟨⟨R1, R2⟩, ⟨R3, R4⟩, ⟨R5, R6⟩, ⟨R7, R8⟩, ⟨R9, R10⟩, ⟨R11, R12⟩, R13⟩, ⟨th0, th1⟩, -⟩ := id hM
  have R14 : σ.2.2.2.2.2.1 = -1 ∨ (0 ≤ σ.2.2.2.2.2.1 ∧ σ.2.2.2.2.2.1 ≤ 9999 ∧ σ.2.2.2.2.2.1 % 100 ≤ σ.2.2.2.2.2.1 / 100) := R13
  refine dm_M_of dk_157 hl rfl (Nat.le_of_ble_eq_true rfl) ?_
  show dm_W (fun _ _ _ => True) (dm_P (QP h (RI (fun x => 0 ≤ x ∧ x ≤ 8 ∧ x = nP σ)) []) 0 0) l 157 1 0 0 0 [some (.ref 26), none, none] [] h 0 0
  obtain ⟨r1, q2, u3, w4, us5, er6, eq7, hu8, hw10, au11, aw12, hs13, as14, hr15, sa16, sb17⟩ := MSt_bk hM (k := σ.2.1.1) (by omega) (by omega)
  have hz18 : zF (σ.1 σ.2.1.1) = cv us5 σ.2.1.1 := zF_eq hr15
  have mr19 : isCR r1 := isCR_of er6 (by omega) (by omega)
  have mq20 : isNR q2 := isNR_of eq7 (by omega) (by omega)
  refine di_const rfl ?_
  refine di_istore_n (ls2 := [some (.ref 26), some (dI (0)), none]) rfl rfl rfl ?_
  refine di_const rfl ?_
  refine di_istore_n (ls2 := [some (.ref 26), some (dI (0)), some (dI (0))]) rfl rfl rfl ?_
  have L23 : ∀ (n : Nat) (i21 : Int) (i22 : Int), (8 - i22).toNat < n → 0 ≤ i21 → i21 ≤ 8 → 0 ≤ i22 → i22 ≤ 8 → i22 ≤ cv us5 σ.2.1.1 → i21 ≤ i22 → cnP i21 (cv u3) (inP σ.2.1.2.1 σ.2.1.2.2) i22 → dm_W (fun _ _ _ => True) (dm_P (QP h (RI (fun x => 0 ≤ x ∧ x ≤ 8 ∧ x = nP σ)) []) 0 0) l 157 1 0 0 4 [some (.ref 26), some (dI (i21)), some (dI (i22))] [] h 0 0 := by
    intro n
    induction n with
    | zero => intro i21 i22 hm; exact absurd hm (Nat.not_lt_zero _)
    | succ n ih =>
      intro i21 i22 hm30 hb24 hb25 hb26 hb27 hx28 hx29 PC
      have ihL23 := ih
      clear ih
      refine dr_iload_n rfl rfl ?_
      refine di_aload_n rfl rfl ?_
      refine dr_getf rfl c26 rfl ?_
      refine di_aload_n rfl rfl ?_
      refine dr_getf rfl c26 rfl ?_
      refine di_iald rfl hs13 as14 (by omega) (by omega) (fun x31 x31f x31a x31b x31v => ?_)
      have x31w : cv us5 σ.2.1.1 = x31 := cv_eq x31v x31a x31b
      have x31g : 0 ≤ x31 ∧ x31 ≤ 8 := x31f
      refine di_icmp_ge rfl rfl (by omega) (by omega) (by omega) (by omega) (fun c32 => ?_) (fun c32 => ?_)
      · skip
        refine dr_iload_n rfl rfl ?_
        exact dr_iret (ty := .int) rfl rfl rfl (by decide) (by decide) ⟨rfl, i21, ⟨by omega, by omega, (cn_e PC hr15 (by omega) : _ = nF (σ.1 σ.2.1.1) _)⟩, by omega, by omega, rfl⟩
      · skip
        refine di_aload_n rfl rfl ?_
        refine di_aload_n rfl rfl ?_
        refine dr_getf rfl c26 rfl ?_
        refine di_aload_n rfl rfl ?_
        refine dr_getf rfl c26 rfl ?_
        have hc33 := I_mcs hI
        refine paaE (k0 := 28) er6 rfl hc33 (by omega) (by omega) ?_
        refine dr_iload_n rfl rfl ?_
        refine di_iald rfl hu8 au11 (by omega) (by omega) (fun x34 x34f x34a x34b x34v => ?_)
        have x34w : cv u3 i22 = x34 := cv_eq x34v x34a x34b
        have x34g : 0 ≤ x34 ∧ x34 ≤ 9999 ∧ x34 % 100 ≤ x34 / 100 := x34f
        refine dr_virt rfl rfl rfl rfl c26 (n_X8_isInPart l hl hI hM (a1 := x34) (by omega) (by omega)) (by decide) (by decide) (by decide) (Nat.le_of_ble_eq_true rfl) kNP (kIP (fun y35 y35f y35a y35b => ?_))
        have y35g : 0 ≤ y35 ∧ y35 ≤ 1 ∧ (y35 = 1 → (σ.2.1.2.1 = -1 ∨ σ.2.1.2.1 ≤ x34 / 100) ∧ (σ.2.1.2.2 = -1 ∨ x34 / 100 ≤ σ.2.1.2.2)) ∧ (y35 = 0 → (σ.2.1.2.1 ≠ -1 ∧ x34 / 100 < σ.2.1.2.1) ∨ (σ.2.1.2.2 ≠ -1 ∧ σ.2.1.2.2 < x34 / 100)) := y35f
        clear y35f
        refine di_if_eq rfl rfl (by omega) (by omega) (fun c36 => ?_) (fun c36 => ?_)
        · skip
          refine di_iinc (ls2 := [some (.ref 26), some (dI (i21)), some (dI ((i22 + 1)))]) rfl rfl rfl rfl ?_
          refine dr_goto rfl rfl ?_
          exact ihL23 (i21) ((i22 + 1)) (by omega) (by omega) (by omega) (by omega) (by omega) (by omega) (by omega)  (cn_n PC (by omega) x34w (inP_f (by omega)))
        · skip
          refine di_iinc (ls2 := [some (.ref 26), some (dI ((i21 + 1))), some (dI (i22))]) rfl rfl rfl rfl ?_
          refine di_iinc (ls2 := [some (.ref 26), some (dI ((i21 + 1))), some (dI ((i22 + 1)))]) rfl rfl rfl rfl ?_
          refine dr_goto rfl rfl ?_
          exact ihL23 ((i21 + 1)) ((i22 + 1)) (by omega) (by omega) (by omega) (by omega) (by omega) (by omega) (by omega)  (cn_y PC (by omega) x34w (inP_t (by omega)))
  exact L23 _ (0) (0) (Nat.lt_succ_self _) (by omega) (by omega) (by omega) (by omega) (by omega) (by omega)  cn_0
set_option maxHeartbeats 4000000 in
set_option maxRecDepth 100000 in
/-- EarlyendsModel.partEnd -/
theorem n_X8_partEnd (l : Launch) (hl : l.stackTraces = false) {kc km : Int} {h : dm_H} (hI : Inv kc km h) {th : Int} {σ : St} (hM : MSt km th σ h) {a1 : Int} (h1a : 0 ≤ a1) (h1b : a1 ≤ 1) (hp0 : 0 ≤ σ.2.1.1) : dm_M l 158 1 0 0 [.ref 26, dI (a1)] h (QP h (RI (fun x => -1 ≤ x ∧ x ≤ 9999 ∧ (x = -1 ∨ (0 ≤ x ∧ x ≤ 9999 ∧ x % 100 ≤ x / 100)) ∧ (a1 = 1 → x = grt (σ.1 σ.2.1.1) (inP σ.2.1.2.1 σ.2.1.2.2)) ∧ (¬ a1 = 1 → x = lst (σ.1 σ.2.1.1) (inP σ.2.1.2.1 σ.2.1.2.2)))) []) := by
  obtain ⟨⟨ni, c26, ni0, ni1⟩, ⟨⟨R1, R2⟩, ⟨R3, R4⟩, ⟨R5, R6⟩, ⟨R7, R8⟩, ⟨R9, R10⟩, ⟨R11, R12⟩, R13⟩, ⟨th0, th1⟩, -⟩ := id hM
  have R14 : σ.2.2.2.2.2.1 = -1 ∨ (0 ≤ σ.2.2.2.2.2.1 ∧ σ.2.2.2.2.2.1 ≤ 9999 ∧ σ.2.2.2.2.2.1 % 100 ≤ σ.2.2.2.2.2.1 / 100) := R13
  refine dm_M_of dk_158 hl rfl (Nat.le_of_ble_eq_true rfl) ?_
  show dm_W (fun _ _ _ => True) (dm_P (QP h (RI (fun x => -1 ≤ x ∧ x ≤ 9999 ∧ (x = -1 ∨ (0 ≤ x ∧ x ≤ 9999 ∧ x % 100 ≤ x / 100)) ∧ (a1 = 1 → x = grt (σ.1 σ.2.1.1) (inP σ.2.1.2.1 σ.2.1.2.2)) ∧ (¬ a1 = 1 → x = lst (σ.1 σ.2.1.1) (inP σ.2.1.2.1 σ.2.1.2.2)))) []) 0 0) l 158 1 0 0 0 [some (.ref 26), some (dI (a1)), none, none, none] [] h 0 0
  obtain ⟨r1, q2, u3, w4, us5, er6, eq7, hu8, hw10, au11, aw12, hs13, as14, hr15, sa16, sb17⟩ := MSt_bk hM (k := σ.2.1.1) (by omega) (by omega)
  have hz18 : zF (σ.1 σ.2.1.1) = cv us5 σ.2.1.1 := zF_eq hr15
  have mr19 : isCR r1 := isCR_of er6 (by omega) (by omega)
  have mq20 : isNR q2 := isNR_of eq7 (by omega) (by omega)
  refine di_const rfl ?_
  refine di_istore_n (ls2 := [some (.ref 26), some (dI (a1)), some (dI ((-1))), none, none]) rfl rfl rfl ?_
  refine di_const rfl ?_
  refine di_istore_n (ls2 := [some (.ref 26), some (dI (a1)), some (dI ((-1))), some (dI (0)), none]) rfl rfl rfl ?_
  have L23 : ∀ (n : Nat) (i21 : Int) (i22 : Int), (8 - i22).toNat < n → -1 ≤ i21 → i21 ≤ 9999 → 0 ≤ i22 → i22 ≤ 8 → i22 ≤ cv us5 σ.2.1.1 → (i21 = -1 ∨ (0 ≤ i21 ∧ i21 ≤ 9999 ∧ i21 % 100 ≤ i21 / 100)) → ebP (a1 = 1) i21 (cv u3) (inP σ.2.1.2.1 σ.2.1.2.2) i22 → dm_W (fun _ _ _ => True) (dm_P (QP h (RI (fun x => -1 ≤ x ∧ x ≤ 9999 ∧ (x = -1 ∨ (0 ≤ x ∧ x ≤ 9999 ∧ x % 100 ≤ x / 100)) ∧ (a1 = 1 → x = grt (σ.1 σ.2.1.1) (inP σ.2.1.2.1 σ.2.1.2.2)) ∧ (¬ a1 = 1 → x = lst (σ.1 σ.2.1.1) (inP σ.2.1.2.1 σ.2.1.2.2)))) []) 0 0) l 158 1 0 0 4 [some (.ref 26), some (dI (a1)), some (dI (i21)), some (dI (i22)), none] [] h 0 0 := by
    intro n
    induction n with
    | zero => intro i21 i22 hm; exact absurd hm (Nat.not_lt_zero _)
    | succ n ih =>
      intro i21 i22 hm30 hb24 hb25 hb26 hb27 hx28 hx29 PB
      have ihL23 := ih
      clear ih
      refine dr_iload_n rfl rfl ?_
      refine di_aload_n rfl rfl ?_
      refine dr_getf rfl c26 rfl ?_
      refine di_aload_n rfl rfl ?_
      refine dr_getf rfl c26 rfl ?_
      refine di_iald rfl hs13 as14 (by omega) (by omega) (fun x31 x31f x31a x31b x31v => ?_)
      have x31w : cv us5 σ.2.1.1 = x31 := cv_eq x31v x31a x31b
      have x31g : 0 ≤ x31 ∧ x31 ≤ 8 := x31f
      refine di_icmp_ge rfl rfl (by omega) (by omega) (by omega) (by omega) (fun c32 => ?_) (fun c32 => ?_)
      · skip
        refine dr_iload_n rfl rfl ?_
        exact dr_iret (ty := .int) rfl rfl rfl (by decide) (by decide) ⟨rfl, i21, ⟨by omega, by omega, (by omega : i21 = -1 ∨ (0 ≤ i21 ∧ i21 ≤ 9999 ∧ i21 % 100 ≤ i21 / 100)), eb_e PB hr15 (by omega)⟩, by omega, by omega, rfl⟩
      · skip
        refine di_aload_n rfl rfl ?_
        refine dr_getf rfl c26 rfl ?_
        refine di_aload_n rfl rfl ?_
        refine dr_getf rfl c26 rfl ?_
        have hc33 := I_mcs hI
        refine paaE (k0 := 28) er6 rfl hc33 (by omega) (by omega) ?_
        refine dr_iload_n rfl rfl ?_
        refine di_iald rfl hu8 au11 (by omega) (by omega) (fun x34 x34f x34a x34b x34v => ?_)
        have x34w : cv u3 i22 = x34 := cv_eq x34v x34a x34b
        have x34g : 0 ≤ x34 ∧ x34 ≤ 9999 ∧ x34 % 100 ≤ x34 / 100 := x34f
        refine di_istore (ls2 := [some (.ref 26), some (dI (a1)), some (dI (i21)), some (dI (i22)), some (dI (x34))]) rfl rfl rfl ?_
        refine di_aload_n rfl rfl ?_
        refine dr_iload rfl rfl ?_
        refine dr_virt rfl rfl rfl rfl c26 (n_X8_isInPart l hl hI hM (a1 := x34) (by omega) (by omega)) (by decide) (by decide) (by decide) (Nat.le_of_ble_eq_true rfl) kNP (kIP (fun y35 y35f y35a y35b => ?_))
        have y35g : 0 ≤ y35 ∧ y35 ≤ 1 ∧ (y35 = 1 → (σ.2.1.2.1 = -1 ∨ σ.2.1.2.1 ≤ x34 / 100) ∧ (σ.2.1.2.2 = -1 ∨ x34 / 100 ≤ σ.2.1.2.2)) ∧ (y35 = 0 → (σ.2.1.2.1 ≠ -1 ∧ x34 / 100 < σ.2.1.2.1) ∨ (σ.2.1.2.2 ≠ -1 ∧ σ.2.1.2.2 < x34 / 100)) := y35f
        clear y35f
        refine di_if_eq rfl rfl (by omega) (by omega) (fun c36 => ?_) (fun c36 => ?_)
        · skip
          refine di_iinc (ls2 := [some (.ref 26), some (dI (a1)), some (dI (i21)), some (dI ((i22 + 1))), some (dI (x34))]) rfl rfl rfl rfl ?_
          refine dr_goto rfl rfl ?_
          refine dm_wk (ls2 := [some (.ref 26), some (dI (a1)), some (dI (i21)), some (dI ((i22 + 1))), none]) ⟨Or.inr rfl, Or.inr rfl, Or.inr rfl, Or.inr rfl, Or.inl rfl, trivial⟩ ?_
          exact ihL23 (i21) ((i22 + 1)) (by omega) (by omega) (by omega) (by omega) (by omega) (by omega) (by omega)  (eb_n PB x34w (inP_f (by omega)))
        · skip
          refine dr_iload_n rfl rfl ?_
          refine di_const rfl ?_
          refine di_icmp_eq rfl rfl (by omega) (by omega) (by omega) (by omega) (fun c37 => ?_) (fun c37 => ?_)
          · skip
            refine dr_iload rfl rfl ?_
            refine di_istore_n (ls2 := [some (.ref 26), some (dI (a1)), some (dI (x34)), some (dI (i22)), some (dI (x34))]) rfl rfl rfl ?_
            refine di_iinc (ls2 := [some (.ref 26), some (dI (a1)), some (dI (x34)), some (dI ((i22 + 1))), some (dI (x34))]) rfl rfl rfl rfl ?_
            refine dr_goto rfl rfl ?_
            refine dm_wk (ls2 := [some (.ref 26), some (dI (a1)), some (dI (x34)), some (dI ((i22 + 1))), none]) ⟨Or.inr rfl, Or.inr rfl, Or.inr rfl, Or.inr rfl, Or.inl rfl, trivial⟩ ?_
            exact ihL23 (x34) ((i22 + 1)) (by omega) (by omega) (by omega) (by omega) (by omega) (by omega) (by omega)  (eb_t PB (by omega) x34w (inP_t (by omega)) (by omega) (by omega) (by omega))
          · skip
            refine dr_iload_n rfl rfl ?_
            refine di_if_eq rfl rfl (by omega) (by omega) (fun c38 => ?_) (fun c38 => ?_)
            · skip
              refine dr_iload rfl rfl ?_
              refine dr_iload_n rfl rfl ?_
              refine di_icmp_ge rfl rfl (by omega) (by omega) (by omega) (by omega) (fun c39 => ?_) (fun c39 => ?_)
              · skip
                refine di_iinc (ls2 := [some (.ref 26), some (dI (a1)), some (dI (i21)), some (dI ((i22 + 1))), some (dI (x34))]) rfl rfl rfl rfl ?_
                refine dr_goto rfl rfl ?_
                refine dm_wk (ls2 := [some (.ref 26), some (dI (a1)), some (dI (i21)), some (dI ((i22 + 1))), none]) ⟨Or.inr rfl, Or.inr rfl, Or.inr rfl, Or.inr rfl, Or.inl rfl, trivial⟩ ?_
                exact ihL23 (i21) ((i22 + 1)) (by omega) (by omega) (by omega) (by omega) (by omega) (by omega) (by omega)  (eb_k PB (by omega) x34w (by omega) (by omega))
              · skip
                refine dr_iload rfl rfl ?_
                refine di_istore_n (ls2 := [some (.ref 26), some (dI (a1)), some (dI (x34)), some (dI (i22)), some (dI (x34))]) rfl rfl rfl ?_
                refine di_iinc (ls2 := [some (.ref 26), some (dI (a1)), some (dI (x34)), some (dI ((i22 + 1))), some (dI (x34))]) rfl rfl rfl rfl ?_
                refine dr_goto rfl rfl ?_
                refine dm_wk (ls2 := [some (.ref 26), some (dI (a1)), some (dI (x34)), some (dI ((i22 + 1))), none]) ⟨Or.inr rfl, Or.inr rfl, Or.inr rfl, Or.inr rfl, Or.inl rfl, trivial⟩ ?_
                exact ihL23 (x34) ((i22 + 1)) (by omega) (by omega) (by omega) (by omega) (by omega) (by omega) (by omega)  (eb_t PB (by omega) x34w (inP_t (by omega)) (by omega) (by omega) (by omega))
            · skip
              refine dr_iload rfl rfl ?_
              refine dr_iload_n rfl rfl ?_
              refine di_icmp_le rfl rfl (by omega) (by omega) (by omega) (by omega) (fun c40 => ?_) (fun c40 => ?_)
              · skip
                refine di_iinc (ls2 := [some (.ref 26), some (dI (a1)), some (dI (i21)), some (dI ((i22 + 1))), some (dI (x34))]) rfl rfl rfl rfl ?_
                refine dr_goto rfl rfl ?_
                refine dm_wk (ls2 := [some (.ref 26), some (dI (a1)), some (dI (i21)), some (dI ((i22 + 1))), none]) ⟨Or.inr rfl, Or.inr rfl, Or.inr rfl, Or.inr rfl, Or.inl rfl, trivial⟩ ?_
                exact ihL23 (i21) ((i22 + 1)) (by omega) (by omega) (by omega) (by omega) (by omega) (by omega) (by omega)  (eb_k PB (by omega) x34w (by omega) (by omega))
              · skip
                refine dr_goto rfl rfl ?_
                refine dr_iload rfl rfl ?_
                refine di_istore_n (ls2 := [some (.ref 26), some (dI (a1)), some (dI (x34)), some (dI (i22)), some (dI (x34))]) rfl rfl rfl ?_
                refine di_iinc (ls2 := [some (.ref 26), some (dI (a1)), some (dI (x34)), some (dI ((i22 + 1))), some (dI (x34))]) rfl rfl rfl rfl ?_
                refine dr_goto rfl rfl ?_
                refine dm_wk (ls2 := [some (.ref 26), some (dI (a1)), some (dI (x34)), some (dI ((i22 + 1))), none]) ⟨Or.inr rfl, Or.inr rfl, Or.inr rfl, Or.inr rfl, Or.inl rfl, trivial⟩ ?_
                exact ihL23 (x34) ((i22 + 1)) (by omega) (by omega) (by omega) (by omega) (by omega) (by omega) (by omega)  (eb_t PB (by omega) x34w (inP_t (by omega)) (by omega) (by omega) (by omega))
  exact L23 _ ((-1)) (0) (Nat.lt_succ_self _) (by omega) (by omega) (by omega) (by omega) (by omega) (by omega)  eb_0
set_option maxHeartbeats 4000000 in
set_option maxRecDepth 100000 in
/-- EarlyendsModel.nearest -/
theorem n_X8_nearest (l : Launch) (hl : l.stackTraces = false) {kc km : Int} {h : dm_H} (hI : Inv kc km h) {th : Int} {σ : St} (hM : MSt km th σ h) {a1 : Int} (h1a : 0 ≤ a1) (h1b : a1 ≤ 2) {a2 : Int} (h2a : -2147483648 ≤ a2) (h2b : a2 ≤ 2147483647) {a3 : Int} (h3a : -2147483648 ≤ a3) (h3b : a3 ≤ 2147483647) {r q : Nat} {u w us : List Value} (er : (r : Int) = (28 : Nat) + a1) (eq : (q : Int) = (32 : Nat) + a1) (hu : h[r]? = some (20, u)) (hw : h[q]? = some (20, w)) (au : arr 8 okC u) (aw : arr 8 anyI w) (h35 : h[35]? = some (20, us)) (as : arr 3 okS us) (hr : Rep (cv u) (cv w) (cv us a1) (σ.1 a1)) (s0 : 0 ≤ cv us a1) (s8 : cv us a1 ≤ 8) : dm_M l 178 1 0 0 [.ref 26, dI (a1), dI (a2), dI (a3)] h (QP h (RI (fun x => -1 ≤ x ∧ x ≤ 9999 ∧ (x = -1 ∨ (0 ≤ x ∧ x ≤ 9999 ∧ x % 100 ≤ x / 100)) ∧ (a3 < 2 → x = grt (σ.1 a1) (soP a3 a2)) ∧ (¬ a3 < 2 → x = lst (σ.1 a1) (soP a3 a2)))) []) := by
  obtain ⟨⟨ni, c26, ni0, ni1⟩, ⟨⟨R1, R2⟩, ⟨R3, R4⟩, ⟨R5, R6⟩, ⟨R7, R8⟩, ⟨R9, R10⟩, ⟨R11, R12⟩, R13⟩, ⟨th0, th1⟩, -⟩ := id hM
  have R14 : σ.2.2.2.2.2.1 = -1 ∨ (0 ≤ σ.2.2.2.2.2.1 ∧ σ.2.2.2.2.2.1 ≤ 9999 ∧ σ.2.2.2.2.2.1 % 100 ≤ σ.2.2.2.2.2.1 / 100) := R13
  have mr : isCR r := isCR_of er (by omega) (by omega)
  have mq : isNR q := isNR_of eq (by omega) (by omega)
  refine dm_M_of dk_178 hl rfl (Nat.le_of_ble_eq_true rfl) ?_
  show dm_W (fun _ _ _ => True) (dm_P (QP h (RI (fun x => -1 ≤ x ∧ x ≤ 9999 ∧ (x = -1 ∨ (0 ≤ x ∧ x ≤ 9999 ∧ x % 100 ≤ x / 100)) ∧ (a3 < 2 → x = grt (σ.1 a1) (soP a3 a2)) ∧ (¬ a3 < 2 → x = lst (σ.1 a1) (soP a3 a2)))) []) 0 0) l 178 1 0 0 0 [some (.ref 26), some (dI (a1)), some (dI (a2)), some (dI (a3)), none, none, none] [] h 0 0
  refine di_const rfl ?_
  refine di_istore (ls2 := [some (.ref 26), some (dI (a1)), some (dI (a2)), some (dI (a3)), some (dI ((-1))), none, none]) rfl rfl rfl ?_
  refine di_const rfl ?_
  refine di_istore (ls2 := [some (.ref 26), some (dI (a1)), some (dI (a2)), some (dI (a3)), some (dI ((-1))), some (dI (0)), none]) rfl rfl rfl ?_
  have L3 : ∀ (n : Nat) (i1 : Int) (i2 : Int), (8 - i2).toNat < n → -1 ≤ i1 → i1 ≤ 9999 → 0 ≤ i2 → i2 ≤ 8 → i2 ≤ cv us a1 → (i1 = -1 ∨ (0 ≤ i1 ∧ i1 ≤ 9999 ∧ i1 % 100 ≤ i1 / 100)) → ebP (a3 < 2) i1 (cv u) (soP a3 a2) i2 → dm_W (fun _ _ _ => True) (dm_P (QP h (RI (fun x => -1 ≤ x ∧ x ≤ 9999 ∧ (x = -1 ∨ (0 ≤ x ∧ x ≤ 9999 ∧ x % 100 ≤ x / 100)) ∧ (a3 < 2 → x = grt (σ.1 a1) (soP a3 a2)) ∧ (¬ a3 < 2 → x = lst (σ.1 a1) (soP a3 a2)))) []) 0 0) l 178 1 0 0 6 [some (.ref 26), some (dI (a1)), some (dI (a2)), some (dI (a3)), some (dI (i1)), some (dI (i2)), none] [] h 0 0 := by
    intro n
    induction n with
    | zero => intro i1 i2 hm; exact absurd hm (Nat.not_lt_zero _)
    | succ n ih =>
      intro i1 i2 hm11 hb4 hb5 hb6 hb7 hx8 hx10 PB
      have ihL3 := ih
      clear ih
      refine dr_iload rfl rfl ?_
      refine di_aload_n rfl rfl ?_
      refine dr_getf rfl c26 rfl ?_
      refine dr_iload_n rfl rfl ?_
      refine di_iald rfl h35 as (by omega) (by omega) (fun x12 x12f x12a x12b x12v => ?_)
      have x12w : cv us a1 = x12 := cv_eq x12v x12a x12b
      have x12g : 0 ≤ x12 ∧ x12 ≤ 8 := x12f
      refine di_icmp_ge rfl rfl (by omega) (by omega) (by omega) (by omega) (fun c13 => ?_) (fun c13 => ?_)
      · skip
        refine dr_iload rfl rfl ?_
        exact dr_iret (ty := .int) rfl rfl rfl (by decide) (by decide) ⟨rfl, i1, ⟨by omega, by omega, (by omega : i1 = -1 ∨ (0 ≤ i1 ∧ i1 ≤ 9999 ∧ i1 % 100 ≤ i1 / 100)), eb_e PB hr (by omega)⟩, by omega, by omega, rfl⟩
      · skip
        refine di_aload_n rfl rfl ?_
        refine dr_getf rfl c26 rfl ?_
        refine dr_iload_n rfl rfl ?_
        have hc14 := I_mcs hI
        refine paaE (k0 := 28) er rfl hc14 (by omega) (by omega) ?_
        refine dr_iload rfl rfl ?_
        refine di_iald rfl hu au (by omega) (by omega) (fun x15 x15f x15a x15b x15v => ?_)
        have x15w : cv u i2 = x15 := cv_eq x15v x15a x15b
        have x15g : 0 ≤ x15 ∧ x15 ≤ 9999 ∧ x15 % 100 ≤ x15 / 100 := x15f
        refine di_istore (ls2 := [some (.ref 26), some (dI (a1)), some (dI (a2)), some (dI (a3)), some (dI (i1)), some (dI (i2)), some (dI (x15))]) rfl rfl rfl ?_
        refine dr_iload rfl rfl ?_
        refine dr_iload_n rfl rfl ?_
        refine dr_iload_n rfl rfl ?_
        refine dr_stat rfl rfl rfl rfl (f_X8_isSo l hl hI (a0 := x15) (by omega) (by omega) (a1 := a2) (by omega) (by omega) (a2 := a3) (by omega) (by omega)) (by decide) (by decide) (by decide) (Nat.le_of_ble_eq_true rfl) kNP (kIP (fun y16 y16f y16a y16b => ?_))
        have y16g : 0 ≤ y16 ∧ y16 ≤ 1 ∧ (y16 = 1 → (a3 = 0 ∧ x15 < a2) ∨ (a3 = 1 ∧ x15 ≤ a2) ∨ (a3 = 2 ∧ a2 ≤ x15) ∨ ((a3 ≠ 0 ∧ a3 ≠ 1 ∧ a3 ≠ 2) ∧ a2 < x15)) ∧ (y16 = 0 → ¬ ((a3 = 0 ∧ x15 < a2) ∨ (a3 = 1 ∧ x15 ≤ a2) ∨ (a3 = 2 ∧ a2 ≤ x15) ∨ ((a3 ≠ 0 ∧ a3 ≠ 1 ∧ a3 ≠ 2) ∧ a2 < x15))) := y16f
        clear y16f
        refine di_if_eq rfl rfl (by omega) (by omega) (fun c17 => ?_) (fun c17 => ?_)
        · skip
          refine di_iinc (ls2 := [some (.ref 26), some (dI (a1)), some (dI (a2)), some (dI (a3)), some (dI (i1)), some (dI ((i2 + 1))), some (dI (x15))]) rfl rfl rfl rfl ?_
          refine dr_goto rfl rfl ?_
          refine dm_wk (ls2 := [some (.ref 26), some (dI (a1)), some (dI (a2)), some (dI (a3)), some (dI (i1)), some (dI ((i2 + 1))), none]) ⟨Or.inr rfl, Or.inr rfl, Or.inr rfl, Or.inr rfl, Or.inr rfl, Or.inr rfl, Or.inl rfl, trivial⟩ ?_
          exact ihL3 (i1) ((i2 + 1)) (by omega) (by omega) (by omega) (by omega) (by omega) (by omega) (by omega)  (eb_n PB x15w (soP_f (by omega)))
        · skip
          refine dr_iload rfl rfl ?_
          refine di_const rfl ?_
          refine di_icmp_eq rfl rfl (by omega) (by omega) (by omega) (by omega) (fun c18 => ?_) (fun c18 => ?_)
          · skip
            refine dr_iload rfl rfl ?_
            refine di_istore (ls2 := [some (.ref 26), some (dI (a1)), some (dI (a2)), some (dI (a3)), some (dI (x15)), some (dI (i2)), some (dI (x15))]) rfl rfl rfl ?_
            refine di_iinc (ls2 := [some (.ref 26), some (dI (a1)), some (dI (a2)), some (dI (a3)), some (dI (x15)), some (dI ((i2 + 1))), some (dI (x15))]) rfl rfl rfl rfl ?_
            refine dr_goto rfl rfl ?_
            refine dm_wk (ls2 := [some (.ref 26), some (dI (a1)), some (dI (a2)), some (dI (a3)), some (dI (x15)), some (dI ((i2 + 1))), none]) ⟨Or.inr rfl, Or.inr rfl, Or.inr rfl, Or.inr rfl, Or.inr rfl, Or.inr rfl, Or.inl rfl, trivial⟩ ?_
            exact ihL3 (x15) ((i2 + 1)) (by omega) (by omega) (by omega) (by omega) (by omega) (by omega) (by omega)  (eb_t PB (by omega) x15w (soP_t (by omega)) (by omega) (by omega) (by omega))
          · skip
            refine dr_iload_n rfl rfl ?_
            refine di_const rfl ?_
            refine di_icmp_ge rfl rfl (by omega) (by omega) (by omega) (by omega) (fun c19 => ?_) (fun c19 => ?_)
            · skip
              refine dr_iload rfl rfl ?_
              refine dr_iload rfl rfl ?_
              refine di_icmp_ge rfl rfl (by omega) (by omega) (by omega) (by omega) (fun c20 => ?_) (fun c20 => ?_)
              · skip
                refine di_iinc (ls2 := [some (.ref 26), some (dI (a1)), some (dI (a2)), some (dI (a3)), some (dI (i1)), some (dI ((i2 + 1))), some (dI (x15))]) rfl rfl rfl rfl ?_
                refine dr_goto rfl rfl ?_
                refine dm_wk (ls2 := [some (.ref 26), some (dI (a1)), some (dI (a2)), some (dI (a3)), some (dI (i1)), some (dI ((i2 + 1))), none]) ⟨Or.inr rfl, Or.inr rfl, Or.inr rfl, Or.inr rfl, Or.inr rfl, Or.inr rfl, Or.inl rfl, trivial⟩ ?_
                exact ihL3 (i1) ((i2 + 1)) (by omega) (by omega) (by omega) (by omega) (by omega) (by omega) (by omega)  (eb_k PB (by omega) x15w (by omega) (by omega))
              · skip
                refine dr_iload rfl rfl ?_
                refine di_istore (ls2 := [some (.ref 26), some (dI (a1)), some (dI (a2)), some (dI (a3)), some (dI (x15)), some (dI (i2)), some (dI (x15))]) rfl rfl rfl ?_
                refine di_iinc (ls2 := [some (.ref 26), some (dI (a1)), some (dI (a2)), some (dI (a3)), some (dI (x15)), some (dI ((i2 + 1))), some (dI (x15))]) rfl rfl rfl rfl ?_
                refine dr_goto rfl rfl ?_
                refine dm_wk (ls2 := [some (.ref 26), some (dI (a1)), some (dI (a2)), some (dI (a3)), some (dI (x15)), some (dI ((i2 + 1))), none]) ⟨Or.inr rfl, Or.inr rfl, Or.inr rfl, Or.inr rfl, Or.inr rfl, Or.inr rfl, Or.inl rfl, trivial⟩ ?_
                exact ihL3 (x15) ((i2 + 1)) (by omega) (by omega) (by omega) (by omega) (by omega) (by omega) (by omega)  (eb_t PB (by omega) x15w (soP_t (by omega)) (by omega) (by omega) (by omega))
            · skip
              refine dr_iload rfl rfl ?_
              refine dr_iload rfl rfl ?_
              refine di_icmp_le rfl rfl (by omega) (by omega) (by omega) (by omega) (fun c21 => ?_) (fun c21 => ?_)
              · skip
                refine di_iinc (ls2 := [some (.ref 26), some (dI (a1)), some (dI (a2)), some (dI (a3)), some (dI (i1)), some (dI ((i2 + 1))), some (dI (x15))]) rfl rfl rfl rfl ?_
                refine dr_goto rfl rfl ?_
                refine dm_wk (ls2 := [some (.ref 26), some (dI (a1)), some (dI (a2)), some (dI (a3)), some (dI (i1)), some (dI ((i2 + 1))), none]) ⟨Or.inr rfl, Or.inr rfl, Or.inr rfl, Or.inr rfl, Or.inr rfl, Or.inr rfl, Or.inl rfl, trivial⟩ ?_
                exact ihL3 (i1) ((i2 + 1)) (by omega) (by omega) (by omega) (by omega) (by omega) (by omega) (by omega)  (eb_k PB (by omega) x15w (by omega) (by omega))
              · skip
                refine dr_goto rfl rfl ?_
                refine dr_iload rfl rfl ?_
                refine di_istore (ls2 := [some (.ref 26), some (dI (a1)), some (dI (a2)), some (dI (a3)), some (dI (x15)), some (dI (i2)), some (dI (x15))]) rfl rfl rfl ?_
                refine di_iinc (ls2 := [some (.ref 26), some (dI (a1)), some (dI (a2)), some (dI (a3)), some (dI (x15)), some (dI ((i2 + 1))), some (dI (x15))]) rfl rfl rfl rfl ?_
                refine dr_goto rfl rfl ?_
                refine dm_wk (ls2 := [some (.ref 26), some (dI (a1)), some (dI (a2)), some (dI (a3)), some (dI (x15)), some (dI ((i2 + 1))), none]) ⟨Or.inr rfl, Or.inr rfl, Or.inr rfl, Or.inr rfl, Or.inr rfl, Or.inr rfl, Or.inl rfl, trivial⟩ ?_
                exact ihL3 (x15) ((i2 + 1)) (by omega) (by omega) (by omega) (by omega) (by omega) (by omega) (by omega)  (eb_t PB (by omega) x15w (soP_t (by omega)) (by omega) (by omega) (by omega))
  exact L3 _ ((-1)) (0) (Nat.lt_succ_self _) (by omega) (by omega) (by omega) (by omega) (by omega) (by omega)  eb_0
set_option maxHeartbeats 4000000 in
set_option maxRecDepth 100000 in
/-- EarlyendsModel.more -/
theorem n_X8_more (l : Launch) (hl : l.stackTraces = false) {kc km : Int} {h : dm_H} (hI : Inv kc km h) {th : Int} {σ : St} (hM : MSt km th σ h) {a1 : Int} (h1a : -2147483648 ≤ a1) (h1b : a1 ≤ 2147483647) {a2 : Int} (h2a : -2147483648 ≤ a2) (h2b : a2 ≤ 2147483647) {a3 : Int} (h3a : -2147483648 ≤ a3) (h3b : a3 ≤ 2147483647) {a4 : Int} (h4a : -2147483648 ≤ a4) (h4b : a4 ≤ 2147483647) : dm_M l 145 8 0 0 [.ref 26, dI (a1), dI (a2), dI (a3), dI (a4)] h (QM9 kc km h (spMore σ a1 a2 a3 a4)) := by
  obtain ⟨⟨ni, c26, ni0, ni1⟩, ⟨⟨R1, R2⟩, ⟨R3, R4⟩, ⟨R5, R6⟩, ⟨R7, R8⟩, ⟨R9, R10⟩, ⟨R11, R12⟩, R13⟩, ⟨th0, th1⟩, -⟩ := id hM
  have R14 : σ.2.2.2.2.2.1 = -1 ∨ (0 ≤ σ.2.2.2.2.2.1 ∧ σ.2.2.2.2.2.1 ≤ 9999 ∧ σ.2.2.2.2.2.1 % 100 ≤ σ.2.2.2.2.2.1 / 100) := R13
  refine dm_M_of dk_145 hl rfl (Nat.le_of_ble_eq_true rfl) ?_
  show dm_W (fun _ _ _ => True) (dm_P (QM9 kc km h (spMore σ a1 a2 a3 a4)) 0 0) l 145 8 0 0 0 [some (.ref 26), some (dI (a1)), some (dI (a2)), some (dI (a3)), some (dI (a4)), none, none] [] h 0 0
  refine di_aload_n rfl rfl ?_
  refine dr_iload_n rfl rfl ?_
  refine dr_iload_n rfl rfl ?_
  refine dr_iload_n rfl rfl ?_
  refine dr_iload rfl rfl ?_
  refine dr_virt rfl rfl rfl rfl c26 (n_X8_isWrong l hl hI hM (a1 := a1) (by omega) (by omega) (a2 := a2) (by omega) (by omega) (a3 := a3) (by omega) (by omega) (a4 := a4) (by omega) (by omega)) (by decide) (by decide) (by decide) (Nat.le_of_ble_eq_true rfl) kNQN (kNQ (fun h1 hI2 hF3 hM4 => ?_))
  have hF5 := FrM_tr FrM_rf hF3
  rcases wr_d a1 a2 a3 a4 with ⟨wq6, wq6e, wq6t⟩ | ⟨wq6, wq6e, wq6t⟩
  · skip
    rw [wq6e]
    have hM7 := hM4
    rw [wq6t] at hM7
    refine di_if_eq rfl rfl (by omega) (by omega) (fun _ => ?_) (fun c9 => by exfalso; omega)
    refine di_aload_n rfl rfl ?_
    refine dr_iload_n rfl rfl ?_
    refine di_bipush rfl (by decide) ?_
    refine dr_iload_n rfl rfl ?_
    refine di_imul rfl ?_
    refine dr_iload_n rfl rfl ?_
    refine di_iadd rfl ?_
    obtain ⟨⟨ni8, ni8c, ni8a, ni8b⟩, -⟩ := id hM7
    obtain ⟨r10, q11, u12, w13, us14, er15, eq16, hu17, hw18, au19, aw20, hs21, as22, hr23, sa24, sb25⟩ := MSt_bk hM7 (k := a1) (by omega) (by omega)
    have hz26 : zF (σ.1 a1) = cv us14 a1 := zF_eq hr23
    have mr27 : isCR r10 := isCR_of er15 (by omega) (by omega)
    have mq28 : isNR q11 := isNR_of eq16 (by omega) (by omega)
    refine dr_virt rfl rfl rfl rfl ni8c (n_X8_noteAt l hl hI2 hM7 (a1 := a1) (by omega) (by omega) (a2 := ((100 * a3) + a2)) (by omega) (by omega) er15 eq16 hu17 hw18 au19 aw20 hs21 as22 hr23 sa24 sb25) (by decide) (by decide) (by decide) (Nat.le_of_ble_eq_true rfl) kNP (kIP (fun y29 y29f y29a y29b => ?_))
    obtain ⟨y29c, y29d, y29n⟩ := y29f
    subst y29n
    refine di_istore (ls2 := [some (.ref 26), some (dI (a1)), some (dI (a2)), some (dI (a3)), some (dI (a4)), some (dI ((σ.1 a1 ((100 * a3) + a2)))), none]) rfl rfl rfl ?_
    refine dr_iload rfl rfl ?_
    refine di_const rfl ?_
    refine di_icmp_ne rfl rfl (by omega) (by omega) (by omega) (by omega) (fun c30 => ?_) (fun c30 => ?_)
    · skip
      refine dr_iload rfl rfl ?_
      refine dr_iload rfl rfl ?_
      refine di_iadd rfl ?_
      refine di_bipush rfl (by decide) ?_
      refine di_irem rfl (by omega) (by omega) (by omega) (by omega) ?_
      refine di_istore (ls2 := [some (.ref 26), some (dI (a1)), some (dI (a2)), some (dI (a3)), some (dI (a4)), some (dI ((σ.1 a1 ((100 * a3) + a2)))), some (dI ((((σ.1 a1 ((100 * a3) + a2)) + a4) % 100)))]) rfl rfl rfl ?_
      refine di_aload_n rfl rfl ?_
      refine dr_iload_n rfl rfl ?_
      refine di_bipush rfl (by decide) ?_
      refine dr_iload_n rfl rfl ?_
      refine di_imul rfl ?_
      refine dr_iload_n rfl rfl ?_
      refine di_iadd rfl ?_
      refine dr_iload rfl rfl ?_
      have pb31 := sPut_b (c := ((100 * a3) + a2)) (x := (((σ.1 a1 ((100 * a3) + a2)) + a4) % 100)) hr23
      refine dr_virt rfl rfl rfl rfl ni8c (n_X8_putIn l hl hI2 hM7 (a1 := a1) (by omega) (by omega) (a2 := ((100 * a3) + a2)) (by omega) (by omega) (a3 := (((σ.1 a1 ((100 * a3) + a2)) + a4) % 100)) (by omega) (by omega) er15 eq16 hu17 hw18 au19 aw20 hs21 as22 hr23 sa24 sb25 (by omega)) (by decide) (by decide) (by decide) (Nat.le_of_ble_eq_true rfl) kNQN (kNQ (fun h32 hI33 hF34 hM35 => ?_))
      have hF36 := FrM_tr hF5 hF34
      rcases sPut_cs σ a1 ((100 * a3) + a2) (((σ.1 a1 ((100 * a3) + a2)) + a4) % 100) with ⟨pq37, pq37e⟩ | ⟨pq37, pq37b, pq37e⟩ | ⟨pq37, pq37b, pq37e⟩
      · skip
        rw [pq37e]
        have hM38 : MSt km 0 (stN σ a1 (up (σ.1 a1) ((100 * a3) + a2) (((σ.1 a1 ((100 * a3) + a2)) + a4) % 100))) h32 := by have q9 := hM35; rw [pq37e] at q9; exact q9
        show dm_W (fun _ _ _ => True) (dm_P (QM9 kc km h (spMore σ a1 a2 a3 a4)) 0 0) l 145 8 0 0 61 [some (.ref 26), some (dI (a1)), some (dI (a2)), some (dI (a3)), some (dI (a4)), some (dI ((σ.1 a1 ((100 * a3) + a2)))), some (dI ((((σ.1 a1 ((100 * a3) + a2)) + a4) % 100)))] [dI ((σ.1 a1 ((100 * a3) + a2)))] h32 0 0
        refine di_bipush rfl (by decide) ?_
        refine di_icmp_ne rfl rfl (by omega) (by omega) (by omega) (by omega) (fun c39 => ?_) (fun c39 => ?_)
        · skip
          refine dr_iload rfl rfl ?_
          exact dr_iret (ty := .int) rfl rfl rfl (by decide) (by decide) (QM_ok hI33 hF36 hM38 (by omega) (by omega) (by unfold spMore; (try unfold sMore); (repeat' split) <;> first | rfl | (exfalso; omega) | (apply Prod.ext <;> first | rfl | (dsimp only; omega) | (apply Prod.ext <;> first | rfl | (dsimp only; omega)))))
        · skip
          refine di_bipush rfl (by decide) ?_
          refine dr_goto rfl rfl ?_
          exact dr_iret (ty := .int) rfl rfl rfl (by decide) (by decide) (QM_ok hI33 hF36 hM38 (by omega) (by omega) (by unfold spMore; (try unfold sMore); (repeat' split) <;> first | rfl | (exfalso; omega) | (apply Prod.ext <;> first | rfl | (dsimp only; omega) | (apply Prod.ext <;> first | rfl | (dsimp only; omega)))))
      · skip
        rw [pq37e]
        have hM40 : MSt km 0 (stM σ a1 (up (σ.1 a1) ((100 * a3) + a2) (((σ.1 a1 ((100 * a3) + a2)) + a4) % 100))) h32 := by have q9 := hM35; rw [pq37e] at q9; exact q9
        show dm_W (fun _ _ _ => True) (dm_P (QM9 kc km h (spMore σ a1 a2 a3 a4)) 0 0) l 145 8 0 0 61 [some (.ref 26), some (dI (a1)), some (dI (a2)), some (dI (a3)), some (dI (a4)), some (dI ((σ.1 a1 ((100 * a3) + a2)))), some (dI ((((σ.1 a1 ((100 * a3) + a2)) + a4) % 100)))] [dI ((-1))] h32 0 0
        refine di_bipush rfl (by decide) ?_
        refine di_icmp_ne rfl rfl (by omega) (by omega) (by omega) (by omega) (fun c41 => ?_) (fun c41 => ?_)
        · skip
          refine dr_iload rfl rfl ?_
          exact dr_iret (ty := .int) rfl rfl rfl (by decide) (by decide) (QM_ok hI33 hF36 hM40 (by omega) (by omega) (by unfold spMore; (try unfold sMore); (repeat' split) <;> first | rfl | (exfalso; omega) | (apply Prod.ext <;> first | rfl | (dsimp only; omega) | (apply Prod.ext <;> first | rfl | (dsimp only; omega)))))
        · skip
          refine di_bipush rfl (by decide) ?_
          refine dr_goto rfl rfl ?_
          exact dr_iret (ty := .int) rfl rfl rfl (by decide) (by decide) (QM_ok hI33 hF36 hM40 (by omega) (by omega) (by unfold spMore; (try unfold sMore); (repeat' split) <;> first | rfl | (exfalso; omega) | (apply Prod.ext <;> first | rfl | (dsimp only; omega) | (apply Prod.ext <;> first | rfl | (dsimp only; omega)))))
      · skip
        rw [pq37e]
        have hM42 : MSt km 0 (rf σ) h32 := by have q9 := hM35; rw [pq37e] at q9; exact q9
        show dm_W (fun _ _ _ => True) (dm_P (QM9 kc km h (spMore σ a1 a2 a3 a4)) 0 0) l 145 8 0 0 61 [some (.ref 26), some (dI (a1)), some (dI (a2)), some (dI (a3)), some (dI (a4)), some (dI ((σ.1 a1 ((100 * a3) + a2)))), some (dI ((((σ.1 a1 ((100 * a3) + a2)) + a4) % 100)))] [dI ((-9))] h32 0 0
        refine di_bipush rfl (by decide) ?_
        refine di_icmp_ne rfl rfl (by omega) (by omega) (by omega) (by omega) (fun c43 => ?_) (fun c43 => ?_)
        · skip
          refine dr_iload rfl rfl ?_
          exact dr_iret (ty := .int) rfl rfl rfl (by decide) (by decide) (QM_ok hI33 hF36 hM42 (by omega) (by omega) (by unfold spMore; (try unfold sMore); (repeat' split) <;> first | rfl | (exfalso; omega) | (apply Prod.ext <;> first | rfl | (dsimp only; omega) | (apply Prod.ext <;> first | rfl | (dsimp only; omega)))))
        · skip
          refine di_bipush rfl (by decide) ?_
          refine dr_goto rfl rfl ?_
          exact dr_iret (ty := .int) rfl rfl rfl (by decide) (by decide) (QM_ok hI33 hF36 hM42 (by omega) (by omega) (by unfold spMore; (try unfold sMore); (repeat' split) <;> first | rfl | (exfalso; omega) | (apply Prod.ext <;> first | rfl | (dsimp only; omega) | (apply Prod.ext <;> first | rfl | (dsimp only; omega)))))
    · skip
      refine dr_iload rfl rfl ?_
      refine dr_goto rfl rfl ?_
      refine di_istore (ls2 := [some (.ref 26), some (dI (a1)), some (dI (a2)), some (dI (a3)), some (dI (a4)), some (dI ((σ.1 a1 ((100 * a3) + a2)))), some (dI (a4))]) rfl rfl rfl ?_
      refine di_aload_n rfl rfl ?_
      refine dr_iload_n rfl rfl ?_
      refine di_bipush rfl (by decide) ?_
      refine dr_iload_n rfl rfl ?_
      refine di_imul rfl ?_
      refine dr_iload_n rfl rfl ?_
      refine di_iadd rfl ?_
      refine dr_iload rfl rfl ?_
      have pb44 := sPut_b (c := ((100 * a3) + a2)) (x := a4) hr23
      refine dr_virt rfl rfl rfl rfl ni8c (n_X8_putIn l hl hI2 hM7 (a1 := a1) (by omega) (by omega) (a2 := ((100 * a3) + a2)) (by omega) (by omega) (a3 := a4) (by omega) (by omega) er15 eq16 hu17 hw18 au19 aw20 hs21 as22 hr23 sa24 sb25 (by omega)) (by decide) (by decide) (by decide) (Nat.le_of_ble_eq_true rfl) kNQN (kNQ (fun h45 hI46 hF47 hM48 => ?_))
      have hF49 := FrM_tr hF5 hF47
      rcases sPut_cs σ a1 ((100 * a3) + a2) a4 with ⟨pq50, pq50e⟩ | ⟨pq50, pq50b, pq50e⟩ | ⟨pq50, pq50b, pq50e⟩
      · skip
        rw [pq50e]
        have hM51 : MSt km 0 (stN σ a1 (up (σ.1 a1) ((100 * a3) + a2) a4)) h45 := by have q9 := hM48; rw [pq50e] at q9; exact q9
        show dm_W (fun _ _ _ => True) (dm_P (QM9 kc km h (spMore σ a1 a2 a3 a4)) 0 0) l 145 8 0 0 61 [some (.ref 26), some (dI (a1)), some (dI (a2)), some (dI (a3)), some (dI (a4)), some (dI ((σ.1 a1 ((100 * a3) + a2)))), some (dI (a4))] [dI ((σ.1 a1 ((100 * a3) + a2)))] h45 0 0
        refine di_bipush rfl (by decide) ?_
        refine di_icmp_ne rfl rfl (by omega) (by omega) (by omega) (by omega) (fun c52 => ?_) (fun c52 => ?_)
        · skip
          refine dr_iload rfl rfl ?_
          exact dr_iret (ty := .int) rfl rfl rfl (by decide) (by decide) (QM_ok hI46 hF49 hM51 (by omega) (by omega) (by unfold spMore; (try unfold sMore); (repeat' split) <;> first | rfl | (exfalso; omega) | (apply Prod.ext <;> first | rfl | (dsimp only; omega) | (apply Prod.ext <;> first | rfl | (dsimp only; omega)))))
        · skip
          refine di_bipush rfl (by decide) ?_
          refine dr_goto rfl rfl ?_
          exact dr_iret (ty := .int) rfl rfl rfl (by decide) (by decide) (QM_ok hI46 hF49 hM51 (by omega) (by omega) (by unfold spMore; (try unfold sMore); (repeat' split) <;> first | rfl | (exfalso; omega) | (apply Prod.ext <;> first | rfl | (dsimp only; omega) | (apply Prod.ext <;> first | rfl | (dsimp only; omega)))))
      · skip
        rw [pq50e]
        have hM53 : MSt km 0 (stM σ a1 (up (σ.1 a1) ((100 * a3) + a2) a4)) h45 := by have q9 := hM48; rw [pq50e] at q9; exact q9
        show dm_W (fun _ _ _ => True) (dm_P (QM9 kc km h (spMore σ a1 a2 a3 a4)) 0 0) l 145 8 0 0 61 [some (.ref 26), some (dI (a1)), some (dI (a2)), some (dI (a3)), some (dI (a4)), some (dI ((σ.1 a1 ((100 * a3) + a2)))), some (dI (a4))] [dI ((-1))] h45 0 0
        refine di_bipush rfl (by decide) ?_
        refine di_icmp_ne rfl rfl (by omega) (by omega) (by omega) (by omega) (fun c54 => ?_) (fun c54 => ?_)
        · skip
          refine dr_iload rfl rfl ?_
          exact dr_iret (ty := .int) rfl rfl rfl (by decide) (by decide) (QM_ok hI46 hF49 hM53 (by omega) (by omega) (by unfold spMore; (try unfold sMore); (repeat' split) <;> first | rfl | (exfalso; omega) | (apply Prod.ext <;> first | rfl | (dsimp only; omega) | (apply Prod.ext <;> first | rfl | (dsimp only; omega)))))
        · skip
          refine di_bipush rfl (by decide) ?_
          refine dr_goto rfl rfl ?_
          exact dr_iret (ty := .int) rfl rfl rfl (by decide) (by decide) (QM_ok hI46 hF49 hM53 (by omega) (by omega) (by unfold spMore; (try unfold sMore); (repeat' split) <;> first | rfl | (exfalso; omega) | (apply Prod.ext <;> first | rfl | (dsimp only; omega) | (apply Prod.ext <;> first | rfl | (dsimp only; omega)))))
      · skip
        rw [pq50e]
        have hM55 : MSt km 0 (rf σ) h45 := by have q9 := hM48; rw [pq50e] at q9; exact q9
        show dm_W (fun _ _ _ => True) (dm_P (QM9 kc km h (spMore σ a1 a2 a3 a4)) 0 0) l 145 8 0 0 61 [some (.ref 26), some (dI (a1)), some (dI (a2)), some (dI (a3)), some (dI (a4)), some (dI ((σ.1 a1 ((100 * a3) + a2)))), some (dI (a4))] [dI ((-9))] h45 0 0
        refine di_bipush rfl (by decide) ?_
        refine di_icmp_ne rfl rfl (by omega) (by omega) (by omega) (by omega) (fun c56 => ?_) (fun c56 => ?_)
        · skip
          refine dr_iload rfl rfl ?_
          exact dr_iret (ty := .int) rfl rfl rfl (by decide) (by decide) (QM_ok hI46 hF49 hM55 (by omega) (by omega) (by unfold spMore; (try unfold sMore); (repeat' split) <;> first | rfl | (exfalso; omega) | (apply Prod.ext <;> first | rfl | (dsimp only; omega) | (apply Prod.ext <;> first | rfl | (dsimp only; omega)))))
        · skip
          refine di_bipush rfl (by decide) ?_
          refine dr_goto rfl rfl ?_
          exact dr_iret (ty := .int) rfl rfl rfl (by decide) (by decide) (QM_ok hI46 hF49 hM55 (by omega) (by omega) (by unfold spMore; (try unfold sMore); (repeat' split) <;> first | rfl | (exfalso; omega) | (apply Prod.ext <;> first | rfl | (dsimp only; omega) | (apply Prod.ext <;> first | rfl | (dsimp only; omega)))))
  · skip
    rw [wq6e]
    have wq6z : wrT a1 a2 a3 a4 ≠ 0 := wq6t
    refine di_if_eq rfl rfl (by omega) (by omega) (fun c9 => by exfalso; omega) (fun _ => ?_)
    refine di_const rfl ?_
    exact dr_iret (ty := .int) rfl rfl rfl (by decide) (by decide) (QM_no (x := 0) hI2 hF5 hM4 (by omega) (by omega) (by omega) (by unfold spMore; (try unfold sMore); unfold wrT; (repeat' split) <;> first | rfl | (exfalso; omega) | (apply Prod.ext <;> first | rfl | (dsimp only; omega) | (apply Prod.ext <;> first | rfl | (dsimp only; omega)))))
set_option maxHeartbeats 4000000 in
set_option maxRecDepth 100000 in
/-- EarlyendsModel.part -/
theorem n_X8_part (l : Launch) (hl : l.stackTraces = false) {kc km : Int} {h : dm_H} (hI : Inv kc km h) {th : Int} {σ : St} (hM : MSt km th σ h) {a1 : Int} (h1a : -2147483648 ≤ a1) (h1b : a1 ≤ 2147483647) {a2 : Int} (h2a : -2147483648 ≤ a2) (h2b : a2 ≤ 2147483647) {a3 : Int} (h3a : -2147483648 ≤ a3) (h3b : a3 ≤ 2147483647) : dm_M l 159 8 0 0 [.ref 26, dI (a1), dI (a2), dI (a3)] h (QM9 kc km h (spPart σ a1 a2 a3)) := by
  obtain ⟨⟨ni, c26, ni0, ni1⟩, ⟨⟨R1, R2⟩, ⟨R3, R4⟩, ⟨R5, R6⟩, ⟨R7, R8⟩, ⟨R9, R10⟩, ⟨R11, R12⟩, R13⟩, ⟨th0, th1⟩, -⟩ := id hM
  have R14 : σ.2.2.2.2.2.1 = -1 ∨ (0 ≤ σ.2.2.2.2.2.1 ∧ σ.2.2.2.2.2.1 ≤ 9999 ∧ σ.2.2.2.2.2.1 % 100 ≤ σ.2.2.2.2.2.1 / 100) := R13
  refine dm_M_of dk_159 hl rfl (Nat.le_of_ble_eq_true rfl) ?_
  show dm_W (fun _ _ _ => True) (dm_P (QM9 kc km h (spPart σ a1 a2 a3)) 0 0) l 159 8 0 0 0 [some (.ref 26), some (dI (a1)), some (dI (a2)), some (dI (a3))] [] h 0 0
  refine di_aload_n rfl rfl ?_
  refine dr_iload_n rfl rfl ?_
  refine dr_stat rfl rfl rfl rfl (f_X8_isNoBook l hl hI (a0 := a1) (by omega) (by omega)) (by decide) (by decide) (by decide) (Nat.le_of_ble_eq_true rfl) kNP (kIP (fun y1 y1f y1a y1b => ?_))
  have y1g : 0 ≤ y1 ∧ y1 ≤ 1 ∧ (y1 = 0 → 0 ≤ a1 ∧ a1 ≤ 2) ∧ (y1 = 1 → a1 < 0 ∨ 2 < a1) := y1f
  clear y1f
  refine di_const rfl ?_
  rcases (by omega : y1 = 0 ∨ y1 = 1) with ey2 | ey2
  · skip
    rw [ey2]
    refine dr_virt rfl rfl rfl rfl c26 (f_X8_start0 l hl hI hM (a2 := 1) (by omega) (by omega)) (by decide) (by decide) (by decide) (Nat.le_of_ble_eq_true rfl) kNQN (kNQ (fun h3 hI4 hF5 hM6 => ?_))
    have hF7 := FrM_tr FrM_rf hF5
    refine di_if_ne rfl rfl (by omega) (by omega) (fun c9 => by exfalso; omega) (fun _ => ?_)
    refine di_aload_n rfl rfl ?_
    refine dr_iload_n rfl rfl ?_
    refine di_const rfl ?_
    refine di_icmp_lt rfl rfl (by omega) (by omega) (by omega) (by omega) (fun c8 => ?_) (fun c8 => ?_)
    · skip
      refine di_const rfl ?_
      refine dr_goto rfl rfl ?_
      refine di_const rfl ?_
      obtain ⟨⟨ni10, ni10c, ni10a, ni10b⟩, -⟩ := id hM6
      refine dr_virt rfl rfl rfl rfl ni10c (f_X8_refuse1 l hl hI4 hM6 (a2 := 2) (by omega) (by omega)) (by decide) (by decide) (by decide) (Nat.le_of_ble_eq_true rfl) kNQN (kNQ (fun h11 hI12 hF13 hM14 => ?_))
      have hF15 := FrM_tr hF7 hF13
      refine di_if_eq rfl rfl (by omega) (by omega) (fun c9 => by exfalso; omega) (fun _ => ?_)
      refine di_const rfl ?_
      exact dr_iret (ty := .int) rfl rfl rfl (by decide) (by decide) (QM_no (x := 0) hI12 hF15 hM14 (by omega) (by omega) (by omega) (by unfold spPart; (repeat' split) <;> first | rfl | (exfalso; omega) | (apply Prod.ext <;> first | rfl | (dsimp only; omega) | (apply Prod.ext <;> first | rfl | (dsimp only; omega)))))
    · skip
      refine dr_iload_n rfl rfl ?_
      refine di_bipush rfl (by decide) ?_
      refine di_icmp_gt rfl rfl (by omega) (by omega) (by omega) (by omega) (fun c16 => ?_) (fun c16 => ?_)
      · skip
        refine di_const rfl ?_
        refine dr_goto rfl rfl ?_
        refine di_const rfl ?_
        obtain ⟨⟨ni17, ni17c, ni17a, ni17b⟩, -⟩ := id hM6
        refine dr_virt rfl rfl rfl rfl ni17c (f_X8_refuse1 l hl hI4 hM6 (a2 := 2) (by omega) (by omega)) (by decide) (by decide) (by decide) (Nat.le_of_ble_eq_true rfl) kNQN (kNQ (fun h18 hI19 hF20 hM21 => ?_))
        have hF22 := FrM_tr hF7 hF20
        refine di_if_eq rfl rfl (by omega) (by omega) (fun c9 => by exfalso; omega) (fun _ => ?_)
        refine di_const rfl ?_
        exact dr_iret (ty := .int) rfl rfl rfl (by decide) (by decide) (QM_no (x := 0) hI19 hF22 hM21 (by omega) (by omega) (by omega) (by unfold spPart; (repeat' split) <;> first | rfl | (exfalso; omega) | (apply Prod.ext <;> first | rfl | (dsimp only; omega) | (apply Prod.ext <;> first | rfl | (dsimp only; omega)))))
      · skip
        refine dr_iload_n rfl rfl ?_
        refine di_const rfl ?_
        refine di_icmp_lt rfl rfl (by omega) (by omega) (by omega) (by omega) (fun c23 => ?_) (fun c23 => ?_)
        · skip
          refine di_const rfl ?_
          refine dr_goto rfl rfl ?_
          refine di_const rfl ?_
          obtain ⟨⟨ni24, ni24c, ni24a, ni24b⟩, -⟩ := id hM6
          refine dr_virt rfl rfl rfl rfl ni24c (f_X8_refuse1 l hl hI4 hM6 (a2 := 2) (by omega) (by omega)) (by decide) (by decide) (by decide) (Nat.le_of_ble_eq_true rfl) kNQN (kNQ (fun h25 hI26 hF27 hM28 => ?_))
          have hF29 := FrM_tr hF7 hF27
          refine di_if_eq rfl rfl (by omega) (by omega) (fun c9 => by exfalso; omega) (fun _ => ?_)
          refine di_const rfl ?_
          exact dr_iret (ty := .int) rfl rfl rfl (by decide) (by decide) (QM_no (x := 0) hI26 hF29 hM28 (by omega) (by omega) (by omega) (by unfold spPart; (repeat' split) <;> first | rfl | (exfalso; omega) | (apply Prod.ext <;> first | rfl | (dsimp only; omega) | (apply Prod.ext <;> first | rfl | (dsimp only; omega)))))
        · skip
          refine dr_iload_n rfl rfl ?_
          refine di_bipush rfl (by decide) ?_
          refine di_icmp_gt rfl rfl (by omega) (by omega) (by omega) (by omega) (fun c30 => ?_) (fun c30 => ?_)
          · skip
            refine di_const rfl ?_
            refine dr_goto rfl rfl ?_
            refine di_const rfl ?_
            obtain ⟨⟨ni31, ni31c, ni31a, ni31b⟩, -⟩ := id hM6
            refine dr_virt rfl rfl rfl rfl ni31c (f_X8_refuse1 l hl hI4 hM6 (a2 := 2) (by omega) (by omega)) (by decide) (by decide) (by decide) (Nat.le_of_ble_eq_true rfl) kNQN (kNQ (fun h32 hI33 hF34 hM35 => ?_))
            have hF36 := FrM_tr hF7 hF34
            refine di_if_eq rfl rfl (by omega) (by omega) (fun c9 => by exfalso; omega) (fun _ => ?_)
            refine di_const rfl ?_
            exact dr_iret (ty := .int) rfl rfl rfl (by decide) (by decide) (QM_no (x := 0) hI33 hF36 hM35 (by omega) (by omega) (by omega) (by unfold spPart; (repeat' split) <;> first | rfl | (exfalso; omega) | (apply Prod.ext <;> first | rfl | (dsimp only; omega) | (apply Prod.ext <;> first | rfl | (dsimp only; omega)))))
          · skip
            refine dr_iload_n rfl rfl ?_
            refine di_if_lt rfl rfl (by omega) (by omega) (fun c37 => ?_) (fun c37 => ?_)
            · skip
              refine di_const rfl ?_
              refine di_const rfl ?_
              obtain ⟨⟨ni38, ni38c, ni38a, ni38b⟩, -⟩ := id hM6
              refine dr_virt rfl rfl rfl rfl ni38c (f_X8_refuse0 l hl hI4 hM6 (a2 := 2) (by omega) (by omega)) (by decide) (by decide) (by decide) (Nat.le_of_ble_eq_true rfl) kNQN (kNQ (fun h39 hI40 hF41 hM42 => ?_))
              have hF43 := FrM_tr hF7 hF41
              refine di_if_eq rfl rfl (by omega) (by omega) (fun _ => ?_) (fun c9 => by exfalso; omega)
              refine di_aload_n rfl rfl ?_
              refine dr_iload_n rfl rfl ?_
              obtain ⟨⟨ni44, ni44c, ni44a, ni44b⟩, -⟩ := id hM42
              refine pfX rfl ni44c (Nat.le_of_ble_eq_true rfl) rfl hI40 (by decide) (T37_md (by omega) (by omega) (by omega) (by omega) (by omega) (by omega) (by omega) (by omega) (by first | assumption | omega)) (fun h45 hI46 hk47 hc48 => ?_)
              have hF49 := FrM_tr hF43 (FrM_I hk47 (by omega) (by omega))
              have hM50 : MSt km 0 (σ.1, (a1, σ.2.1.2.1, σ.2.1.2.2), (σ.2.2.1, σ.2.2.2.1, σ.2.2.2.2.1, σ.2.2.2.2.2.1, σ.2.2.2.2.2.2)) h45 := MSt_md hM42 hk47 (ni' := ni44) hc48 rfl ⟨⟨(show (-1 : Int) ≤ a1 by omega), (show a1 ≤ (2 : Int) by omega)⟩, ⟨(show (-1 : Int) ≤ σ.2.1.2.1 by omega), (show σ.2.1.2.1 ≤ (99 : Int) by omega)⟩, ⟨(show (-1 : Int) ≤ σ.2.1.2.2 by omega), (show σ.2.1.2.2 ≤ (99 : Int) by omega)⟩, ⟨(show (-1 : Int) ≤ σ.2.2.1 by omega), (show σ.2.2.1 ≤ (2 : Int) by omega)⟩, ⟨(show (0 : Int) ≤ σ.2.2.2.1 by omega), (show σ.2.2.2.1 ≤ (1 : Int) by omega)⟩, ⟨(show (-1 : Int) ≤ σ.2.2.2.2.1 by omega), (show σ.2.2.2.2.1 ≤ (9999 : Int) by omega)⟩, (show σ.2.2.2.2.2.1 = -1 ∨ okC σ.2.2.2.2.2.1 by first | assumption | exact Or.inl rfl | exact Or.inr ⟨by omega, by omega, by omega⟩ | exact (by omega : σ.2.2.2.2.2.1 = -1 ∨ (0 ≤ σ.2.2.2.2.2.1 ∧ σ.2.2.2.2.2.1 ≤ 9999 ∧ σ.2.2.2.2.2.1 % 100 ≤ σ.2.2.2.2.2.1 / 100)))⟩ ⟨by omega, by omega⟩ ⟨by omega, by omega, ni44b.2⟩
              refine di_aload_n rfl rfl ?_
              refine dr_iload_n rfl rfl ?_
              refine pfX rfl hc48 (Nat.le_of_ble_eq_true rfl) rfl hI46 (by decide) (T37_md (by omega) (by omega) (by omega) (by omega) (by omega) (by omega) (by omega) (by omega) (by first | assumption | omega)) (fun h51 hI52 hk53 hc54 => ?_)
              have hF55 := FrM_tr hF49 (FrM_I hk53 (by omega) (by omega))
              have hM56 : MSt km 0 (σ.1, (a1, a2, σ.2.1.2.2), (σ.2.2.1, σ.2.2.2.1, σ.2.2.2.2.1, σ.2.2.2.2.2.1, σ.2.2.2.2.2.2)) h51 := MSt_md hM50 hk53 (ni' := ni44) hc54 rfl ⟨⟨(show (-1 : Int) ≤ a1 by omega), (show a1 ≤ (2 : Int) by omega)⟩, ⟨(show (-1 : Int) ≤ a2 by omega), (show a2 ≤ (99 : Int) by omega)⟩, ⟨(show (-1 : Int) ≤ σ.2.1.2.2 by omega), (show σ.2.1.2.2 ≤ (99 : Int) by omega)⟩, ⟨(show (-1 : Int) ≤ σ.2.2.1 by omega), (show σ.2.2.1 ≤ (2 : Int) by omega)⟩, ⟨(show (0 : Int) ≤ σ.2.2.2.1 by omega), (show σ.2.2.2.1 ≤ (1 : Int) by omega)⟩, ⟨(show (-1 : Int) ≤ σ.2.2.2.2.1 by omega), (show σ.2.2.2.2.1 ≤ (9999 : Int) by omega)⟩, (show σ.2.2.2.2.2.1 = -1 ∨ okC σ.2.2.2.2.2.1 by first | assumption | exact Or.inl rfl | exact Or.inr ⟨by omega, by omega, by omega⟩ | exact (by omega : σ.2.2.2.2.2.1 = -1 ∨ (0 ≤ σ.2.2.2.2.2.1 ∧ σ.2.2.2.2.2.1 ≤ 9999 ∧ σ.2.2.2.2.2.1 % 100 ≤ σ.2.2.2.2.2.1 / 100)))⟩ ⟨by omega, by omega⟩ ⟨by omega, by omega, ni44b.2⟩
              refine di_aload_n rfl rfl ?_
              refine dr_iload_n rfl rfl ?_
              refine pfX rfl hc54 (Nat.le_of_ble_eq_true rfl) rfl hI52 (by decide) (T37_md (by omega) (by omega) (by omega) (by omega) (by omega) (by omega) (by omega) (by omega) (by first | assumption | omega)) (fun h57 hI58 hk59 hc60 => ?_)
              have hF61 := FrM_tr hF55 (FrM_I hk59 (by omega) (by omega))
              have hM62 : MSt km 0 (σ.1, (a1, a2, a3), (σ.2.2.1, σ.2.2.2.1, σ.2.2.2.2.1, σ.2.2.2.2.2.1, σ.2.2.2.2.2.2)) h57 := MSt_md hM56 hk59 (ni' := ni44) hc60 rfl ⟨⟨(show (-1 : Int) ≤ a1 by omega), (show a1 ≤ (2 : Int) by omega)⟩, ⟨(show (-1 : Int) ≤ a2 by omega), (show a2 ≤ (99 : Int) by omega)⟩, ⟨(show (-1 : Int) ≤ a3 by omega), (show a3 ≤ (99 : Int) by omega)⟩, ⟨(show (-1 : Int) ≤ σ.2.2.1 by omega), (show σ.2.2.1 ≤ (2 : Int) by omega)⟩, ⟨(show (0 : Int) ≤ σ.2.2.2.1 by omega), (show σ.2.2.2.1 ≤ (1 : Int) by omega)⟩, ⟨(show (-1 : Int) ≤ σ.2.2.2.2.1 by omega), (show σ.2.2.2.2.1 ≤ (9999 : Int) by omega)⟩, (show σ.2.2.2.2.2.1 = -1 ∨ okC σ.2.2.2.2.2.1 by first | assumption | exact Or.inl rfl | exact Or.inr ⟨by omega, by omega, by omega⟩ | exact (by omega : σ.2.2.2.2.2.1 = -1 ∨ (0 ≤ σ.2.2.2.2.2.1 ∧ σ.2.2.2.2.2.1 ≤ 9999 ∧ σ.2.2.2.2.2.1 % 100 ≤ σ.2.2.2.2.2.1 / 100)))⟩ ⟨by omega, by omega⟩ ⟨by omega, by omega, ni44b.2⟩
              refine di_aload_n rfl rfl ?_
              refine dr_virt rfl rfl rfl rfl hc60 (n_X8_partSize l hl hI58 hM62  (show (0 : Int) ≤ a1 by omega)) (by decide) (by decide) (by decide) (Nat.le_of_ble_eq_true rfl) kNP (kIP (fun y63 y63f y63a y63b => ?_))
              obtain ⟨y63c, y63d, y63k⟩ := y63f
              subst y63k
              exact dr_iret (ty := .int) rfl rfl rfl (by decide) (by decide) (QM_ok hI58 hF61 hM62 (by omega) (by omega) (by unfold spPart; (repeat' split) <;> first | rfl | (exfalso; omega) | (apply Prod.ext <;> first | rfl | (dsimp only; omega) | (apply Prod.ext <;> first | rfl | (dsimp only; omega)))))
            · skip
              refine dr_iload_n rfl rfl ?_
              refine di_if_lt rfl rfl (by omega) (by omega) (fun c64 => ?_) (fun c64 => ?_)
              · skip
                refine di_const rfl ?_
                refine di_const rfl ?_
                obtain ⟨⟨ni65, ni65c, ni65a, ni65b⟩, -⟩ := id hM6
                refine dr_virt rfl rfl rfl rfl ni65c (f_X8_refuse0 l hl hI4 hM6 (a2 := 2) (by omega) (by omega)) (by decide) (by decide) (by decide) (Nat.le_of_ble_eq_true rfl) kNQN (kNQ (fun h66 hI67 hF68 hM69 => ?_))
                have hF70 := FrM_tr hF7 hF68
                refine di_if_eq rfl rfl (by omega) (by omega) (fun _ => ?_) (fun c9 => by exfalso; omega)
                refine di_aload_n rfl rfl ?_
                refine dr_iload_n rfl rfl ?_
                obtain ⟨⟨ni71, ni71c, ni71a, ni71b⟩, -⟩ := id hM69
                refine pfX rfl ni71c (Nat.le_of_ble_eq_true rfl) rfl hI67 (by decide) (T37_md (by omega) (by omega) (by omega) (by omega) (by omega) (by omega) (by omega) (by omega) (by first | assumption | omega)) (fun h72 hI73 hk74 hc75 => ?_)
                have hF76 := FrM_tr hF70 (FrM_I hk74 (by omega) (by omega))
                have hM77 : MSt km 0 (σ.1, (a1, σ.2.1.2.1, σ.2.1.2.2), (σ.2.2.1, σ.2.2.2.1, σ.2.2.2.2.1, σ.2.2.2.2.2.1, σ.2.2.2.2.2.2)) h72 := MSt_md hM69 hk74 (ni' := ni71) hc75 rfl ⟨⟨(show (-1 : Int) ≤ a1 by omega), (show a1 ≤ (2 : Int) by omega)⟩, ⟨(show (-1 : Int) ≤ σ.2.1.2.1 by omega), (show σ.2.1.2.1 ≤ (99 : Int) by omega)⟩, ⟨(show (-1 : Int) ≤ σ.2.1.2.2 by omega), (show σ.2.1.2.2 ≤ (99 : Int) by omega)⟩, ⟨(show (-1 : Int) ≤ σ.2.2.1 by omega), (show σ.2.2.1 ≤ (2 : Int) by omega)⟩, ⟨(show (0 : Int) ≤ σ.2.2.2.1 by omega), (show σ.2.2.2.1 ≤ (1 : Int) by omega)⟩, ⟨(show (-1 : Int) ≤ σ.2.2.2.2.1 by omega), (show σ.2.2.2.2.1 ≤ (9999 : Int) by omega)⟩, (show σ.2.2.2.2.2.1 = -1 ∨ okC σ.2.2.2.2.2.1 by first | assumption | exact Or.inl rfl | exact Or.inr ⟨by omega, by omega, by omega⟩ | exact (by omega : σ.2.2.2.2.2.1 = -1 ∨ (0 ≤ σ.2.2.2.2.2.1 ∧ σ.2.2.2.2.2.1 ≤ 9999 ∧ σ.2.2.2.2.2.1 % 100 ≤ σ.2.2.2.2.2.1 / 100)))⟩ ⟨by omega, by omega⟩ ⟨by omega, by omega, ni71b.2⟩
                refine di_aload_n rfl rfl ?_
                refine dr_iload_n rfl rfl ?_
                refine pfX rfl hc75 (Nat.le_of_ble_eq_true rfl) rfl hI73 (by decide) (T37_md (by omega) (by omega) (by omega) (by omega) (by omega) (by omega) (by omega) (by omega) (by first | assumption | omega)) (fun h78 hI79 hk80 hc81 => ?_)
                have hF82 := FrM_tr hF76 (FrM_I hk80 (by omega) (by omega))
                have hM83 : MSt km 0 (σ.1, (a1, a2, σ.2.1.2.2), (σ.2.2.1, σ.2.2.2.1, σ.2.2.2.2.1, σ.2.2.2.2.2.1, σ.2.2.2.2.2.2)) h78 := MSt_md hM77 hk80 (ni' := ni71) hc81 rfl ⟨⟨(show (-1 : Int) ≤ a1 by omega), (show a1 ≤ (2 : Int) by omega)⟩, ⟨(show (-1 : Int) ≤ a2 by omega), (show a2 ≤ (99 : Int) by omega)⟩, ⟨(show (-1 : Int) ≤ σ.2.1.2.2 by omega), (show σ.2.1.2.2 ≤ (99 : Int) by omega)⟩, ⟨(show (-1 : Int) ≤ σ.2.2.1 by omega), (show σ.2.2.1 ≤ (2 : Int) by omega)⟩, ⟨(show (0 : Int) ≤ σ.2.2.2.1 by omega), (show σ.2.2.2.1 ≤ (1 : Int) by omega)⟩, ⟨(show (-1 : Int) ≤ σ.2.2.2.2.1 by omega), (show σ.2.2.2.2.1 ≤ (9999 : Int) by omega)⟩, (show σ.2.2.2.2.2.1 = -1 ∨ okC σ.2.2.2.2.2.1 by first | assumption | exact Or.inl rfl | exact Or.inr ⟨by omega, by omega, by omega⟩ | exact (by omega : σ.2.2.2.2.2.1 = -1 ∨ (0 ≤ σ.2.2.2.2.2.1 ∧ σ.2.2.2.2.2.1 ≤ 9999 ∧ σ.2.2.2.2.2.1 % 100 ≤ σ.2.2.2.2.2.1 / 100)))⟩ ⟨by omega, by omega⟩ ⟨by omega, by omega, ni71b.2⟩
                refine di_aload_n rfl rfl ?_
                refine dr_iload_n rfl rfl ?_
                refine pfX rfl hc81 (Nat.le_of_ble_eq_true rfl) rfl hI79 (by decide) (T37_md (by omega) (by omega) (by omega) (by omega) (by omega) (by omega) (by omega) (by omega) (by first | assumption | omega)) (fun h84 hI85 hk86 hc87 => ?_)
                have hF88 := FrM_tr hF82 (FrM_I hk86 (by omega) (by omega))
                have hM89 : MSt km 0 (σ.1, (a1, a2, a3), (σ.2.2.1, σ.2.2.2.1, σ.2.2.2.2.1, σ.2.2.2.2.2.1, σ.2.2.2.2.2.2)) h84 := MSt_md hM83 hk86 (ni' := ni71) hc87 rfl ⟨⟨(show (-1 : Int) ≤ a1 by omega), (show a1 ≤ (2 : Int) by omega)⟩, ⟨(show (-1 : Int) ≤ a2 by omega), (show a2 ≤ (99 : Int) by omega)⟩, ⟨(show (-1 : Int) ≤ a3 by omega), (show a3 ≤ (99 : Int) by omega)⟩, ⟨(show (-1 : Int) ≤ σ.2.2.1 by omega), (show σ.2.2.1 ≤ (2 : Int) by omega)⟩, ⟨(show (0 : Int) ≤ σ.2.2.2.1 by omega), (show σ.2.2.2.1 ≤ (1 : Int) by omega)⟩, ⟨(show (-1 : Int) ≤ σ.2.2.2.2.1 by omega), (show σ.2.2.2.2.1 ≤ (9999 : Int) by omega)⟩, (show σ.2.2.2.2.2.1 = -1 ∨ okC σ.2.2.2.2.2.1 by first | assumption | exact Or.inl rfl | exact Or.inr ⟨by omega, by omega, by omega⟩ | exact (by omega : σ.2.2.2.2.2.1 = -1 ∨ (0 ≤ σ.2.2.2.2.2.1 ∧ σ.2.2.2.2.2.1 ≤ 9999 ∧ σ.2.2.2.2.2.1 % 100 ≤ σ.2.2.2.2.2.1 / 100)))⟩ ⟨by omega, by omega⟩ ⟨by omega, by omega, ni71b.2⟩
                refine di_aload_n rfl rfl ?_
                refine dr_virt rfl rfl rfl rfl hc87 (n_X8_partSize l hl hI85 hM89  (show (0 : Int) ≤ a1 by omega)) (by decide) (by decide) (by decide) (Nat.le_of_ble_eq_true rfl) kNP (kIP (fun y90 y90f y90a y90b => ?_))
                obtain ⟨y90c, y90d, y90k⟩ := y90f
                subst y90k
                exact dr_iret (ty := .int) rfl rfl rfl (by decide) (by decide) (QM_ok hI85 hF88 hM89 (by omega) (by omega) (by unfold spPart; (repeat' split) <;> first | rfl | (exfalso; omega) | (apply Prod.ext <;> first | rfl | (dsimp only; omega) | (apply Prod.ext <;> first | rfl | (dsimp only; omega)))))
              · skip
                refine dr_iload_n rfl rfl ?_
                refine dr_iload_n rfl rfl ?_
                refine di_icmp_le rfl rfl (by omega) (by omega) (by omega) (by omega) (fun c91 => ?_) (fun c91 => ?_)
                · skip
                  refine di_const rfl ?_
                  refine di_const rfl ?_
                  obtain ⟨⟨ni92, ni92c, ni92a, ni92b⟩, -⟩ := id hM6
                  refine dr_virt rfl rfl rfl rfl ni92c (f_X8_refuse0 l hl hI4 hM6 (a2 := 2) (by omega) (by omega)) (by decide) (by decide) (by decide) (Nat.le_of_ble_eq_true rfl) kNQN (kNQ (fun h93 hI94 hF95 hM96 => ?_))
                  have hF97 := FrM_tr hF7 hF95
                  refine di_if_eq rfl rfl (by omega) (by omega) (fun _ => ?_) (fun c9 => by exfalso; omega)
                  refine di_aload_n rfl rfl ?_
                  refine dr_iload_n rfl rfl ?_
                  obtain ⟨⟨ni98, ni98c, ni98a, ni98b⟩, -⟩ := id hM96
                  refine pfX rfl ni98c (Nat.le_of_ble_eq_true rfl) rfl hI94 (by decide) (T37_md (by omega) (by omega) (by omega) (by omega) (by omega) (by omega) (by omega) (by omega) (by first | assumption | omega)) (fun h99 hI100 hk101 hc102 => ?_)
                  have hF103 := FrM_tr hF97 (FrM_I hk101 (by omega) (by omega))
                  have hM104 : MSt km 0 (σ.1, (a1, σ.2.1.2.1, σ.2.1.2.2), (σ.2.2.1, σ.2.2.2.1, σ.2.2.2.2.1, σ.2.2.2.2.2.1, σ.2.2.2.2.2.2)) h99 := MSt_md hM96 hk101 (ni' := ni98) hc102 rfl ⟨⟨(show (-1 : Int) ≤ a1 by omega), (show a1 ≤ (2 : Int) by omega)⟩, ⟨(show (-1 : Int) ≤ σ.2.1.2.1 by omega), (show σ.2.1.2.1 ≤ (99 : Int) by omega)⟩, ⟨(show (-1 : Int) ≤ σ.2.1.2.2 by omega), (show σ.2.1.2.2 ≤ (99 : Int) by omega)⟩, ⟨(show (-1 : Int) ≤ σ.2.2.1 by omega), (show σ.2.2.1 ≤ (2 : Int) by omega)⟩, ⟨(show (0 : Int) ≤ σ.2.2.2.1 by omega), (show σ.2.2.2.1 ≤ (1 : Int) by omega)⟩, ⟨(show (-1 : Int) ≤ σ.2.2.2.2.1 by omega), (show σ.2.2.2.2.1 ≤ (9999 : Int) by omega)⟩, (show σ.2.2.2.2.2.1 = -1 ∨ okC σ.2.2.2.2.2.1 by first | assumption | exact Or.inl rfl | exact Or.inr ⟨by omega, by omega, by omega⟩ | exact (by omega : σ.2.2.2.2.2.1 = -1 ∨ (0 ≤ σ.2.2.2.2.2.1 ∧ σ.2.2.2.2.2.1 ≤ 9999 ∧ σ.2.2.2.2.2.1 % 100 ≤ σ.2.2.2.2.2.1 / 100)))⟩ ⟨by omega, by omega⟩ ⟨by omega, by omega, ni98b.2⟩
                  refine di_aload_n rfl rfl ?_
                  refine dr_iload_n rfl rfl ?_
                  refine pfX rfl hc102 (Nat.le_of_ble_eq_true rfl) rfl hI100 (by decide) (T37_md (by omega) (by omega) (by omega) (by omega) (by omega) (by omega) (by omega) (by omega) (by first | assumption | omega)) (fun h105 hI106 hk107 hc108 => ?_)
                  have hF109 := FrM_tr hF103 (FrM_I hk107 (by omega) (by omega))
                  have hM110 : MSt km 0 (σ.1, (a1, a2, σ.2.1.2.2), (σ.2.2.1, σ.2.2.2.1, σ.2.2.2.2.1, σ.2.2.2.2.2.1, σ.2.2.2.2.2.2)) h105 := MSt_md hM104 hk107 (ni' := ni98) hc108 rfl ⟨⟨(show (-1 : Int) ≤ a1 by omega), (show a1 ≤ (2 : Int) by omega)⟩, ⟨(show (-1 : Int) ≤ a2 by omega), (show a2 ≤ (99 : Int) by omega)⟩, ⟨(show (-1 : Int) ≤ σ.2.1.2.2 by omega), (show σ.2.1.2.2 ≤ (99 : Int) by omega)⟩, ⟨(show (-1 : Int) ≤ σ.2.2.1 by omega), (show σ.2.2.1 ≤ (2 : Int) by omega)⟩, ⟨(show (0 : Int) ≤ σ.2.2.2.1 by omega), (show σ.2.2.2.1 ≤ (1 : Int) by omega)⟩, ⟨(show (-1 : Int) ≤ σ.2.2.2.2.1 by omega), (show σ.2.2.2.2.1 ≤ (9999 : Int) by omega)⟩, (show σ.2.2.2.2.2.1 = -1 ∨ okC σ.2.2.2.2.2.1 by first | assumption | exact Or.inl rfl | exact Or.inr ⟨by omega, by omega, by omega⟩ | exact (by omega : σ.2.2.2.2.2.1 = -1 ∨ (0 ≤ σ.2.2.2.2.2.1 ∧ σ.2.2.2.2.2.1 ≤ 9999 ∧ σ.2.2.2.2.2.1 % 100 ≤ σ.2.2.2.2.2.1 / 100)))⟩ ⟨by omega, by omega⟩ ⟨by omega, by omega, ni98b.2⟩
                  refine di_aload_n rfl rfl ?_
                  refine dr_iload_n rfl rfl ?_
                  refine pfX rfl hc108 (Nat.le_of_ble_eq_true rfl) rfl hI106 (by decide) (T37_md (by omega) (by omega) (by omega) (by omega) (by omega) (by omega) (by omega) (by omega) (by first | assumption | omega)) (fun h111 hI112 hk113 hc114 => ?_)
                  have hF115 := FrM_tr hF109 (FrM_I hk113 (by omega) (by omega))
                  have hM116 : MSt km 0 (σ.1, (a1, a2, a3), (σ.2.2.1, σ.2.2.2.1, σ.2.2.2.2.1, σ.2.2.2.2.2.1, σ.2.2.2.2.2.2)) h111 := MSt_md hM110 hk113 (ni' := ni98) hc114 rfl ⟨⟨(show (-1 : Int) ≤ a1 by omega), (show a1 ≤ (2 : Int) by omega)⟩, ⟨(show (-1 : Int) ≤ a2 by omega), (show a2 ≤ (99 : Int) by omega)⟩, ⟨(show (-1 : Int) ≤ a3 by omega), (show a3 ≤ (99 : Int) by omega)⟩, ⟨(show (-1 : Int) ≤ σ.2.2.1 by omega), (show σ.2.2.1 ≤ (2 : Int) by omega)⟩, ⟨(show (0 : Int) ≤ σ.2.2.2.1 by omega), (show σ.2.2.2.1 ≤ (1 : Int) by omega)⟩, ⟨(show (-1 : Int) ≤ σ.2.2.2.2.1 by omega), (show σ.2.2.2.2.1 ≤ (9999 : Int) by omega)⟩, (show σ.2.2.2.2.2.1 = -1 ∨ okC σ.2.2.2.2.2.1 by first | assumption | exact Or.inl rfl | exact Or.inr ⟨by omega, by omega, by omega⟩ | exact (by omega : σ.2.2.2.2.2.1 = -1 ∨ (0 ≤ σ.2.2.2.2.2.1 ∧ σ.2.2.2.2.2.1 ≤ 9999 ∧ σ.2.2.2.2.2.1 % 100 ≤ σ.2.2.2.2.2.1 / 100)))⟩ ⟨by omega, by omega⟩ ⟨by omega, by omega, ni98b.2⟩
                  refine di_aload_n rfl rfl ?_
                  refine dr_virt rfl rfl rfl rfl hc114 (n_X8_partSize l hl hI112 hM116  (show (0 : Int) ≤ a1 by omega)) (by decide) (by decide) (by decide) (Nat.le_of_ble_eq_true rfl) kNP (kIP (fun y117 y117f y117a y117b => ?_))
                  obtain ⟨y117c, y117d, y117k⟩ := y117f
                  subst y117k
                  exact dr_iret (ty := .int) rfl rfl rfl (by decide) (by decide) (QM_ok hI112 hF115 hM116 (by omega) (by omega) (by unfold spPart; (repeat' split) <;> first | rfl | (exfalso; omega) | (apply Prod.ext <;> first | rfl | (dsimp only; omega) | (apply Prod.ext <;> first | rfl | (dsimp only; omega)))))
                · skip
                  refine di_const rfl ?_
                  refine dr_goto rfl rfl ?_
                  refine di_const rfl ?_
                  obtain ⟨⟨ni118, ni118c, ni118a, ni118b⟩, -⟩ := id hM6
                  refine dr_virt rfl rfl rfl rfl ni118c (f_X8_refuse1 l hl hI4 hM6 (a2 := 2) (by omega) (by omega)) (by decide) (by decide) (by decide) (Nat.le_of_ble_eq_true rfl) kNQN (kNQ (fun h119 hI120 hF121 hM122 => ?_))
                  have hF123 := FrM_tr hF7 hF121
                  refine di_if_eq rfl rfl (by omega) (by omega) (fun c9 => by exfalso; omega) (fun _ => ?_)
                  refine di_const rfl ?_
                  exact dr_iret (ty := .int) rfl rfl rfl (by decide) (by decide) (QM_no (x := 0) hI120 hF123 hM122 (by omega) (by omega) (by omega) (by unfold spPart; (repeat' split) <;> first | rfl | (exfalso; omega) | (apply Prod.ext <;> first | rfl | (dsimp only; omega) | (apply Prod.ext <;> first | rfl | (dsimp only; omega)))))
  · skip
    rw [ey2]
    refine dr_virt rfl rfl rfl rfl c26 (f_X8_start1 l hl hI hM (a2 := 1) (by omega) (by omega)) (by decide) (by decide) (by decide) (Nat.le_of_ble_eq_true rfl) kNQN (kNQ (fun h124 hI125 hF126 hM127 => ?_))
    have hF128 := FrM_tr FrM_rf hF126
    refine di_if_ne rfl rfl (by omega) (by omega) (fun _ => ?_) (fun c9 => by exfalso; omega)
    refine di_const rfl ?_
    exact dr_iret (ty := .int) rfl rfl rfl (by decide) (by decide) (QM_no (x := 0) hI125 hF128 hM127 (by omega) (by omega) (by omega) (by unfold spPart; (repeat' split) <;> first | rfl | (exfalso; omega) | (apply Prod.ext <;> first | rfl | (dsimp only; omega) | (apply Prod.ext <;> first | rfl | (dsimp only; omega)))))
set_option maxHeartbeats 4000000 in
set_option maxRecDepth 100000 in
/-- EarlyendsModel.narrow -/
theorem n_X8_narrow (l : Launch) (hl : l.stackTraces = false) {kc km : Int} {h : dm_H} (hI : Inv kc km h) {th : Int} {σ : St} (hM : MSt km th σ h) {a1 : Int} (h1a : -2147483648 ≤ a1) (h1b : a1 ≤ 2147483647) {a2 : Int} (h2a : -2147483648 ≤ a2) (h2b : a2 ≤ 2147483647) : dm_M l 160 8 0 0 [.ref 26, dI (a1), dI (a2)] h (QM9 kc km h (spNarrow σ a1 a2)) := by
  obtain ⟨⟨ni, c26, ni0, ni1⟩, ⟨⟨R1, R2⟩, ⟨R3, R4⟩, ⟨R5, R6⟩, ⟨R7, R8⟩, ⟨R9, R10⟩, ⟨R11, R12⟩, R13⟩, ⟨th0, th1⟩, -⟩ := id hM
  have R14 : σ.2.2.2.2.2.1 = -1 ∨ (0 ≤ σ.2.2.2.2.2.1 ∧ σ.2.2.2.2.2.1 ≤ 9999 ∧ σ.2.2.2.2.2.1 % 100 ≤ σ.2.2.2.2.2.1 / 100) := R13
  refine dm_M_of dk_160 hl rfl (Nat.le_of_ble_eq_true rfl) ?_
  show dm_W (fun _ _ _ => True) (dm_P (QM9 kc km h (spNarrow σ a1 a2)) 0 0) l 160 8 0 0 0 [some (.ref 26), some (dI (a1)), some (dI (a2))] [] h 0 0
  refine di_aload_n rfl rfl ?_
  refine dr_iload_n rfl rfl ?_
  refine dr_stat rfl rfl rfl rfl (f_X8_isNo99 l hl hI (a0 := a1) (by omega) (by omega)) (by decide) (by decide) (by decide) (Nat.le_of_ble_eq_true rfl) kNP (kIP (fun y1 y1f y1a y1b => ?_))
  have y1g : 0 ≤ y1 ∧ y1 ≤ 1 ∧ (y1 = 0 → 0 ≤ a1 ∧ a1 ≤ 99) ∧ (y1 = 1 → a1 < 0 ∨ 99 < a1) := y1f
  clear y1f
  refine di_if_ne rfl rfl (by omega) (by omega) (fun c2 => ?_) (fun c2 => ?_)
  · skip
    refine di_const rfl ?_
    refine dr_goto rfl rfl ?_
    refine di_const rfl ?_
    refine dr_virt rfl rfl rfl rfl c26 (f_X8_start1 l hl hI hM (a2 := 1) (by omega) (by omega)) (by decide) (by decide) (by decide) (Nat.le_of_ble_eq_true rfl) kNQN (kNQ (fun h3 hI4 hF5 hM6 => ?_))
    have hF7 := FrM_tr FrM_rf hF5
    refine di_if_ne rfl rfl (by omega) (by omega) (fun _ => ?_) (fun c9 => by exfalso; omega)
    refine di_const rfl ?_
    exact dr_iret (ty := .int) rfl rfl rfl (by decide) (by decide) (QM_no (x := 0) hI4 hF7 hM6 (by omega) (by omega) (by omega) (by unfold spNarrow; (repeat' split) <;> first | rfl | (exfalso; omega) | (apply Prod.ext <;> first | rfl | (dsimp only; omega) | (apply Prod.ext <;> first | rfl | (dsimp only; omega)))))
  · skip
    refine dr_iload_n rfl rfl ?_
    refine dr_stat rfl rfl rfl rfl (f_X8_isNo99 l hl hI (a0 := a2) (by omega) (by omega)) (by decide) (by decide) (by decide) (Nat.le_of_ble_eq_true rfl) kNP (kIP (fun y8 y8f y8a y8b => ?_))
    have y8g : 0 ≤ y8 ∧ y8 ≤ 1 ∧ (y8 = 0 → 0 ≤ a2 ∧ a2 ≤ 99) ∧ (y8 = 1 → a2 < 0 ∨ 99 < a2) := y8f
    clear y8f
    refine di_if_ne rfl rfl (by omega) (by omega) (fun c10 => ?_) (fun c10 => ?_)
    · skip
      refine di_const rfl ?_
      refine dr_goto rfl rfl ?_
      refine di_const rfl ?_
      refine dr_virt rfl rfl rfl rfl c26 (f_X8_start1 l hl hI hM (a2 := 1) (by omega) (by omega)) (by decide) (by decide) (by decide) (Nat.le_of_ble_eq_true rfl) kNQN (kNQ (fun h11 hI12 hF13 hM14 => ?_))
      have hF15 := FrM_tr FrM_rf hF13
      refine di_if_ne rfl rfl (by omega) (by omega) (fun _ => ?_) (fun c9 => by exfalso; omega)
      refine di_const rfl ?_
      exact dr_iret (ty := .int) rfl rfl rfl (by decide) (by decide) (QM_no (x := 0) hI12 hF15 hM14 (by omega) (by omega) (by omega) (by unfold spNarrow; (repeat' split) <;> first | rfl | (exfalso; omega) | (apply Prod.ext <;> first | rfl | (dsimp only; omega) | (apply Prod.ext <;> first | rfl | (dsimp only; omega)))))
    · skip
      refine dr_iload_n rfl rfl ?_
      refine dr_iload_n rfl rfl ?_
      refine di_icmp_le rfl rfl (by omega) (by omega) (by omega) (by omega) (fun c16 => ?_) (fun c16 => ?_)
      · skip
        refine di_const rfl ?_
        refine di_const rfl ?_
        refine dr_virt rfl rfl rfl rfl c26 (f_X8_start0 l hl hI hM (a2 := 1) (by omega) (by omega)) (by decide) (by decide) (by decide) (Nat.le_of_ble_eq_true rfl) kNQN (kNQ (fun h17 hI18 hF19 hM20 => ?_))
        have hF21 := FrM_tr FrM_rf hF19
        refine di_if_ne rfl rfl (by omega) (by omega) (fun c9 => by exfalso; omega) (fun _ => ?_)
        refine di_aload_n rfl rfl ?_
        refine di_aload_n rfl rfl ?_
        obtain ⟨⟨ni22, ni22c, ni22a, ni22b⟩, -⟩ := id hM20
        refine dr_getf rfl ni22c rfl ?_
        refine di_const rfl ?_
        refine di_icmp_ne rfl rfl (by omega) (by omega) (by omega) (by omega) (fun c23 => ?_) (fun c23 => ?_)
        · skip
          refine di_const rfl ?_
          refine di_const rfl ?_
          refine dr_virt rfl rfl rfl rfl ni22c (f_X8_refuse0 l hl hI18 hM20 (a2 := 2) (by omega) (by omega)) (by decide) (by decide) (by decide) (Nat.le_of_ble_eq_true rfl) kNQN (kNQ (fun h24 hI25 hF26 hM27 => ?_))
          have hF28 := FrM_tr hF21 hF26
          refine di_if_eq rfl rfl (by omega) (by omega) (fun _ => ?_) (fun c9 => by exfalso; omega)
          refine di_aload_n rfl rfl ?_
          obtain ⟨⟨ni29, ni29c, ni29a, ni29b⟩, -⟩ := id hM27
          refine dr_getf rfl ni29c rfl ?_
          refine di_const rfl ?_
          refine di_icmp_eq rfl rfl (by omega) (by omega) (by omega) (by omega) (fun c30 => ?_) (fun c30 => ?_)
          · skip
            refine di_aload_n rfl rfl ?_
            refine dr_getf rfl ni29c rfl ?_
            refine di_const rfl ?_
            refine di_icmp_eq rfl rfl (by omega) (by omega) (by omega) (by omega) (fun c31 => ?_) (fun c31 => ?_)
            · skip
              refine di_aload_n rfl rfl ?_
              refine dr_iload_n rfl rfl ?_
              refine pfX rfl ni29c (Nat.le_of_ble_eq_true rfl) rfl hI25 (by decide) (T37_md (by omega) (by omega) (by omega) (by omega) (by omega) (by omega) (by omega) (by omega) (by first | assumption | omega)) (fun h32 hI33 hk34 hc35 => ?_)
              have hF36 := FrM_tr hF28 (FrM_I hk34 (by omega) (by omega))
              have hM37 : MSt km 0 (σ.1, (σ.2.1.1, a1, σ.2.1.2.2), (σ.2.2.1, σ.2.2.2.1, σ.2.2.2.2.1, σ.2.2.2.2.2.1, σ.2.2.2.2.2.2)) h32 := MSt_md hM27 hk34 (ni' := ni29) hc35 rfl ⟨⟨(show (-1 : Int) ≤ σ.2.1.1 by omega), (show σ.2.1.1 ≤ (2 : Int) by omega)⟩, ⟨(show (-1 : Int) ≤ a1 by omega), (show a1 ≤ (99 : Int) by omega)⟩, ⟨(show (-1 : Int) ≤ σ.2.1.2.2 by omega), (show σ.2.1.2.2 ≤ (99 : Int) by omega)⟩, ⟨(show (-1 : Int) ≤ σ.2.2.1 by omega), (show σ.2.2.1 ≤ (2 : Int) by omega)⟩, ⟨(show (0 : Int) ≤ σ.2.2.2.1 by omega), (show σ.2.2.2.1 ≤ (1 : Int) by omega)⟩, ⟨(show (-1 : Int) ≤ σ.2.2.2.2.1 by omega), (show σ.2.2.2.2.1 ≤ (9999 : Int) by omega)⟩, (show σ.2.2.2.2.2.1 = -1 ∨ okC σ.2.2.2.2.2.1 by first | assumption | exact Or.inl rfl | exact Or.inr ⟨by omega, by omega, by omega⟩ | exact (by omega : σ.2.2.2.2.2.1 = -1 ∨ (0 ≤ σ.2.2.2.2.2.1 ∧ σ.2.2.2.2.2.1 ≤ 9999 ∧ σ.2.2.2.2.2.1 % 100 ≤ σ.2.2.2.2.2.1 / 100)))⟩ ⟨by omega, by omega⟩ ⟨by omega, by omega, ni29b.2⟩
              refine di_aload_n rfl rfl ?_
              refine dr_iload_n rfl rfl ?_
              refine pfX rfl hc35 (Nat.le_of_ble_eq_true rfl) rfl hI33 (by decide) (T37_md (by omega) (by omega) (by omega) (by omega) (by omega) (by omega) (by omega) (by omega) (by first | assumption | omega)) (fun h38 hI39 hk40 hc41 => ?_)
              have hF42 := FrM_tr hF36 (FrM_I hk40 (by omega) (by omega))
              have hM43 : MSt km 0 (σ.1, (σ.2.1.1, a1, a2), (σ.2.2.1, σ.2.2.2.1, σ.2.2.2.2.1, σ.2.2.2.2.2.1, σ.2.2.2.2.2.2)) h38 := MSt_md hM37 hk40 (ni' := ni29) hc41 rfl ⟨⟨(show (-1 : Int) ≤ σ.2.1.1 by omega), (show σ.2.1.1 ≤ (2 : Int) by omega)⟩, ⟨(show (-1 : Int) ≤ a1 by omega), (show a1 ≤ (99 : Int) by omega)⟩, ⟨(show (-1 : Int) ≤ a2 by omega), (show a2 ≤ (99 : Int) by omega)⟩, ⟨(show (-1 : Int) ≤ σ.2.2.1 by omega), (show σ.2.2.1 ≤ (2 : Int) by omega)⟩, ⟨(show (0 : Int) ≤ σ.2.2.2.1 by omega), (show σ.2.2.2.1 ≤ (1 : Int) by omega)⟩, ⟨(show (-1 : Int) ≤ σ.2.2.2.2.1 by omega), (show σ.2.2.2.2.1 ≤ (9999 : Int) by omega)⟩, (show σ.2.2.2.2.2.1 = -1 ∨ okC σ.2.2.2.2.2.1 by first | assumption | exact Or.inl rfl | exact Or.inr ⟨by omega, by omega, by omega⟩ | exact (by omega : σ.2.2.2.2.2.1 = -1 ∨ (0 ≤ σ.2.2.2.2.2.1 ∧ σ.2.2.2.2.2.1 ≤ 9999 ∧ σ.2.2.2.2.2.1 % 100 ≤ σ.2.2.2.2.2.1 / 100)))⟩ ⟨by omega, by omega⟩ ⟨by omega, by omega, ni29b.2⟩
              refine di_aload_n rfl rfl ?_
              refine dr_virt rfl rfl rfl rfl hc41 (n_X8_partSize l hl hI39 hM43  (show (0 : Int) ≤ σ.2.1.1 by omega)) (by decide) (by decide) (by decide) (Nat.le_of_ble_eq_true rfl) kNP (kIP (fun y44 y44f y44a y44b => ?_))
              obtain ⟨y44c, y44d, y44k⟩ := y44f
              subst y44k
              exact dr_iret (ty := .int) rfl rfl rfl (by decide) (by decide) (QM_ok hI39 hF42 hM43 (by omega) (by omega) (by unfold spNarrow; (repeat' split) <;> first | rfl | (exfalso; omega) | (apply Prod.ext <;> first | rfl | (dsimp only; omega) | (apply Prod.ext <;> first | rfl | (dsimp only; omega)))))
            · skip
              refine dr_iload_n rfl rfl ?_
              refine di_aload_n rfl rfl ?_
              refine dr_getf rfl ni29c rfl ?_
              refine di_icmp_le rfl rfl (by omega) (by omega) (by omega) (by omega) (fun c45 => ?_) (fun c45 => ?_)
              · skip
                refine di_aload_n rfl rfl ?_
                refine dr_iload_n rfl rfl ?_
                refine pfX rfl ni29c (Nat.le_of_ble_eq_true rfl) rfl hI25 (by decide) (T37_md (by omega) (by omega) (by omega) (by omega) (by omega) (by omega) (by omega) (by omega) (by first | assumption | omega)) (fun h46 hI47 hk48 hc49 => ?_)
                have hF50 := FrM_tr hF28 (FrM_I hk48 (by omega) (by omega))
                have hM51 : MSt km 0 (σ.1, (σ.2.1.1, a1, σ.2.1.2.2), (σ.2.2.1, σ.2.2.2.1, σ.2.2.2.2.1, σ.2.2.2.2.2.1, σ.2.2.2.2.2.2)) h46 := MSt_md hM27 hk48 (ni' := ni29) hc49 rfl ⟨⟨(show (-1 : Int) ≤ σ.2.1.1 by omega), (show σ.2.1.1 ≤ (2 : Int) by omega)⟩, ⟨(show (-1 : Int) ≤ a1 by omega), (show a1 ≤ (99 : Int) by omega)⟩, ⟨(show (-1 : Int) ≤ σ.2.1.2.2 by omega), (show σ.2.1.2.2 ≤ (99 : Int) by omega)⟩, ⟨(show (-1 : Int) ≤ σ.2.2.1 by omega), (show σ.2.2.1 ≤ (2 : Int) by omega)⟩, ⟨(show (0 : Int) ≤ σ.2.2.2.1 by omega), (show σ.2.2.2.1 ≤ (1 : Int) by omega)⟩, ⟨(show (-1 : Int) ≤ σ.2.2.2.2.1 by omega), (show σ.2.2.2.2.1 ≤ (9999 : Int) by omega)⟩, (show σ.2.2.2.2.2.1 = -1 ∨ okC σ.2.2.2.2.2.1 by first | assumption | exact Or.inl rfl | exact Or.inr ⟨by omega, by omega, by omega⟩ | exact (by omega : σ.2.2.2.2.2.1 = -1 ∨ (0 ≤ σ.2.2.2.2.2.1 ∧ σ.2.2.2.2.2.1 ≤ 9999 ∧ σ.2.2.2.2.2.1 % 100 ≤ σ.2.2.2.2.2.1 / 100)))⟩ ⟨by omega, by omega⟩ ⟨by omega, by omega, ni29b.2⟩
                refine di_aload_n rfl rfl ?_
                refine dr_iload_n rfl rfl ?_
                refine pfX rfl hc49 (Nat.le_of_ble_eq_true rfl) rfl hI47 (by decide) (T37_md (by omega) (by omega) (by omega) (by omega) (by omega) (by omega) (by omega) (by omega) (by first | assumption | omega)) (fun h52 hI53 hk54 hc55 => ?_)
                have hF56 := FrM_tr hF50 (FrM_I hk54 (by omega) (by omega))
                have hM57 : MSt km 0 (σ.1, (σ.2.1.1, a1, a2), (σ.2.2.1, σ.2.2.2.1, σ.2.2.2.2.1, σ.2.2.2.2.2.1, σ.2.2.2.2.2.2)) h52 := MSt_md hM51 hk54 (ni' := ni29) hc55 rfl ⟨⟨(show (-1 : Int) ≤ σ.2.1.1 by omega), (show σ.2.1.1 ≤ (2 : Int) by omega)⟩, ⟨(show (-1 : Int) ≤ a1 by omega), (show a1 ≤ (99 : Int) by omega)⟩, ⟨(show (-1 : Int) ≤ a2 by omega), (show a2 ≤ (99 : Int) by omega)⟩, ⟨(show (-1 : Int) ≤ σ.2.2.1 by omega), (show σ.2.2.1 ≤ (2 : Int) by omega)⟩, ⟨(show (0 : Int) ≤ σ.2.2.2.1 by omega), (show σ.2.2.2.1 ≤ (1 : Int) by omega)⟩, ⟨(show (-1 : Int) ≤ σ.2.2.2.2.1 by omega), (show σ.2.2.2.2.1 ≤ (9999 : Int) by omega)⟩, (show σ.2.2.2.2.2.1 = -1 ∨ okC σ.2.2.2.2.2.1 by first | assumption | exact Or.inl rfl | exact Or.inr ⟨by omega, by omega, by omega⟩ | exact (by omega : σ.2.2.2.2.2.1 = -1 ∨ (0 ≤ σ.2.2.2.2.2.1 ∧ σ.2.2.2.2.2.1 ≤ 9999 ∧ σ.2.2.2.2.2.1 % 100 ≤ σ.2.2.2.2.2.1 / 100)))⟩ ⟨by omega, by omega⟩ ⟨by omega, by omega, ni29b.2⟩
                refine di_aload_n rfl rfl ?_
                refine dr_virt rfl rfl rfl rfl hc55 (n_X8_partSize l hl hI53 hM57  (show (0 : Int) ≤ σ.2.1.1 by omega)) (by decide) (by decide) (by decide) (Nat.le_of_ble_eq_true rfl) kNP (kIP (fun y58 y58f y58a y58b => ?_))
                obtain ⟨y58c, y58d, y58k⟩ := y58f
                subst y58k
                exact dr_iret (ty := .int) rfl rfl rfl (by decide) (by decide) (QM_ok hI53 hF56 hM57 (by omega) (by omega) (by unfold spNarrow; (repeat' split) <;> first | rfl | (exfalso; omega) | (apply Prod.ext <;> first | rfl | (dsimp only; omega) | (apply Prod.ext <;> first | rfl | (dsimp only; omega)))))
              · skip
                refine di_aload_n rfl rfl ?_
                refine dr_virt rfl rfl rfl rfl ni29c (n_X8_nine l hl hI25 hM27) (by decide) (by decide) (by decide) (Nat.le_of_ble_eq_true rfl) kNQN (kNQ (fun h59 hI60 hF61 hM62 => ?_))
                have hF63 := FrM_tr hF28 hF61
                exact dr_iret (ty := .int) rfl rfl rfl (by decide) (by decide) (QM_ok hI60 hF63 hM62 (by omega) (by omega) (by unfold spNarrow; (repeat' split) <;> first | rfl | (exfalso; omega) | (apply Prod.ext <;> first | rfl | (dsimp only; omega) | (apply Prod.ext <;> first | rfl | (dsimp only; omega)))))
          · skip
            refine dr_iload_n rfl rfl ?_
            refine di_aload_n rfl rfl ?_
            refine dr_getf rfl ni29c rfl ?_
            refine di_icmp_lt rfl rfl (by omega) (by omega) (by omega) (by omega) (fun c64 => ?_) (fun c64 => ?_)
            · skip
              refine di_aload_n rfl rfl ?_
              refine dr_virt rfl rfl rfl rfl ni29c (n_X8_nine l hl hI25 hM27) (by decide) (by decide) (by decide) (Nat.le_of_ble_eq_true rfl) kNQN (kNQ (fun h65 hI66 hF67 hM68 => ?_))
              have hF69 := FrM_tr hF28 hF67
              exact dr_iret (ty := .int) rfl rfl rfl (by decide) (by decide) (QM_ok hI66 hF69 hM68 (by omega) (by omega) (by unfold spNarrow; (repeat' split) <;> first | rfl | (exfalso; omega) | (apply Prod.ext <;> first | rfl | (dsimp only; omega) | (apply Prod.ext <;> first | rfl | (dsimp only; omega)))))
            · skip
              refine di_aload_n rfl rfl ?_
              refine dr_getf rfl ni29c rfl ?_
              refine di_const rfl ?_
              refine di_icmp_eq rfl rfl (by omega) (by omega) (by omega) (by omega) (fun c70 => ?_) (fun c70 => ?_)
              · skip
                refine di_aload_n rfl rfl ?_
                refine dr_iload_n rfl rfl ?_
                refine pfX rfl ni29c (Nat.le_of_ble_eq_true rfl) rfl hI25 (by decide) (T37_md (by omega) (by omega) (by omega) (by omega) (by omega) (by omega) (by omega) (by omega) (by first | assumption | omega)) (fun h71 hI72 hk73 hc74 => ?_)
                have hF75 := FrM_tr hF28 (FrM_I hk73 (by omega) (by omega))
                have hM76 : MSt km 0 (σ.1, (σ.2.1.1, a1, σ.2.1.2.2), (σ.2.2.1, σ.2.2.2.1, σ.2.2.2.2.1, σ.2.2.2.2.2.1, σ.2.2.2.2.2.2)) h71 := MSt_md hM27 hk73 (ni' := ni29) hc74 rfl ⟨⟨(show (-1 : Int) ≤ σ.2.1.1 by omega), (show σ.2.1.1 ≤ (2 : Int) by omega)⟩, ⟨(show (-1 : Int) ≤ a1 by omega), (show a1 ≤ (99 : Int) by omega)⟩, ⟨(show (-1 : Int) ≤ σ.2.1.2.2 by omega), (show σ.2.1.2.2 ≤ (99 : Int) by omega)⟩, ⟨(show (-1 : Int) ≤ σ.2.2.1 by omega), (show σ.2.2.1 ≤ (2 : Int) by omega)⟩, ⟨(show (0 : Int) ≤ σ.2.2.2.1 by omega), (show σ.2.2.2.1 ≤ (1 : Int) by omega)⟩, ⟨(show (-1 : Int) ≤ σ.2.2.2.2.1 by omega), (show σ.2.2.2.2.1 ≤ (9999 : Int) by omega)⟩, (show σ.2.2.2.2.2.1 = -1 ∨ okC σ.2.2.2.2.2.1 by first | assumption | exact Or.inl rfl | exact Or.inr ⟨by omega, by omega, by omega⟩ | exact (by omega : σ.2.2.2.2.2.1 = -1 ∨ (0 ≤ σ.2.2.2.2.2.1 ∧ σ.2.2.2.2.2.1 ≤ 9999 ∧ σ.2.2.2.2.2.1 % 100 ≤ σ.2.2.2.2.2.1 / 100)))⟩ ⟨by omega, by omega⟩ ⟨by omega, by omega, ni29b.2⟩
                refine di_aload_n rfl rfl ?_
                refine dr_iload_n rfl rfl ?_
                refine pfX rfl hc74 (Nat.le_of_ble_eq_true rfl) rfl hI72 (by decide) (T37_md (by omega) (by omega) (by omega) (by omega) (by omega) (by omega) (by omega) (by omega) (by first | assumption | omega)) (fun h77 hI78 hk79 hc80 => ?_)
                have hF81 := FrM_tr hF75 (FrM_I hk79 (by omega) (by omega))
                have hM82 : MSt km 0 (σ.1, (σ.2.1.1, a1, a2), (σ.2.2.1, σ.2.2.2.1, σ.2.2.2.2.1, σ.2.2.2.2.2.1, σ.2.2.2.2.2.2)) h77 := MSt_md hM76 hk79 (ni' := ni29) hc80 rfl ⟨⟨(show (-1 : Int) ≤ σ.2.1.1 by omega), (show σ.2.1.1 ≤ (2 : Int) by omega)⟩, ⟨(show (-1 : Int) ≤ a1 by omega), (show a1 ≤ (99 : Int) by omega)⟩, ⟨(show (-1 : Int) ≤ a2 by omega), (show a2 ≤ (99 : Int) by omega)⟩, ⟨(show (-1 : Int) ≤ σ.2.2.1 by omega), (show σ.2.2.1 ≤ (2 : Int) by omega)⟩, ⟨(show (0 : Int) ≤ σ.2.2.2.1 by omega), (show σ.2.2.2.1 ≤ (1 : Int) by omega)⟩, ⟨(show (-1 : Int) ≤ σ.2.2.2.2.1 by omega), (show σ.2.2.2.2.1 ≤ (9999 : Int) by omega)⟩, (show σ.2.2.2.2.2.1 = -1 ∨ okC σ.2.2.2.2.2.1 by first | assumption | exact Or.inl rfl | exact Or.inr ⟨by omega, by omega, by omega⟩ | exact (by omega : σ.2.2.2.2.2.1 = -1 ∨ (0 ≤ σ.2.2.2.2.2.1 ∧ σ.2.2.2.2.2.1 ≤ 9999 ∧ σ.2.2.2.2.2.1 % 100 ≤ σ.2.2.2.2.2.1 / 100)))⟩ ⟨by omega, by omega⟩ ⟨by omega, by omega, ni29b.2⟩
                refine di_aload_n rfl rfl ?_
                refine dr_virt rfl rfl rfl rfl hc80 (n_X8_partSize l hl hI78 hM82  (show (0 : Int) ≤ σ.2.1.1 by omega)) (by decide) (by decide) (by decide) (Nat.le_of_ble_eq_true rfl) kNP (kIP (fun y83 y83f y83a y83b => ?_))
                obtain ⟨y83c, y83d, y83k⟩ := y83f
                subst y83k
                exact dr_iret (ty := .int) rfl rfl rfl (by decide) (by decide) (QM_ok hI78 hF81 hM82 (by omega) (by omega) (by unfold spNarrow; (repeat' split) <;> first | rfl | (exfalso; omega) | (apply Prod.ext <;> first | rfl | (dsimp only; omega) | (apply Prod.ext <;> first | rfl | (dsimp only; omega)))))
              · skip
                refine dr_iload_n rfl rfl ?_
                refine di_aload_n rfl rfl ?_
                refine dr_getf rfl ni29c rfl ?_
                refine di_icmp_le rfl rfl (by omega) (by omega) (by omega) (by omega) (fun c84 => ?_) (fun c84 => ?_)
                · skip
                  refine di_aload_n rfl rfl ?_
                  refine dr_iload_n rfl rfl ?_
                  refine pfX rfl ni29c (Nat.le_of_ble_eq_true rfl) rfl hI25 (by decide) (T37_md (by omega) (by omega) (by omega) (by omega) (by omega) (by omega) (by omega) (by omega) (by first | assumption | omega)) (fun h85 hI86 hk87 hc88 => ?_)
                  have hF89 := FrM_tr hF28 (FrM_I hk87 (by omega) (by omega))
                  have hM90 : MSt km 0 (σ.1, (σ.2.1.1, a1, σ.2.1.2.2), (σ.2.2.1, σ.2.2.2.1, σ.2.2.2.2.1, σ.2.2.2.2.2.1, σ.2.2.2.2.2.2)) h85 := MSt_md hM27 hk87 (ni' := ni29) hc88 rfl ⟨⟨(show (-1 : Int) ≤ σ.2.1.1 by omega), (show σ.2.1.1 ≤ (2 : Int) by omega)⟩, ⟨(show (-1 : Int) ≤ a1 by omega), (show a1 ≤ (99 : Int) by omega)⟩, ⟨(show (-1 : Int) ≤ σ.2.1.2.2 by omega), (show σ.2.1.2.2 ≤ (99 : Int) by omega)⟩, ⟨(show (-1 : Int) ≤ σ.2.2.1 by omega), (show σ.2.2.1 ≤ (2 : Int) by omega)⟩, ⟨(show (0 : Int) ≤ σ.2.2.2.1 by omega), (show σ.2.2.2.1 ≤ (1 : Int) by omega)⟩, ⟨(show (-1 : Int) ≤ σ.2.2.2.2.1 by omega), (show σ.2.2.2.2.1 ≤ (9999 : Int) by omega)⟩, (show σ.2.2.2.2.2.1 = -1 ∨ okC σ.2.2.2.2.2.1 by first | assumption | exact Or.inl rfl | exact Or.inr ⟨by omega, by omega, by omega⟩ | exact (by omega : σ.2.2.2.2.2.1 = -1 ∨ (0 ≤ σ.2.2.2.2.2.1 ∧ σ.2.2.2.2.2.1 ≤ 9999 ∧ σ.2.2.2.2.2.1 % 100 ≤ σ.2.2.2.2.2.1 / 100)))⟩ ⟨by omega, by omega⟩ ⟨by omega, by omega, ni29b.2⟩
                  refine di_aload_n rfl rfl ?_
                  refine dr_iload_n rfl rfl ?_
                  refine pfX rfl hc88 (Nat.le_of_ble_eq_true rfl) rfl hI86 (by decide) (T37_md (by omega) (by omega) (by omega) (by omega) (by omega) (by omega) (by omega) (by omega) (by first | assumption | omega)) (fun h91 hI92 hk93 hc94 => ?_)
                  have hF95 := FrM_tr hF89 (FrM_I hk93 (by omega) (by omega))
                  have hM96 : MSt km 0 (σ.1, (σ.2.1.1, a1, a2), (σ.2.2.1, σ.2.2.2.1, σ.2.2.2.2.1, σ.2.2.2.2.2.1, σ.2.2.2.2.2.2)) h91 := MSt_md hM90 hk93 (ni' := ni29) hc94 rfl ⟨⟨(show (-1 : Int) ≤ σ.2.1.1 by omega), (show σ.2.1.1 ≤ (2 : Int) by omega)⟩, ⟨(show (-1 : Int) ≤ a1 by omega), (show a1 ≤ (99 : Int) by omega)⟩, ⟨(show (-1 : Int) ≤ a2 by omega), (show a2 ≤ (99 : Int) by omega)⟩, ⟨(show (-1 : Int) ≤ σ.2.2.1 by omega), (show σ.2.2.1 ≤ (2 : Int) by omega)⟩, ⟨(show (0 : Int) ≤ σ.2.2.2.1 by omega), (show σ.2.2.2.1 ≤ (1 : Int) by omega)⟩, ⟨(show (-1 : Int) ≤ σ.2.2.2.2.1 by omega), (show σ.2.2.2.2.1 ≤ (9999 : Int) by omega)⟩, (show σ.2.2.2.2.2.1 = -1 ∨ okC σ.2.2.2.2.2.1 by first | assumption | exact Or.inl rfl | exact Or.inr ⟨by omega, by omega, by omega⟩ | exact (by omega : σ.2.2.2.2.2.1 = -1 ∨ (0 ≤ σ.2.2.2.2.2.1 ∧ σ.2.2.2.2.2.1 ≤ 9999 ∧ σ.2.2.2.2.2.1 % 100 ≤ σ.2.2.2.2.2.1 / 100)))⟩ ⟨by omega, by omega⟩ ⟨by omega, by omega, ni29b.2⟩
                  refine di_aload_n rfl rfl ?_
                  refine dr_virt rfl rfl rfl rfl hc94 (n_X8_partSize l hl hI92 hM96  (show (0 : Int) ≤ σ.2.1.1 by omega)) (by decide) (by decide) (by decide) (Nat.le_of_ble_eq_true rfl) kNP (kIP (fun y97 y97f y97a y97b => ?_))
                  obtain ⟨y97c, y97d, y97k⟩ := y97f
                  subst y97k
                  exact dr_iret (ty := .int) rfl rfl rfl (by decide) (by decide) (QM_ok hI92 hF95 hM96 (by omega) (by omega) (by unfold spNarrow; (repeat' split) <;> first | rfl | (exfalso; omega) | (apply Prod.ext <;> first | rfl | (dsimp only; omega) | (apply Prod.ext <;> first | rfl | (dsimp only; omega)))))
                · skip
                  refine di_aload_n rfl rfl ?_
                  refine dr_virt rfl rfl rfl rfl ni29c (n_X8_nine l hl hI25 hM27) (by decide) (by decide) (by decide) (Nat.le_of_ble_eq_true rfl) kNQN (kNQ (fun h98 hI99 hF100 hM101 => ?_))
                  have hF102 := FrM_tr hF28 hF100
                  exact dr_iret (ty := .int) rfl rfl rfl (by decide) (by decide) (QM_ok hI99 hF102 hM101 (by omega) (by omega) (by unfold spNarrow; (repeat' split) <;> first | rfl | (exfalso; omega) | (apply Prod.ext <;> first | rfl | (dsimp only; omega) | (apply Prod.ext <;> first | rfl | (dsimp only; omega)))))
        · skip
          refine di_const rfl ?_
          refine dr_goto rfl rfl ?_
          refine di_const rfl ?_
          refine dr_virt rfl rfl rfl rfl ni22c (f_X8_refuse1 l hl hI18 hM20 (a2 := 2) (by omega) (by omega)) (by decide) (by decide) (by decide) (Nat.le_of_ble_eq_true rfl) kNQN (kNQ (fun h103 hI104 hF105 hM106 => ?_))
          have hF107 := FrM_tr hF21 hF105
          refine di_if_eq rfl rfl (by omega) (by omega) (fun c9 => by exfalso; omega) (fun _ => ?_)
          refine di_const rfl ?_
          exact dr_iret (ty := .int) rfl rfl rfl (by decide) (by decide) (QM_no (x := 0) hI104 hF107 hM106 (by omega) (by omega) (by omega) (by unfold spNarrow; (repeat' split) <;> first | rfl | (exfalso; omega) | (apply Prod.ext <;> first | rfl | (dsimp only; omega) | (apply Prod.ext <;> first | rfl | (dsimp only; omega)))))
      · skip
        refine di_const rfl ?_
        refine dr_goto rfl rfl ?_
        refine di_const rfl ?_
        refine dr_virt rfl rfl rfl rfl c26 (f_X8_start1 l hl hI hM (a2 := 1) (by omega) (by omega)) (by decide) (by decide) (by decide) (Nat.le_of_ble_eq_true rfl) kNQN (kNQ (fun h108 hI109 hF110 hM111 => ?_))
        have hF112 := FrM_tr FrM_rf hF110
        refine di_if_ne rfl rfl (by omega) (by omega) (fun _ => ?_) (fun c9 => by exfalso; omega)
        refine di_const rfl ?_
        exact dr_iret (ty := .int) rfl rfl rfl (by decide) (by decide) (QM_no (x := 0) hI109 hF112 hM111 (by omega) (by omega) (by omega) (by unfold spNarrow; (repeat' split) <;> first | rfl | (exfalso; omega) | (apply Prod.ext <;> first | rfl | (dsimp only; omega) | (apply Prod.ext <;> first | rfl | (dsimp only; omega)))))
set_option maxHeartbeats 4000000 in
set_option maxRecDepth 100000 in
/-- EarlyendsModel.hand -/
theorem n_X8_hand (l : Launch) (hl : l.stackTraces = false) {kc km : Int} {h : dm_H} (hI : Inv kc km h) {th : Int} {σ : St} (hM : MSt km th σ h) {a1 : Int} (h1a : -2147483648 ≤ a1) (h1b : a1 ≤ 2147483647) : dm_M l 168 8 0 0 [.ref 26, dI (a1)] h (QM9 kc km h (spHand σ a1)) := by
  obtain ⟨⟨ni, c26, ni0, ni1⟩, ⟨⟨R1, R2⟩, ⟨R3, R4⟩, ⟨R5, R6⟩, ⟨R7, R8⟩, ⟨R9, R10⟩, ⟨R11, R12⟩, R13⟩, ⟨th0, th1⟩, -⟩ := id hM
  have R14 : σ.2.2.2.2.2.1 = -1 ∨ (0 ≤ σ.2.2.2.2.2.1 ∧ σ.2.2.2.2.2.1 ≤ 9999 ∧ σ.2.2.2.2.2.1 % 100 ≤ σ.2.2.2.2.2.1 / 100) := R13
  refine dm_M_of dk_168 hl rfl (Nat.le_of_ble_eq_true rfl) ?_
  show dm_W (fun _ _ _ => True) (dm_P (QM9 kc km h (spHand σ a1)) 0 0) l 168 8 0 0 0 [some (.ref 26), some (dI (a1))] [] h 0 0
  refine di_aload_n rfl rfl ?_
  refine dr_iload_n rfl rfl ?_
  refine dr_stat rfl rfl rfl rfl (f_X8_isNoBook l hl hI (a0 := a1) (by omega) (by omega)) (by decide) (by decide) (by decide) (Nat.le_of_ble_eq_true rfl) kNP (kIP (fun y1 y1f y1a y1b => ?_))
  have y1g : 0 ≤ y1 ∧ y1 ≤ 1 ∧ (y1 = 0 → 0 ≤ a1 ∧ a1 ≤ 2) ∧ (y1 = 1 → a1 < 0 ∨ 2 < a1) := y1f
  clear y1f
  refine di_const rfl ?_
  rcases (by omega : y1 = 0 ∨ y1 = 1) with ey2 | ey2
  · skip
    rw [ey2]
    refine dr_virt rfl rfl rfl rfl c26 (f_X8_start0 l hl hI hM (a2 := 1) (by omega) (by omega)) (by decide) (by decide) (by decide) (Nat.le_of_ble_eq_true rfl) kNQN (kNQ (fun h3 hI4 hF5 hM6 => ?_))
    have hF7 := FrM_tr FrM_rf hF5
    refine di_if_eq rfl rfl (by omega) (by omega) (fun _ => ?_) (fun c9 => by exfalso; omega)
    obtain ⟨r8, q10, u11, w12, us13, er14, eq15, hu16, hw17, au18, aw19, hs20, as21, hr22, sa23, sb24⟩ := MSt_bk hM6 (k := a1) (by omega) (by omega)
    have hz25 : zF (σ.1 a1) = cv us13 a1 := zF_eq hr22
    have mr26 : isCR r8 := isCR_of er14 (by omega) (by omega)
    have mq27 : isNR q10 := isNR_of eq15 (by omega) (by omega)
    refine di_aload_n rfl rfl ?_
    refine dr_iload_n rfl rfl ?_
    obtain ⟨⟨ni28, ni28c, ni28a, ni28b⟩, -⟩ := id hM6
    refine pfX rfl ni28c (Nat.le_of_ble_eq_true rfl) rfl hI4 (by decide) (T37_md (by omega) (by omega) (by omega) (by omega) (by omega) (by omega) (by omega) (by omega) (by first | assumption | omega)) (fun h29 hI30 hk31 hc32 => ?_)
    have hc33 := (hk31.2 r8 (by omega)).trans hu16
    have hc34 := (hk31.2 q10 (by omega)).trans hw17
    have hc35 := (hk31.2 35 (by omega)).trans hs20
    have hF36 := FrM_tr hF7 (FrM_I hk31 (by omega) (by omega))
    have hM37 : MSt km 0 (σ.1, (σ.2.1.1, σ.2.1.2.1, σ.2.1.2.2), (a1, σ.2.2.2.1, σ.2.2.2.2.1, σ.2.2.2.2.2.1, σ.2.2.2.2.2.2)) h29 := MSt_md hM6 hk31 (ni' := ni28) hc32 rfl ⟨⟨(show (-1 : Int) ≤ σ.2.1.1 by omega), (show σ.2.1.1 ≤ (2 : Int) by omega)⟩, ⟨(show (-1 : Int) ≤ σ.2.1.2.1 by omega), (show σ.2.1.2.1 ≤ (99 : Int) by omega)⟩, ⟨(show (-1 : Int) ≤ σ.2.1.2.2 by omega), (show σ.2.1.2.2 ≤ (99 : Int) by omega)⟩, ⟨(show (-1 : Int) ≤ a1 by omega), (show a1 ≤ (2 : Int) by omega)⟩, ⟨(show (0 : Int) ≤ σ.2.2.2.1 by omega), (show σ.2.2.2.1 ≤ (1 : Int) by omega)⟩, ⟨(show (-1 : Int) ≤ σ.2.2.2.2.1 by omega), (show σ.2.2.2.2.1 ≤ (9999 : Int) by omega)⟩, (show σ.2.2.2.2.2.1 = -1 ∨ okC σ.2.2.2.2.2.1 by first | assumption | exact Or.inl rfl | exact Or.inr ⟨by omega, by omega, by omega⟩ | exact (by omega : σ.2.2.2.2.2.1 = -1 ∨ (0 ≤ σ.2.2.2.2.2.1 ∧ σ.2.2.2.2.2.1 ≤ 9999 ∧ σ.2.2.2.2.2.1 % 100 ≤ σ.2.2.2.2.2.1 / 100)))⟩ ⟨by omega, by omega⟩ ⟨by omega, by omega, ni28b.2⟩
    refine di_aload_n rfl rfl ?_
    refine di_const rfl ?_
    refine pfX rfl hc32 (Nat.le_of_ble_eq_true rfl) (fit_z (by omega) (by omega)) hI30 (by decide) (T37_md (by omega) (by omega) (by omega) (by omega) (by omega) (by omega) (by omega) (by omega) (by first | assumption | omega)) (fun h38 hI39 hk40 hc41 => ?_)
    have hc42 := (hk40.2 r8 (by omega)).trans hc33
    have hc43 := (hk40.2 q10 (by omega)).trans hc34
    have hc44 := (hk40.2 35 (by omega)).trans hc35
    have hF45 := FrM_tr hF36 (FrM_I hk40 (by omega) (by omega))
    have hM46 : MSt km 0 (σ.1, (σ.2.1.1, σ.2.1.2.1, σ.2.1.2.2), (a1, 0, σ.2.2.2.2.1, σ.2.2.2.2.2.1, σ.2.2.2.2.2.2)) h38 := MSt_md hM37 hk40 (ni' := ni28) hc41 rfl ⟨⟨(show (-1 : Int) ≤ σ.2.1.1 by omega), (show σ.2.1.1 ≤ (2 : Int) by omega)⟩, ⟨(show (-1 : Int) ≤ σ.2.1.2.1 by omega), (show σ.2.1.2.1 ≤ (99 : Int) by omega)⟩, ⟨(show (-1 : Int) ≤ σ.2.1.2.2 by omega), (show σ.2.1.2.2 ≤ (99 : Int) by omega)⟩, ⟨(show (-1 : Int) ≤ a1 by omega), (show a1 ≤ (2 : Int) by omega)⟩, ⟨(show (0 : Int) ≤ 0 by omega), (show 0 ≤ (1 : Int) by omega)⟩, ⟨(show (-1 : Int) ≤ σ.2.2.2.2.1 by omega), (show σ.2.2.2.2.1 ≤ (9999 : Int) by omega)⟩, (show σ.2.2.2.2.2.1 = -1 ∨ okC σ.2.2.2.2.2.1 by first | assumption | exact Or.inl rfl | exact Or.inr ⟨by omega, by omega, by omega⟩ | exact (by omega : σ.2.2.2.2.2.1 = -1 ∨ (0 ≤ σ.2.2.2.2.2.1 ∧ σ.2.2.2.2.2.1 ≤ 9999 ∧ σ.2.2.2.2.2.1 % 100 ≤ σ.2.2.2.2.2.1 / 100)))⟩ ⟨by omega, by omega⟩ ⟨by omega, by omega, ni28b.2⟩
    refine di_aload_n rfl rfl ?_
    refine di_const rfl ?_
    refine pfX rfl hc41 (Nat.le_of_ble_eq_true rfl) rfl hI39 (by decide) (T37_md (by omega) (by omega) (by omega) (by omega) (by omega) (by omega) (by omega) (by omega) (by first | assumption | omega)) (fun h47 hI48 hk49 hc50 => ?_)
    have hc51 := (hk49.2 r8 (by omega)).trans hc42
    have hc52 := (hk49.2 q10 (by omega)).trans hc43
    have hc53 := (hk49.2 35 (by omega)).trans hc44
    have hF54 := FrM_tr hF45 (FrM_I hk49 (by omega) (by omega))
    have hM55 : MSt km 0 (σ.1, (σ.2.1.1, σ.2.1.2.1, σ.2.1.2.2), (a1, 0, (-1), σ.2.2.2.2.2.1, σ.2.2.2.2.2.2)) h47 := MSt_md hM46 hk49 (ni' := ni28) hc50 rfl ⟨⟨(show (-1 : Int) ≤ σ.2.1.1 by omega), (show σ.2.1.1 ≤ (2 : Int) by omega)⟩, ⟨(show (-1 : Int) ≤ σ.2.1.2.1 by omega), (show σ.2.1.2.1 ≤ (99 : Int) by omega)⟩, ⟨(show (-1 : Int) ≤ σ.2.1.2.2 by omega), (show σ.2.1.2.2 ≤ (99 : Int) by omega)⟩, ⟨(show (-1 : Int) ≤ a1 by omega), (show a1 ≤ (2 : Int) by omega)⟩, ⟨(show (0 : Int) ≤ 0 by omega), (show 0 ≤ (1 : Int) by omega)⟩, ⟨(show (-1 : Int) ≤ (-1) by omega), (show (-1) ≤ (9999 : Int) by omega)⟩, (show σ.2.2.2.2.2.1 = -1 ∨ okC σ.2.2.2.2.2.1 by first | assumption | exact Or.inl rfl | exact Or.inr ⟨by omega, by omega, by omega⟩ | exact (by omega : σ.2.2.2.2.2.1 = -1 ∨ (0 ≤ σ.2.2.2.2.2.1 ∧ σ.2.2.2.2.2.1 ≤ 9999 ∧ σ.2.2.2.2.2.1 % 100 ≤ σ.2.2.2.2.2.1 / 100)))⟩ ⟨by omega, by omega⟩ ⟨by omega, by omega, ni28b.2⟩
    refine di_aload_n rfl rfl ?_
    refine di_const rfl ?_
    refine pfX rfl hc50 (Nat.le_of_ble_eq_true rfl) rfl hI48 (by decide) (T37_md (by omega) (by omega) (by omega) (by omega) (by omega) (by omega) (by omega) (by omega) (by first | assumption | omega)) (fun h56 hI57 hk58 hc59 => ?_)
    have hc60 := (hk58.2 r8 (by omega)).trans hc51
    have hc61 := (hk58.2 q10 (by omega)).trans hc52
    have hc62 := (hk58.2 35 (by omega)).trans hc53
    have hF63 := FrM_tr hF54 (FrM_I hk58 (by omega) (by omega))
    have hM64 : MSt km 0 (σ.1, (σ.2.1.1, σ.2.1.2.1, σ.2.1.2.2), (a1, 0, (-1), (-1), σ.2.2.2.2.2.2)) h56 := MSt_md hM55 hk58 (ni' := ni28) hc59 rfl ⟨⟨(show (-1 : Int) ≤ σ.2.1.1 by omega), (show σ.2.1.1 ≤ (2 : Int) by omega)⟩, ⟨(show (-1 : Int) ≤ σ.2.1.2.1 by omega), (show σ.2.1.2.1 ≤ (99 : Int) by omega)⟩, ⟨(show (-1 : Int) ≤ σ.2.1.2.2 by omega), (show σ.2.1.2.2 ≤ (99 : Int) by omega)⟩, ⟨(show (-1 : Int) ≤ a1 by omega), (show a1 ≤ (2 : Int) by omega)⟩, ⟨(show (0 : Int) ≤ 0 by omega), (show 0 ≤ (1 : Int) by omega)⟩, ⟨(show (-1 : Int) ≤ (-1) by omega), (show (-1) ≤ (9999 : Int) by omega)⟩, (show (-1) = -1 ∨ okC (-1) by first | assumption | exact Or.inl rfl | exact Or.inr ⟨by omega, by omega, by omega⟩ | exact (by omega : (-1) = -1 ∨ (0 ≤ (-1) ∧ (-1) ≤ 9999 ∧ (-1) % 100 ≤ (-1) / 100)))⟩ ⟨by omega, by omega⟩ ⟨by omega, by omega, ni28b.2⟩
    refine di_aload_n rfl rfl ?_
    refine dr_getf rfl hc59 rfl ?_
    refine dr_iload_n rfl rfl ?_
    refine di_iald rfl hc62 as21 (by omega) (by omega) (fun x65 x65f x65a x65b x65v => ?_)
    have x65w : cv us13 a1 = x65 := cv_eq x65v x65a x65b
    have x65g : 0 ≤ x65 ∧ x65 ≤ 8 := x65f
    exact dr_iret (ty := .int) rfl rfl rfl (by decide) (by decide) (QM_ok hI57 hF63 hM64 (by omega) (by omega) (by unfold spHand; (repeat' split) <;> first | rfl | (exfalso; omega) | (apply Prod.ext <;> first | rfl | (dsimp only; omega) | (apply Prod.ext <;> first | rfl | (dsimp only; omega)))))
  · skip
    rw [ey2]
    refine dr_virt rfl rfl rfl rfl c26 (f_X8_start1 l hl hI hM (a2 := 1) (by omega) (by omega)) (by decide) (by decide) (by decide) (Nat.le_of_ble_eq_true rfl) kNQN (kNQ (fun h66 hI67 hF68 hM69 => ?_))
    have hF70 := FrM_tr FrM_rf hF68
    refine di_if_eq rfl rfl (by omega) (by omega) (fun c9 => by exfalso; omega) (fun _ => ?_)
    refine di_const rfl ?_
    exact dr_iret (ty := .int) rfl rfl rfl (by decide) (by decide) (QM_no (x := 0) hI67 hF70 hM69 (by omega) (by omega) (by omega) (by unfold spHand; (repeat' split) <;> first | rfl | (exfalso; omega) | (apply Prod.ext <;> first | rfl | (dsimp only; omega) | (apply Prod.ext <;> first | rfl | (dsimp only; omega)))))
set_option maxHeartbeats 4000000 in
set_option maxRecDepth 100000 in
/-- EarlyendsModel.takeOut -/
theorem n_X8_takeOut (l : Launch) (hl : l.stackTraces = false) {kc km : Int} {h : dm_H} (hI : Inv kc km h) {th : Int} {σ : St} (hM : MSt km th σ h) (hH : 0 ≤ σ.2.2.1 → σ.2.2.2.1 = 0 → σ.2.2.2.2.2.1 ≠ -1 → σ.1 σ.2.2.1 σ.2.2.2.2.2.1 ≠ -1) : dm_M l 171 8 0 0 [.ref 26] h (QM9 kc km h (spTakeOut σ)) := by
  obtain ⟨⟨ni, c26, ni0, ni1⟩, ⟨⟨R1, R2⟩, ⟨R3, R4⟩, ⟨R5, R6⟩, ⟨R7, R8⟩, ⟨R9, R10⟩, ⟨R11, R12⟩, R13⟩, ⟨th0, th1⟩, -⟩ := id hM
  have R14 : σ.2.2.2.2.2.1 = -1 ∨ (0 ≤ σ.2.2.2.2.2.1 ∧ σ.2.2.2.2.2.1 ≤ 9999 ∧ σ.2.2.2.2.2.1 % 100 ≤ σ.2.2.2.2.2.1 / 100) := R13
  refine dm_M_of dk_171 hl rfl (Nat.le_of_ble_eq_true rfl) ?_
  show dm_W (fun _ _ _ => True) (dm_P (QM9 kc km h (spTakeOut σ)) 0 0) l 171 8 0 0 0 [some (.ref 26)] [] h 0 0
  refine di_aload_n rfl rfl ?_
  refine di_aload_n rfl rfl ?_
  refine dr_getf rfl c26 rfl ?_
  refine di_const rfl ?_
  refine di_icmp_ne rfl rfl (by omega) (by omega) (by omega) (by omega) (fun c1 => ?_) (fun c1 => ?_)
  · skip
    refine di_const rfl ?_
    refine di_const rfl ?_
    refine dr_virt rfl rfl rfl rfl c26 (f_X8_start0 l hl hI hM (a2 := 1) (by omega) (by omega)) (by decide) (by decide) (by decide) (Nat.le_of_ble_eq_true rfl) kNQN (kNQ (fun h2 hI3 hF4 hM5 => ?_))
    have hF6 := FrM_tr FrM_rf hF4
    refine di_if_eq rfl rfl (by omega) (by omega) (fun _ => ?_) (fun c9 => by exfalso; omega)
    refine di_aload_n rfl rfl ?_
    obtain ⟨⟨ni7, ni7c, ni7a, ni7b⟩, -⟩ := id hM5
    refine dr_getf rfl ni7c rfl ?_
    refine di_if_ne rfl rfl (by omega) (by omega) (fun c8 => ?_) (fun c8 => ?_)
    · skip
      refine di_aload_n rfl rfl ?_
      refine dr_virt rfl rfl rfl rfl ni7c (n_X8_nine l hl hI3 hM5) (by decide) (by decide) (by decide) (Nat.le_of_ble_eq_true rfl) kNQN (kNQ (fun h10 hI11 hF12 hM13 => ?_))
      have hF14 := FrM_tr hF6 hF12
      exact dr_iret (ty := .int) rfl rfl rfl (by decide) (by decide) (QM_ok hI11 hF14 hM13 (by omega) (by omega) (by unfold spTakeOut; (repeat' split) <;> first | rfl | (exfalso; omega) | (apply Prod.ext <;> first | rfl | (dsimp only; omega) | (apply Prod.ext <;> first | rfl | (dsimp only; omega)))))
    · skip
      refine di_aload_n rfl rfl ?_
      refine dr_getf rfl ni7c rfl ?_
      refine di_const rfl ?_
      refine di_icmp_ne rfl rfl (by omega) (by omega) (by omega) (by omega) (fun c15 => ?_) (fun c15 => ?_)
      · skip
        refine di_aload_n rfl rfl ?_
        refine di_aload_n rfl rfl ?_
        refine dr_getf rfl ni7c rfl ?_
        refine di_aload_n rfl rfl ?_
        refine dr_getf rfl ni7c rfl ?_
        obtain ⟨r16, q17, u18, w19, us20, er21, eq22, hu23, hw24, au25, aw26, hs27, as28, hr29, sa30, sb31⟩ := MSt_bk hM5 (k := σ.2.2.1) (by omega) (by omega)
        have hz32 : zF (σ.1 σ.2.2.1) = cv us20 σ.2.2.1 := zF_eq hr29
        have mr33 : isCR r16 := isCR_of er21 (by omega) (by omega)
        have mq34 : isNR q17 := isNR_of eq22 (by omega) (by omega)
        have hy9 := hH (by omega) (by omega) (by omega)
        refine dr_virt rfl rfl rfl rfl ni7c (show dm_M l 142 2 0 0 [.ref 26, dI σ.2.2.1, dI σ.2.2.2.2.2.1] h2 (QN kc km h2 0 (σ.1 σ.2.2.1 σ.2.2.2.2.2.1) (stM σ σ.2.2.1 (up (σ.1 σ.2.2.1) σ.2.2.2.2.2.1 (-1)))) from (by have q9 := n_X8_takeIn l hl hI3 hM5 (a1 := σ.2.2.1) (by omega) (by omega) (a2 := σ.2.2.2.2.2.1) (by omega) (by omega) er21 eq22 hu23 hw24 au25 aw26 hs27 as28 hr29 sa30 sb31; rw [sTake_y hy9] at q9; exact q9)) (by decide) (by decide) (by decide) (Nat.le_of_ble_eq_true rfl) kNQN (kNQ (fun h35 hI36 hF37 hM38 => ?_))
        have hF39 := FrM_tr hF6 hF37
        refine dr_pop rfl rfl ?_
        obtain ⟨r40, q41, u42, w43, us44, er45, eq46, hu47, hw48, au49, aw50, hs51, as52, hr53, sa54, sb55⟩ := MSt_bk hM38 (k := σ.2.2.1) (by omega) (by omega)
        have hz56 : zF ((stM σ σ.2.2.1 (up (σ.1 σ.2.2.1) σ.2.2.2.2.2.1 (-1))).1 σ.2.2.1) = cv us44 σ.2.2.1 := zF_eq hr53
        have mr57 : isCR r40 := isCR_of er45 (by omega) (by omega)
        have mq58 : isNR q41 := isNR_of eq46 (by omega) (by omega)
        have hz9 : zF (up (σ.1 σ.2.2.1) σ.2.2.2.2.2.1 (-1)) = cv us44 σ.2.2.1 := zF_eq (by have q9 := hr53; rw [stM_1] at q9; exact q9)
        refine di_aload_n rfl rfl ?_
        refine di_const rfl ?_
        obtain ⟨⟨ni59, ni59c, ni59a, ni59b⟩, -⟩ := id hM38
        have sr60 : sR (stM σ σ.2.2.1 (up (σ.1 σ.2.2.1) σ.2.2.2.2.2.1 (-1))) := hM38.2.1
        have sr61 : 0 ≤ (stM σ σ.2.2.1 (up (σ.1 σ.2.2.1) σ.2.2.2.2.2.1 (-1))).2.2.2.1 ∧ (stM σ σ.2.2.1 (up (σ.1 σ.2.2.1) σ.2.2.2.2.2.1 (-1))).2.2.2.1 ≤ 1 := sr60.2.2.2.2.1
        have hc62 : h35[26]? = some (10, [.ref 27, .ref 31, .ref 35, dI 0, dI ni59, dI km, dI σ.2.1.1, dI σ.2.1.2.1, dI σ.2.1.2.2, dI σ.2.2.1, dI ((stM σ σ.2.2.1 (up (σ.1 σ.2.2.1) σ.2.2.2.2.2.1 (-1))).2.2.2.1), dI σ.2.2.2.2.1, dI σ.2.2.2.2.2.1]) := ni59c
        refine pfX rfl hc62 (Nat.le_of_ble_eq_true rfl) (fit_z (by omega) (by omega)) hI36 (by decide) (T37_md (by omega) (by omega) (by omega) (by omega) (by omega) (by omega) (by omega) (by omega) (by first | assumption | omega)) (fun h63 hI64 hk65 hc66 => ?_)
        have hc67 := (hk65.2 r40 (by omega)).trans hu47
        have hc68 := (hk65.2 q41 (by omega)).trans hw48
        have hc69 := (hk65.2 35 (by omega)).trans hs51
        have hF70 := FrM_tr hF39 (FrM_I hk65 (by omega) (by omega))
        have hM71 : MSt km 0 ((stM σ σ.2.2.1 (up (σ.1 σ.2.2.1) σ.2.2.2.2.2.1 (-1))).1, (σ.2.1.1, σ.2.1.2.1, σ.2.1.2.2), (σ.2.2.1, 0, σ.2.2.2.2.1, σ.2.2.2.2.2.1, σ.2.2.2.2.2.2)) h63 := MSt_md hM38 hk65 (ni' := ni59) hc66 rfl ⟨⟨(show (-1 : Int) ≤ σ.2.1.1 by omega), (show σ.2.1.1 ≤ (2 : Int) by omega)⟩, ⟨(show (-1 : Int) ≤ σ.2.1.2.1 by omega), (show σ.2.1.2.1 ≤ (99 : Int) by omega)⟩, ⟨(show (-1 : Int) ≤ σ.2.1.2.2 by omega), (show σ.2.1.2.2 ≤ (99 : Int) by omega)⟩, ⟨(show (-1 : Int) ≤ σ.2.2.1 by omega), (show σ.2.2.1 ≤ (2 : Int) by omega)⟩, ⟨(show (0 : Int) ≤ 0 by omega), (show 0 ≤ (1 : Int) by omega)⟩, ⟨(show (-1 : Int) ≤ σ.2.2.2.2.1 by omega), (show σ.2.2.2.2.1 ≤ (9999 : Int) by omega)⟩, (show σ.2.2.2.2.2.1 = -1 ∨ okC σ.2.2.2.2.2.1 by first | assumption | exact Or.inl rfl | exact Or.inr ⟨by omega, by omega, by omega⟩ | exact (by omega : σ.2.2.2.2.2.1 = -1 ∨ (0 ≤ σ.2.2.2.2.2.1 ∧ σ.2.2.2.2.2.1 ≤ 9999 ∧ σ.2.2.2.2.2.1 % 100 ≤ σ.2.2.2.2.2.1 / 100)))⟩ ⟨by omega, by omega⟩ ⟨by omega, by omega, ni59b.2⟩
        refine di_aload_n rfl rfl ?_
        refine di_const rfl ?_
        refine pfX rfl hc66 (Nat.le_of_ble_eq_true rfl) rfl hI64 (by decide) (T37_md (by omega) (by omega) (by omega) (by omega) (by omega) (by omega) (by omega) (by omega) (by first | assumption | omega)) (fun h72 hI73 hk74 hc75 => ?_)
        have hc76 := (hk74.2 r40 (by omega)).trans hc67
        have hc77 := (hk74.2 q41 (by omega)).trans hc68
        have hc78 := (hk74.2 35 (by omega)).trans hc69
        have hF79 := FrM_tr hF70 (FrM_I hk74 (by omega) (by omega))
        have hM80 : MSt km 0 ((stM σ σ.2.2.1 (up (σ.1 σ.2.2.1) σ.2.2.2.2.2.1 (-1))).1, (σ.2.1.1, σ.2.1.2.1, σ.2.1.2.2), (σ.2.2.1, 0, σ.2.2.2.2.1, (-1), σ.2.2.2.2.2.2)) h72 := MSt_md hM71 hk74 (ni' := ni59) hc75 rfl ⟨⟨(show (-1 : Int) ≤ σ.2.1.1 by omega), (show σ.2.1.1 ≤ (2 : Int) by omega)⟩, ⟨(show (-1 : Int) ≤ σ.2.1.2.1 by omega), (show σ.2.1.2.1 ≤ (99 : Int) by omega)⟩, ⟨(show (-1 : Int) ≤ σ.2.1.2.2 by omega), (show σ.2.1.2.2 ≤ (99 : Int) by omega)⟩, ⟨(show (-1 : Int) ≤ σ.2.2.1 by omega), (show σ.2.2.1 ≤ (2 : Int) by omega)⟩, ⟨(show (0 : Int) ≤ 0 by omega), (show 0 ≤ (1 : Int) by omega)⟩, ⟨(show (-1 : Int) ≤ σ.2.2.2.2.1 by omega), (show σ.2.2.2.2.1 ≤ (9999 : Int) by omega)⟩, (show (-1) = -1 ∨ okC (-1) by first | assumption | exact Or.inl rfl | exact Or.inr ⟨by omega, by omega, by omega⟩ | exact (by omega : (-1) = -1 ∨ (0 ≤ (-1) ∧ (-1) ≤ 9999 ∧ (-1) % 100 ≤ (-1) / 100)))⟩ ⟨by omega, by omega⟩ ⟨by omega, by omega, ni59b.2⟩
        refine di_aload_n rfl rfl ?_
        refine dr_getf rfl hc75 rfl ?_
        refine di_aload_n rfl rfl ?_
        refine dr_getf rfl hc75 rfl ?_
        refine di_iald rfl hc78 as52 (by omega) (by omega) (fun x81 x81f x81a x81b x81v => ?_)
        have x81w : cv us44 σ.2.2.1 = x81 := cv_eq x81v x81a x81b
        have x81g : 0 ≤ x81 ∧ x81 ≤ 8 := x81f
        exact dr_iret (ty := .int) rfl rfl rfl (by decide) (by decide) (QM_ok hI73 hF79 hM80 (by omega) (by omega) (by unfold spTakeOut; (repeat' split) <;> first | rfl | (exfalso; omega) | (apply Prod.ext <;> first | rfl | (dsimp only; omega) | (apply Prod.ext <;> first | rfl | (dsimp only; omega)))))
      · skip
        refine di_aload_n rfl rfl ?_
        refine dr_virt rfl rfl rfl rfl ni7c (n_X8_nine l hl hI3 hM5) (by decide) (by decide) (by decide) (Nat.le_of_ble_eq_true rfl) kNQN (kNQ (fun h82 hI83 hF84 hM85 => ?_))
        have hF86 := FrM_tr hF6 hF84
        exact dr_iret (ty := .int) rfl rfl rfl (by decide) (by decide) (QM_ok hI83 hF86 hM85 (by omega) (by omega) (by unfold spTakeOut; (repeat' split) <;> first | rfl | (exfalso; omega) | (apply Prod.ext <;> first | rfl | (dsimp only; omega) | (apply Prod.ext <;> first | rfl | (dsimp only; omega)))))
  · skip
    refine di_const rfl ?_
    refine dr_goto rfl rfl ?_
    refine di_const rfl ?_
    refine dr_virt rfl rfl rfl rfl c26 (f_X8_start1 l hl hI hM (a2 := 1) (by omega) (by omega)) (by decide) (by decide) (by decide) (Nat.le_of_ble_eq_true rfl) kNQN (kNQ (fun h87 hI88 hF89 hM90 => ?_))
    have hF91 := FrM_tr FrM_rf hF89
    refine di_if_eq rfl rfl (by omega) (by omega) (fun c9 => by exfalso; omega) (fun _ => ?_)
    refine di_const rfl ?_
    exact dr_iret (ty := .int) rfl rfl rfl (by decide) (by decide) (QM_no (x := 0) hI88 hF91 hM90 (by omega) (by omega) (by omega) (by unfold spTakeOut; (repeat' split) <;> first | rfl | (exfalso; omega) | (apply Prod.ext <;> first | rfl | (dsimp only; omega) | (apply Prod.ext <;> first | rfl | (dsimp only; omega)))))
set_option maxHeartbeats 4000000 in
set_option maxRecDepth 100000 in
/-- EarlyendsModel.next -/
theorem n_X8_next (l : Launch) (hl : l.stackTraces = false) {kc km : Int} {h : dm_H} (hI : Inv kc km h) {th : Int} {σ : St} (hM : MSt km th σ h)  : dm_M l 169 8 0 0 [.ref 26] h (QM9 kc km h (spNext σ)) := by
  obtain ⟨⟨ni, c26, ni0, ni1⟩, ⟨⟨R1, R2⟩, ⟨R3, R4⟩, ⟨R5, R6⟩, ⟨R7, R8⟩, ⟨R9, R10⟩, ⟨R11, R12⟩, R13⟩, ⟨th0, th1⟩, -⟩ := id hM
  have R14 : σ.2.2.2.2.2.1 = -1 ∨ (0 ≤ σ.2.2.2.2.2.1 ∧ σ.2.2.2.2.2.1 ≤ 9999 ∧ σ.2.2.2.2.2.1 % 100 ≤ σ.2.2.2.2.2.1 / 100) := R13
  refine dm_M_of dk_169 hl rfl (Nat.le_of_ble_eq_true rfl) ?_
  show dm_W (fun _ _ _ => True) (dm_P (QM9 kc km h (spNext σ)) 0 0) l 169 8 0 0 0 [some (.ref 26), none] [] h 0 0
  refine di_aload_n rfl rfl ?_
  refine di_aload_n rfl rfl ?_
  refine dr_getf rfl c26 rfl ?_
  refine di_const rfl ?_
  refine di_icmp_ne rfl rfl (by omega) (by omega) (by omega) (by omega) (fun c1 => ?_) (fun c1 => ?_)
  · skip
    refine di_const rfl ?_
    refine di_const rfl ?_
    refine dr_virt rfl rfl rfl rfl c26 (f_X8_start0 l hl hI hM (a2 := 1) (by omega) (by omega)) (by decide) (by decide) (by decide) (Nat.le_of_ble_eq_true rfl) kNQN (kNQ (fun h2 hI3 hF4 hM5 => ?_))
    have hF6 := FrM_tr FrM_rf hF4
    refine di_if_eq rfl rfl (by omega) (by omega) (fun _ => ?_) (fun c9 => by exfalso; omega)
    refine di_aload_n rfl rfl ?_
    obtain ⟨⟨ni7, ni7c, ni7a, ni7b⟩, -⟩ := id hM5
    refine dr_getf rfl ni7c rfl ?_
    refine di_if_eq rfl rfl (by omega) (by omega) (fun c8 => ?_) (fun c8 => ?_)
    · skip
      refine di_aload_n rfl rfl ?_
      refine di_aload_n rfl rfl ?_
      refine dr_getf rfl ni7c rfl ?_
      refine di_aload_n rfl rfl ?_
      refine dr_getf rfl ni7c rfl ?_
      refine di_const rfl ?_
      obtain ⟨r10, q11, u12, w13, us14, er15, eq16, hu17, hw18, au19, aw20, hs21, as22, hr23, sa24, sb25⟩ := MSt_bk hM5 (k := σ.2.2.1) (by omega) (by omega)
      have hz26 : zF (σ.1 σ.2.2.1) = cv us14 σ.2.2.1 := zF_eq hr23
      have mr27 : isCR r10 := isCR_of er15 (by omega) (by omega)
      have mq28 : isNR q11 := isNR_of eq16 (by omega) (by omega)
      refine dr_virt rfl rfl rfl rfl ni7c (n_X8_nearest l hl hI3 hM5 (a1 := σ.2.2.1) (by omega) (by omega) (a2 := σ.2.2.2.2.1) (by omega) (by omega) (a3 := 3) (by omega) (by omega) er15 eq16 hu17 hw18 au19 aw20 hs21 as22 hr23 sa24 sb25) (by decide) (by decide) (by decide) (Nat.le_of_ble_eq_true rfl) kNP (kIP (fun y29 y29f y29a y29b => ?_))
      obtain ⟨y29c, y29d, y29k⟩ := y29f
      obtain ⟨y29o, y29k⟩ := y29k
      have hn9 : sNext σ = y29 := (y29k.2 (by omega)).symm ▸ (congrArg (lst _) (funext fun c => by unfold soP; congr 1; exact propext ⟨fun q => Or.inr (Or.inr (Or.inr ⟨⟨by decide, by decide, by decide⟩, q⟩)), fun q => by omega⟩))
      refine di_istore_n (ls2 := [some (.ref 26), some (dI (y29))]) rfl rfl rfl ?_
      refine dr_iload_n rfl rfl ?_
      refine di_const rfl ?_
      refine di_icmp_ne rfl rfl (by omega) (by omega) (by omega) (by omega) (fun c30 => ?_) (fun c30 => ?_)
      · skip
        refine di_aload_n rfl rfl ?_
        refine dr_iload_n rfl rfl ?_
        refine pfX rfl ni7c (Nat.le_of_ble_eq_true rfl) rfl hI3 (by decide) (T37_md (by omega) (by omega) (by omega) (by omega) (by omega) (by omega) (by omega) (by omega) (by first | assumption | omega)) (fun h31 hI32 hk33 hc34 => ?_)
        have hc35 := (hk33.2 r10 (by omega)).trans hu17
        have hc36 := (hk33.2 q11 (by omega)).trans hw18
        have hc37 := (hk33.2 35 (by omega)).trans hs21
        have hF38 := FrM_tr hF6 (FrM_I hk33 (by omega) (by omega))
        have hM39 : MSt km 0 (σ.1, (σ.2.1.1, σ.2.1.2.1, σ.2.1.2.2), (σ.2.2.1, σ.2.2.2.1, y29, σ.2.2.2.2.2.1, σ.2.2.2.2.2.2)) h31 := MSt_md hM5 hk33 (ni' := ni7) hc34 rfl ⟨⟨(show (-1 : Int) ≤ σ.2.1.1 by omega), (show σ.2.1.1 ≤ (2 : Int) by omega)⟩, ⟨(show (-1 : Int) ≤ σ.2.1.2.1 by omega), (show σ.2.1.2.1 ≤ (99 : Int) by omega)⟩, ⟨(show (-1 : Int) ≤ σ.2.1.2.2 by omega), (show σ.2.1.2.2 ≤ (99 : Int) by omega)⟩, ⟨(show (-1 : Int) ≤ σ.2.2.1 by omega), (show σ.2.2.1 ≤ (2 : Int) by omega)⟩, ⟨(show (0 : Int) ≤ σ.2.2.2.1 by omega), (show σ.2.2.2.1 ≤ (1 : Int) by omega)⟩, ⟨(show (-1 : Int) ≤ y29 by omega), (show y29 ≤ (9999 : Int) by omega)⟩, (show σ.2.2.2.2.2.1 = -1 ∨ okC σ.2.2.2.2.2.1 by first | assumption | exact Or.inl rfl | exact Or.inr ⟨by omega, by omega, by omega⟩ | exact (by omega : σ.2.2.2.2.2.1 = -1 ∨ (0 ≤ σ.2.2.2.2.2.1 ∧ σ.2.2.2.2.2.1 ≤ 9999 ∧ σ.2.2.2.2.2.1 % 100 ≤ σ.2.2.2.2.2.1 / 100)))⟩ ⟨by omega, by omega⟩ ⟨by omega, by omega, ni7b.2⟩
        refine di_aload_n rfl rfl ?_
        refine dr_iload_n rfl rfl ?_
        refine pfX rfl hc34 (Nat.le_of_ble_eq_true rfl) rfl hI32 (by decide) (T37_md (by omega) (by omega) (by omega) (by omega) (by omega) (by omega) (by omega) (by omega) (by first | assumption | omega)) (fun h40 hI41 hk42 hc43 => ?_)
        have hc44 := (hk42.2 r10 (by omega)).trans hc35
        have hc45 := (hk42.2 q11 (by omega)).trans hc36
        have hc46 := (hk42.2 35 (by omega)).trans hc37
        have hF47 := FrM_tr hF38 (FrM_I hk42 (by omega) (by omega))
        have hM48 : MSt km 0 (σ.1, (σ.2.1.1, σ.2.1.2.1, σ.2.1.2.2), (σ.2.2.1, σ.2.2.2.1, y29, y29, σ.2.2.2.2.2.2)) h40 := MSt_md hM39 hk42 (ni' := ni7) hc43 rfl ⟨⟨(show (-1 : Int) ≤ σ.2.1.1 by omega), (show σ.2.1.1 ≤ (2 : Int) by omega)⟩, ⟨(show (-1 : Int) ≤ σ.2.1.2.1 by omega), (show σ.2.1.2.1 ≤ (99 : Int) by omega)⟩, ⟨(show (-1 : Int) ≤ σ.2.1.2.2 by omega), (show σ.2.1.2.2 ≤ (99 : Int) by omega)⟩, ⟨(show (-1 : Int) ≤ σ.2.2.1 by omega), (show σ.2.2.1 ≤ (2 : Int) by omega)⟩, ⟨(show (0 : Int) ≤ σ.2.2.2.1 by omega), (show σ.2.2.2.1 ≤ (1 : Int) by omega)⟩, ⟨(show (-1 : Int) ≤ y29 by omega), (show y29 ≤ (9999 : Int) by omega)⟩, (show y29 = -1 ∨ okC y29 by first | assumption | exact Or.inl rfl | exact Or.inr ⟨by omega, by omega, by omega⟩ | exact (by omega : y29 = -1 ∨ (0 ≤ y29 ∧ y29 ≤ 9999 ∧ y29 % 100 ≤ y29 / 100)))⟩ ⟨by omega, by omega⟩ ⟨by omega, by omega, ni7b.2⟩
        refine dr_iload_n rfl rfl ?_
        exact dr_iret (ty := .int) rfl rfl rfl (by decide) (by decide) (QM_ok hI41 hF47 hM48 (by omega) (by omega) (by unfold spNext; (try rw [hn9]); (repeat' split) <;> first | rfl | (exfalso; omega) | (apply Prod.ext <;> first | rfl | (dsimp only; omega) | (apply Prod.ext <;> first | rfl | (dsimp only; omega)))))
      · skip
        refine di_const rfl ?_
        exact dr_iret (ty := .int) rfl rfl rfl (by decide) (by decide) (QM_ok hI3 hF6 hM5 (by omega) (by omega) (by unfold spNext; (try rw [hn9]); (repeat' split) <;> first | rfl | (exfalso; omega) | (apply Prod.ext <;> first | rfl | (dsimp only; omega) | (apply Prod.ext <;> first | rfl | (dsimp only; omega)))))
    · skip
      refine di_aload_n rfl rfl ?_
      refine dr_virt rfl rfl rfl rfl ni7c (n_X8_nine l hl hI3 hM5) (by decide) (by decide) (by decide) (Nat.le_of_ble_eq_true rfl) kNQN (kNQ (fun h49 hI50 hF51 hM52 => ?_))
      have hF53 := FrM_tr hF6 hF51
      exact dr_iret (ty := .int) rfl rfl rfl (by decide) (by decide) (QM_ok hI50 hF53 hM52 (by omega) (by omega) (by unfold spNext; (try rw [hn9]); (repeat' split) <;> first | rfl | (exfalso; omega) | (apply Prod.ext <;> first | rfl | (dsimp only; omega) | (apply Prod.ext <;> first | rfl | (dsimp only; omega)))))
  · skip
    refine di_const rfl ?_
    refine dr_goto rfl rfl ?_
    refine di_const rfl ?_
    refine dr_virt rfl rfl rfl rfl c26 (f_X8_start1 l hl hI hM (a2 := 1) (by omega) (by omega)) (by decide) (by decide) (by decide) (Nat.le_of_ble_eq_true rfl) kNQN (kNQ (fun h54 hI55 hF56 hM57 => ?_))
    have hF58 := FrM_tr FrM_rf hF56
    refine di_if_eq rfl rfl (by omega) (by omega) (fun c9 => by exfalso; omega) (fun _ => ?_)
    refine di_const rfl ?_
    exact dr_iret (ty := .int) rfl rfl rfl (by decide) (by decide) (QM_no (x := 0) hI55 hF58 hM57 (by omega) (by omega) (by omega) (by unfold spNext; (try rw [hn9]); (repeat' split) <;> first | rfl | (exfalso; omega) | (apply Prod.ext <;> first | rfl | (dsimp only; omega) | (apply Prod.ext <;> first | rfl | (dsimp only; omega)))))
