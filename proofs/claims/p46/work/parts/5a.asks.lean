/-! ===== rows of codes: what the model's helpers answer ===== -/
def mt (f : Int → Int) (k r : Int) : Prop := f k % 100 ≤ f r / 100 ∧ f r % 100 ≤ f k / 100
def okV (v : List Value) (n : Nat) : Prop := ∀ j : Int, 0 ≤ j → j < n → 0 ≤ cv v j ∧ cv v j % 100 ≤ cv v j / 100
theorem isof_h {S r x : Int} (h0 : 0 ≤ r) (e : bb S (r + 1) = bb S r + x) : (x = 1 → hbt S r) ∧ (x = 0 → ¬ hbt S r) := by
  rcases bb_s (S := S) (r := r) h0 with ⟨e1, e2⟩ | ⟨e1, e2⟩
  · exact ⟨fun _ => e2, fun q => by omega⟩
  · exact ⟨fun q => by omega, fun _ => e2⟩
def apO (f : Int → Int) (A a : Int) : Prop := ∀ r k : Int, 0 ≤ k → k < r → r < a → hbt A r → hbt A k → ¬ mt f k r
def apN (f : Int → Int) (A a b : Int) : Prop := ∀ k : Int, 0 ≤ k → k < b → hbt A a → hbt A k → ¬ mt f k a
section AP
variable {f : Int → Int} {A a b n h h2 m : Int}
theorem apO_0 : apO f A 0 := fun r k h0 h1 h2 => by omega
theorem apN_0 : apN f A a 0 := fun k h0 h1 => by omega
theorem apN_s (h : apN f A a b) (q : hbt A a → hbt A b → ¬ mt f b a) : apN f A a (b + 1) := fun k k0 k1 h1 h2 => by
  by_cases e : k = b
  · rw [e] at h2 ⊢; exact q h1 h2
  · exact h k k0 (by omega) h1 h2
theorem apO_s (h : apO f A a) (q : apN f A a b) (e : a ≤ b) : apO f A (a + 1) := fun r k k0 k1 r1 h1 h2 => by
  by_cases c : r = a
  · rw [c] at h1 k1 ⊢; exact q k k0 (by omega) h1 h2
  · exact h r k k0 k1 (by omega) h1 h2
theorem apO_e (h : apO f A a) (e : n ≤ a) : apt f n A := fun r k r0 r1 k0 k1 ar ak ne q => by
  rcases Int.lt_or_gt_of_ne ne with c | c
  · exact h k r r0 c (by omega) ak ar ⟨q.2, q.1⟩
  · exact h r k k0 c (by omega) ar ak ⟨q.1, q.2⟩
theorem ap_x (b0 : 0 ≤ b) (b1 : b < a) (a1 : a < n) (h1 : hbt A a) (h2 : hbt A b) (q : mt f b a) : ¬ apt f n A := fun h => h a b (by omega) a1 b0 (by omega) h1 h2 (by omega) ⟨q.1, q.2⟩
/-- the ranks held, and how many are not -/
def heQ (f : Int → Int) (n A r : Int) : Prop := ∃ k : Int, 0 ≤ k ∧ k < n ∧ hbt A k ∧ f r % 100 ≤ f k / 100 ∧ f k / 100 ≤ f r / 100
noncomputable def nhP (f : Int → Int) (n A : Int) : Int → Bool := fun r => @decide (¬ heQ f n A r) (Classical.propDecidable _)
noncomputable def unC (f : Int → Int) (n : Nat) (A : Int) : Int := cnt (fun j => j) (nhP f n A) n
def unP (f : Int → Int) (n A m a : Int) : Prop := m = cnt (fun j => j) (nhP f n A) a.toNat
def heI (f : Int → Int) (n A a h b : Int) : Prop := (h = 1 ∧ heQ f n A a) ∨ (h = 0 ∧ ∀ k : Int, 0 ≤ k → k < b → ¬ (hbt A k ∧ f a % 100 ≤ f k / 100 ∧ f k / 100 ≤ f a / 100))
theorem unP_0 : unP f n A 0 0 := rfl
theorem heI_0 : heI f n A a 0 0 := Or.inr ⟨rfl, fun k h0 h1 => by omega⟩
theorem heI_n (h9 : heI f n A a h b) (q : ¬ (hbt A b ∧ f a % 100 ≤ f b / 100 ∧ f b / 100 ≤ f a / 100)) : heI f n A a h (b + 1) := by
  rcases h9 with h9 | ⟨h0, h1⟩
  · exact Or.inl h9
  · refine Or.inr ⟨h0, fun k k0 k1 => ?_⟩
    by_cases e : k = b
    · rw [e]; exact q
    · exact h1 k k0 (by omega)
theorem heI_y {x : Int} (b0 : 0 ≤ b) (b1 : b < n) (e : x = 1) (q : hbt A b ∧ f a % 100 ≤ f b / 100 ∧ f b / 100 ≤ f a / 100) : heI f n A a x (b + 1) := Or.inl ⟨e, b, b0, b1, q⟩
theorem unP_y (h9 : unP f n A m a) (a0 : 0 ≤ a) (q : heI f n A a h b) (e : h ≠ 0) : unP f n A m (a + 1) := by
  unfold unP at *
  rw [cnt_st a0, ← h9]
  have : heQ f n A a := by
    rcases q with q | q
    · exact q.2
    · exact absurd q.1 e
  rw [if_neg (fun z => (@of_decide_eq_true _ (Classical.propDecidable _) z) this)]
  omega
theorem unP_n (h9 : unP f n A m a) (a0 : 0 ≤ a) (q : heI f n A a h b) (e : h = 0) (hb : n ≤ b) : unP f n A (m + 1) (a + 1) := by
  unfold unP at *
  rw [cnt_st a0, ← h9]
  have : ¬ heQ f n A a := by
    rcases q with q | q
    · omega
    · exact fun ⟨k, k0, k1, k2⟩ => q.2 k k0 (by omega) k2
  rw [if_pos (show nhP f n A a = true from @decide_eq_true _ (Classical.propDecidable _) this)]
theorem unP_e {N : Nat} (h9 : unP f (N : Int) A m a) (e : a = N) : m = unC f N A := by
  subst e
  exact h9
end AP
theorem hs_ex {H : Int → Prop} : ∀ n : Nat, n ≤ 8 → ∃ S : Int, hsP S n H
  | 0, _ => ⟨0, hs_0⟩
  | n + 1, h => by
    obtain ⟨S, hS⟩ := hs_ex (H := H) n (by omega)
    rw [show ((n + 1 : Nat) : Int) = (n : Int) + 1 by omega]
    by_cases q : H (n : Int)
    · exact ⟨_, hs_y hS (by omega) (by omega) q rfl rfl⟩
    · exact ⟨S, hs_n hS q⟩
theorem cnt_nt {f : Int → Int} {P Q : Int → Bool} : ∀ n : Nat, (∀ j : Int, 0 ≤ j → j < n → (P (f j) = true ↔ ¬ Q (f j) = true)) → cnt f P n + cnt f Q n = n
  | 0, _ => rfl
  | n + 1, h => by
    have ih := cnt_nt n (fun j j0 j1 => h j j0 (by omega))
    have k := h n (by omega) (by omega)
    show cnt f P n + (if P (f (n : Int)) then 1 else 0) + (cnt f Q n + (if Q (f (n : Int)) then 1 else 0)) = ((n + 1 : Nat) : Int)
    by_cases q : Q (f (n : Int)) = true
    · rw [if_pos q, if_neg (fun z => (k.mp z) q)]; omega
    · rw [if_neg q, if_pos (k.mpr q)]; omega
theorem un_e {F : Int → Int} {A : Int} {v : List Value} {n : Nat} (hT : sRp F) (n8 : n ≤ 8) (e : (n : Int) = zF F) (hv : ∀ j : Int, 0 ≤ j → j < n → cv v j = cR F j) : anUnheld F A = unC (cv v) n A := by
  obtain ⟨f0, g0, s0, r0, t0⟩ := hT
  have es : s0 = n := by rw [e, zF_eq r0]
  subst es
  have hf : ∀ j : Int, 0 ≤ j → j < (n : Int) → f0 j = cv v j := fun j j0 j1 => by rw [hv j j0 j1, cR_eq r0 t0 j0 j1]
  obtain ⟨S, hS⟩ := hs_ex (H := heQ f0 (n : Int) A) n n8
  have hP : heP S (n : Int) (n : Int) f0 A := hS
  rw [unh_e r0 t0 hP]
  have k1 := bb_cnt (f := fun j => j) (P := fun r => @decide (heQ f0 (n : Int) A r) (Classical.propDecidable _)) hS (by omega) (by omega) (fun r => @decide_eq_true_iff _ (Classical.propDecidable _))
  have k2 : cnt (fun j => j) (nhP (cv v) (n : Int) A) n + cnt (fun j => j) (fun r => @decide (heQ f0 (n : Int) A r) (Classical.propDecidable _)) n = n := cnt_nt n (fun j j0 j1 => by
    show (nhP (cv v) (n : Int) A j = true ↔ ¬ (@decide (heQ f0 (n : Int) A j) (Classical.propDecidable _)) = true)
    unfold nhP
    rw [@decide_eq_true_iff _ (Classical.propDecidable _), @decide_eq_true_iff _ (Classical.propDecidable _)]
    refine not_congr ⟨fun ⟨k, k0, k1, k2, k3⟩ => ⟨k, k0, k1, k2, ?_⟩, fun ⟨k, k0, k1, k2, k3⟩ => ⟨k, k0, k1, k2, ?_⟩⟩
    · rw [hf j j0 j1, hf k k0 k1]; exact k3
    · rw [← hf j j0 j1, ← hf k k0 k1]; exact k3)
  rw [show (n : Int).toNat = n by omega] at k1
  rw [k1]
  unfold unC
  omega
/-- the room of a rank among those that are housed -/
def fr1 (f v : Int → Int) (n r q i : Int) : Prop := ∀ k : Int, 0 ≤ k → k < i → v k = q → ¬ mt f k r
def hasR (f v : Int → Int) (n r q : Int) : Prop := ∃ k : Int, 0 ≤ k ∧ k < n ∧ v k = q ∧ mt f k r
def frV (f v : Int → Int) (n r x : Int) : Prop := 0 ≤ x ∧ fr1 f v n r x n ∧ ∀ q : Int, 0 ≤ q → q < x → hasR f v n r q
def frK (f v : Int → Int) (n r q h i : Int) : Prop := (h = 1 ∧ fr1 f v n r q i) ∨ (h = 0 ∧ hasR f v n r q)
section FRR
variable {f v : Int → Int} {n r q i h x : Int}
theorem frK_0 : frK f v n r q 1 0 := Or.inl ⟨rfl, fun k h0 h1 => by omega⟩
theorem frK_n (h9 : frK f v n r q h i) (z : v i = q → ¬ mt f i r) : frK f v n r q h (i + 1) := h9.imp (fun ⟨a, b⟩ => ⟨a, fun k k0 k1 kq => by
  by_cases e : k = i
  · rw [e] at kq ⊢; exact z kq
  · exact b k k0 (by omega) kq⟩) id
theorem frK_y {h2 : Int} (e : h2 = 0) (i0 : 0 ≤ i) (i1 : i < n) (a : v i = q) (b : mt f i r) : frK f v n r q h2 (i + 1) := Or.inr ⟨e, i, i0, i1, a, b⟩
theorem frK_f (h9 : frK f v n r q h i) (e : h ≠ 0) (hi : n ≤ i) : fr1 f v n r q n := by
  rcases h9 with h9 | h9
  · exact fun k k0 k1 => h9.2 k k0 (by omega)
  · exact absurd h9.1 e
theorem frK_h (h9 : frK f v n r q h i) (e : h = 0) : hasR f v n r q := by
  rcases h9 with h9 | h9
  · omega
  · exact h9.2
end FRR
set_option maxHeartbeats 4000000 in
set_option maxRecDepth 100000 in
/-- EarlyendsModel.areMeeting -/
theorem s_X8_areMeeting_d (l : Launch) (hl : l.stackTraces = false) {kc km : Int} {h : dm_H} (hI : Inv kc km h) {a0 : Int} (h0a : 0 ≤ a0) (h0b : a0 ≤ 9999) {a1 : Int} (h1a : 0 ≤ a1) (h1b : a1 ≤ 9999) (hp0 : a0 % 100 ≤ a0 / 100) (hp1 : a1 % 100 ≤ a1 / 100) : dm_M l 186 1 0 0 [dI (a0), dI (a1)] h (QP h (RI (fun x => 0 ≤ x ∧ x ≤ 1 ∧ (x = 1 → a0 % 100 ≤ a1 / 100 ∧ a1 % 100 ≤ a0 / 100) ∧ (x = 0 → a1 / 100 < a0 % 100 ∨ a0 / 100 < a1 % 100))) []) := by
  refine dm_M_of dk_186 hl rfl (Nat.le_of_ble_eq_true rfl) ?_
  show dm_W (fun _ _ _ => True) (dm_P (QP h (RI (fun x => 0 ≤ x ∧ x ≤ 1 ∧ (x = 1 → a0 % 100 ≤ a1 / 100 ∧ a1 % 100 ≤ a0 / 100) ∧ (x = 0 → a1 / 100 < a0 % 100 ∨ a0 / 100 < a1 % 100))) []) 0 0) l 186 1 0 0 0 [some (dI (a0)), some (dI (a1)), none] [] h 0 0
  refine dr_iload_n rfl rfl ?_
  refine di_bipush rfl (by decide) ?_
  refine di_irem rfl (by omega) (by omega) (by omega) (by omega) ?_
  refine dr_iload_n rfl rfl ?_
  refine di_bipush rfl (by decide) ?_
  refine di_irem rfl (by omega) (by omega) (by omega) (by omega) ?_
  refine di_icmp_le rfl rfl (by omega) (by omega) (by omega) (by omega) (fun c1 => ?_) (fun c1 => ?_)
  · skip
    refine dr_iload_n rfl rfl ?_
    refine di_bipush rfl (by decide) ?_
    refine di_irem rfl (by omega) (by omega) (by omega) (by omega) ?_
    refine di_istore_n (ls2 := [some (dI (a0)), some (dI (a1)), some (dI ((a1 % 100)))]) rfl rfl rfl ?_
    refine dr_iload_n rfl rfl ?_
    refine dr_iload_n rfl rfl ?_
    refine dr_stat rfl rfl rfl rfl (s_X8_isHolding_d l hl hI (a0 := a0) (by omega) (by omega) (a1 := (a1 % 100)) (by omega) (by omega)) (by decide) (by decide) (by decide) (Nat.le_of_ble_eq_true rfl) kNP (kIP (fun y2 y2f y2a y2b => ?_))
    have y2g : 0 ≤ y2 ∧ y2 ≤ 1 ∧ (y2 = 1 → (a0) % 100 ≤ ((a1 % 100)) ∧ ((a1 % 100)) ≤ (a0) / 100) ∧ (y2 = 0 → ((a1 % 100)) < (a0) % 100 ∨ (a0) / 100 < ((a1 % 100))) := y2f
    refine di_if_eq rfl rfl (by omega) (by omega) (fun c3 => ?_) (fun c3 => ?_)
    · skip
      refine di_const rfl ?_
      exact dr_iret (ty := .boolean) rfl rfl (nar_z (by omega) (by omega)) (by decide) (by decide) ⟨rfl, 0, (show 0 ≤ (0) ∧ (0) ≤ 1 ∧ ((0) = 1 → a0 % 100 ≤ a1 / 100 ∧ a1 % 100 ≤ a0 / 100) ∧ ((0) = 0 → a1 / 100 < a0 % 100 ∨ a0 / 100 < a1 % 100) by omega), by omega, by omega, rfl⟩
    · skip
      refine dr_iload_n rfl rfl ?_
      refine dr_iload_n rfl rfl ?_
      refine dr_stat rfl rfl rfl rfl (s_X8_isHolding_d l hl hI (a0 := a1) (by omega) (by omega) (a1 := (a1 % 100)) (by omega) (by omega)) (by decide) (by decide) (by decide) (Nat.le_of_ble_eq_true rfl) kNP (kIP (fun y4 y4f y4a y4b => ?_))
      have y4g : 0 ≤ y4 ∧ y4 ≤ 1 ∧ (y4 = 1 → (a1) % 100 ≤ ((a1 % 100)) ∧ ((a1 % 100)) ≤ (a1) / 100) ∧ (y4 = 0 → ((a1 % 100)) < (a1) % 100 ∨ (a1) / 100 < ((a1 % 100))) := y4f
      refine di_if_eq rfl rfl (by omega) (by omega) (fun c5 => ?_) (fun c5 => ?_)
      · skip
        refine di_const rfl ?_
        exact dr_iret (ty := .boolean) rfl rfl (nar_z (by omega) (by omega)) (by decide) (by decide) ⟨rfl, 0, (show 0 ≤ (0) ∧ (0) ≤ 1 ∧ ((0) = 1 → a0 % 100 ≤ a1 / 100 ∧ a1 % 100 ≤ a0 / 100) ∧ ((0) = 0 → a1 / 100 < a0 % 100 ∨ a0 / 100 < a1 % 100) by omega), by omega, by omega, rfl⟩
      · skip
        refine di_const rfl ?_
        refine dr_goto rfl rfl ?_
        exact dr_iret (ty := .boolean) rfl rfl (nar_z (by omega) (by omega)) (by decide) (by decide) ⟨rfl, 1, (show 0 ≤ (1) ∧ (1) ≤ 1 ∧ ((1) = 1 → a0 % 100 ≤ a1 / 100 ∧ a1 % 100 ≤ a0 / 100) ∧ ((1) = 0 → a1 / 100 < a0 % 100 ∨ a0 / 100 < a1 % 100) by omega), by omega, by omega, rfl⟩
  · skip
    refine dr_iload_n rfl rfl ?_
    refine di_bipush rfl (by decide) ?_
    refine di_irem rfl (by omega) (by omega) (by omega) (by omega) ?_
    refine dr_goto rfl rfl ?_
    refine di_istore_n (ls2 := [some (dI (a0)), some (dI (a1)), some (dI ((a0 % 100)))]) rfl rfl rfl ?_
    refine dr_iload_n rfl rfl ?_
    refine dr_iload_n rfl rfl ?_
    refine dr_stat rfl rfl rfl rfl (s_X8_isHolding_d l hl hI (a0 := a0) (by omega) (by omega) (a1 := (a0 % 100)) (by omega) (by omega)) (by decide) (by decide) (by decide) (Nat.le_of_ble_eq_true rfl) kNP (kIP (fun y6 y6f y6a y6b => ?_))
    have y6g : 0 ≤ y6 ∧ y6 ≤ 1 ∧ (y6 = 1 → (a0) % 100 ≤ ((a0 % 100)) ∧ ((a0 % 100)) ≤ (a0) / 100) ∧ (y6 = 0 → ((a0 % 100)) < (a0) % 100 ∨ (a0) / 100 < ((a0 % 100))) := y6f
    refine di_if_eq rfl rfl (by omega) (by omega) (fun c7 => ?_) (fun c7 => ?_)
    · skip
      refine di_const rfl ?_
      exact dr_iret (ty := .boolean) rfl rfl (nar_z (by omega) (by omega)) (by decide) (by decide) ⟨rfl, 0, (show 0 ≤ (0) ∧ (0) ≤ 1 ∧ ((0) = 1 → a0 % 100 ≤ a1 / 100 ∧ a1 % 100 ≤ a0 / 100) ∧ ((0) = 0 → a1 / 100 < a0 % 100 ∨ a0 / 100 < a1 % 100) by omega), by omega, by omega, rfl⟩
    · skip
      refine dr_iload_n rfl rfl ?_
      refine dr_iload_n rfl rfl ?_
      refine dr_stat rfl rfl rfl rfl (s_X8_isHolding_d l hl hI (a0 := a1) (by omega) (by omega) (a1 := (a0 % 100)) (by omega) (by omega)) (by decide) (by decide) (by decide) (Nat.le_of_ble_eq_true rfl) kNP (kIP (fun y8 y8f y8a y8b => ?_))
      have y8g : 0 ≤ y8 ∧ y8 ≤ 1 ∧ (y8 = 1 → (a1) % 100 ≤ ((a0 % 100)) ∧ ((a0 % 100)) ≤ (a1) / 100) ∧ (y8 = 0 → ((a0 % 100)) < (a1) % 100 ∨ (a1) / 100 < ((a0 % 100))) := y8f
      refine di_if_eq rfl rfl (by omega) (by omega) (fun c9 => ?_) (fun c9 => ?_)
      · skip
        refine di_const rfl ?_
        exact dr_iret (ty := .boolean) rfl rfl (nar_z (by omega) (by omega)) (by decide) (by decide) ⟨rfl, 0, (show 0 ≤ (0) ∧ (0) ≤ 1 ∧ ((0) = 1 → a0 % 100 ≤ a1 / 100 ∧ a1 % 100 ≤ a0 / 100) ∧ ((0) = 0 → a1 / 100 < a0 % 100 ∨ a0 / 100 < a1 % 100) by omega), by omega, by omega, rfl⟩
      · skip
        refine di_const rfl ?_
        refine dr_goto rfl rfl ?_
        exact dr_iret (ty := .boolean) rfl rfl (nar_z (by omega) (by omega)) (by decide) (by decide) ⟨rfl, 1, (show 0 ≤ (1) ∧ (1) ≤ 1 ∧ ((1) = 1 → a0 % 100 ≤ a1 / 100 ∧ a1 % 100 ≤ a0 / 100) ∧ ((1) = 0 → a1 / 100 < a0 % 100 ∨ a0 / 100 < a1 % 100) by omega), by omega, by omega, rfl⟩
set_option maxHeartbeats 4000000 in
set_option maxRecDepth 100000 in
/-- EarlyendsModel.isApart -/
theorem s_X8_isApart_f (l : Launch) (hl : l.stackTraces = false) {kc km : Int} {h : dm_H} (hI : Inv kc km h) {b0 n0 : Nat} {v0 : List Value} (hv0 : h[b0]? = some (20, v0)) (hz0 : arr n0 okR v0) (hn0 : n0 ≤ 8) {a1 : Int} (h1a : 0 ≤ a1) (h1b : a1 ≤ 255) (hv : okV v0 n0) : dm_M l 194 2 0 0 [.ref b0, dI (a1)] h (QP h (RI (fun x => 0 ≤ x ∧ x ≤ 1 ∧ (x = 1 → apt (cv v0) n0 a1) ∧ (x = 0 → ¬ apt (cv v0) n0 a1))) []) := by
  refine dm_M_of dk_194 hl rfl (Nat.le_of_ble_eq_true rfl) ?_
  show dm_W (fun _ _ _ => True) (dm_P (QP h (RI (fun x => 0 ≤ x ∧ x ≤ 1 ∧ (x = 1 → apt (cv v0) n0 a1) ∧ (x = 0 → ¬ apt (cv v0) n0 a1))) []) 0 0) l 194 2 0 0 0 [some (.ref b0), some (dI (a1)), none, none] [] h 0 0
  have lt0 := App_lt hv0
  refine di_const rfl ?_
  refine di_istore_n (ls2 := [some (.ref b0), some (dI (a1)), some (dI (0)), none]) rfl rfl rfl ?_
  have L2 : ∀ (n : Nat) (i1 : Int), (8 - i1).toNat < n → 0 ≤ i1 → i1 ≤ 8 → apO (cv v0) a1 i1 → dm_W (fun _ _ _ => True) (dm_P (QP h (RI (fun x => 0 ≤ x ∧ x ≤ 1 ∧ (x = 1 → apt (cv v0) n0 a1) ∧ (x = 0 → ¬ apt (cv v0) n0 a1))) []) 0 0) l 194 2 0 0 2 [some (.ref b0), some (dI (a1)), some (dI (i1)), none] [] h 0 0 := by
    intro n
    induction n with
    | zero => intro i1 hm; exact absurd hm (Nat.not_lt_zero _)
    | succ n ih =>
      intro i1 hm5 hb3 hb4 PO
      have ihL2 := ih
      clear ih
      refine dr_iload_n rfl rfl ?_
      refine di_aload_n rfl rfl ?_
      refine di_alen (n := n0) rfl hv0 (Or.inl rfl) hz0.1 ?_
      refine di_icmp_ge rfl rfl (by omega) (by omega) (by omega) (by omega) (fun c6 => ?_) (fun c6 => ?_)
      · skip
        refine di_const rfl ?_
        exact dr_iret (ty := .boolean) rfl rfl (nar_z (by omega) (by omega)) (by decide) (by decide) ⟨rfl, 1, ⟨by omega, by omega, fun _ => apO_e PO (by omega), fun e => absurd e (by decide)⟩, by omega, by omega, rfl⟩
      · skip
        refine di_const rfl ?_
        refine di_istore_n (ls2 := [some (.ref b0), some (dI (a1)), some (dI (i1)), some (dI (0))]) rfl rfl rfl ?_
        have L8 : ∀ (n : Nat) (i7 : Int), (8 - i7).toNat < n → 0 ≤ i7 → i7 ≤ 8 → apN (cv v0) a1 i1 i7 → dm_W (fun _ _ _ => True) (dm_P (QP h (RI (fun x => 0 ≤ x ∧ x ≤ 1 ∧ (x = 1 → apt (cv v0) n0 a1) ∧ (x = 0 → ¬ apt (cv v0) n0 a1))) []) 0 0) l 194 2 0 0 10 [some (.ref b0), some (dI (a1)), some (dI (i1)), some (dI (i7))] [] h 0 0 := by
          intro n
          induction n with
          | zero => intro i7 hm; exact absurd hm (Nat.not_lt_zero _)
          | succ n ih =>
            intro i7 hm11 hb9 hb10 PN
            have ihL8 := ih
            clear ih
            refine dr_iload_n rfl rfl ?_
            refine dr_iload_n rfl rfl ?_
            refine di_icmp_ge rfl rfl (by omega) (by omega) (by omega) (by omega) (fun c12 => ?_) (fun c12 => ?_)
            · skip
              refine di_iinc (ls2 := [some (.ref b0), some (dI (a1)), some (dI ((i1 + 1))), some (dI (i7))]) rfl rfl rfl rfl ?_
              refine dr_goto rfl rfl ?_
              refine dm_wk (ls2 := [some (.ref b0), some (dI (a1)), some (dI ((i1 + 1))), none]) ⟨Or.inr rfl, Or.inr rfl, Or.inr rfl, Or.inl rfl, trivial⟩ ?_
              exact ihL2 ((i1 + 1)) (by omega) (by omega) (by omega)  (apO_s PO PN (by omega))
            · skip
              refine dr_iload_n rfl rfl ?_
              refine dr_iload_n rfl rfl ?_
              refine dr_stat rfl rfl rfl rfl (s_X8_isOf_s l hl hI (a0 := a1) (by omega) (by omega) (a1 := i1) (by omega) (by omega)) (by decide) (by decide) (by decide) (Nat.le_of_ble_eq_true rfl) kNP (kIP (fun y13 y13f y13a y13b => ?_))
              have y13g : 0 ≤ y13 ∧ y13 ≤ 1 ∧ bb (a1) ((i1) + 1) = bb (a1) (i1) + y13 := y13f
              have y13h := isof_h (S := a1) (r := i1) (by omega) y13g.2.2
              refine di_if_eq rfl rfl (by omega) (by omega) (fun c14 => ?_) (fun c14 => ?_)
              · skip
                refine di_iinc (ls2 := [some (.ref b0), some (dI (a1)), some (dI (i1)), some (dI ((i7 + 1)))]) rfl rfl rfl rfl ?_
                refine dr_goto rfl rfl ?_
                exact ihL8 ((i7 + 1)) (by omega) (by omega) (by omega)  (apN_s PN (fun h1 _ => absurd h1 (y13h.2 (by omega))))
              · skip
                refine dr_iload_n rfl rfl ?_
                refine dr_iload_n rfl rfl ?_
                refine dr_stat rfl rfl rfl rfl (s_X8_isOf_s l hl hI (a0 := a1) (by omega) (by omega) (a1 := i7) (by omega) (by omega)) (by decide) (by decide) (by decide) (Nat.le_of_ble_eq_true rfl) kNP (kIP (fun y15 y15f y15a y15b => ?_))
                have y15g : 0 ≤ y15 ∧ y15 ≤ 1 ∧ bb (a1) ((i7) + 1) = bb (a1) (i7) + y15 := y15f
                have y15h := isof_h (S := a1) (r := i7) (by omega) y15g.2.2
                refine di_if_eq rfl rfl (by omega) (by omega) (fun c16 => ?_) (fun c16 => ?_)
                · skip
                  refine di_iinc (ls2 := [some (.ref b0), some (dI (a1)), some (dI (i1)), some (dI ((i7 + 1)))]) rfl rfl rfl rfl ?_
                  refine dr_goto rfl rfl ?_
                  exact ihL8 ((i7 + 1)) (by omega) (by omega) (by omega)  (apN_s PN (fun _ h2 => absurd h2 (y15h.2 (by omega))))
                · skip
                  refine di_aload_n rfl rfl ?_
                  refine dr_iload_n rfl rfl ?_
                  refine di_iald rfl hv0 hz0 (by omega) (by omega) (fun x17 x17f x17a x17b x17v => ?_)
                  have x17g : -1 ≤ x17 ∧ x17 ≤ 9999 := x17f
                  have x17w : cv v0 (i1) = x17 := cv_eq x17v x17a x17b
                  have x17o := hv (i1) (by omega) (by omega)
                  rw [x17w] at x17o
                  refine di_aload_n rfl rfl ?_
                  refine dr_iload_n rfl rfl ?_
                  refine di_iald rfl hv0 hz0 (by omega) (by omega) (fun x18 x18f x18a x18b x18v => ?_)
                  have x18g : -1 ≤ x18 ∧ x18 ≤ 9999 := x18f
                  have x18w : cv v0 (i7) = x18 := cv_eq x18v x18a x18b
                  have x18o := hv (i7) (by omega) (by omega)
                  rw [x18w] at x18o
                  refine dr_stat rfl rfl rfl rfl (s_X8_areMeeting_d l hl hI (a0 := x17) (by omega) (by omega) (a1 := x18) (by omega) (by omega) (by omega) (by omega)) (by decide) (by decide) (by decide) (Nat.le_of_ble_eq_true rfl) kNP (kIP (fun y19 y19f y19a y19b => ?_))
                  have y19g : 0 ≤ y19 ∧ y19 ≤ 1 ∧ (y19 = 1 → (x17) % 100 ≤ (x18) / 100 ∧ (x18) % 100 ≤ (x17) / 100) ∧ (y19 = 0 → (x18) / 100 < (x17) % 100 ∨ (x17) / 100 < (x18) % 100) := y19f
                  refine di_if_eq rfl rfl (by omega) (by omega) (fun c20 => ?_) (fun c20 => ?_)
                  · skip
                    refine di_iinc (ls2 := [some (.ref b0), some (dI (a1)), some (dI (i1)), some (dI ((i7 + 1)))]) rfl rfl rfl rfl ?_
                    refine dr_goto rfl rfl ?_
                    exact ihL8 ((i7 + 1)) (by omega) (by omega) (by omega)  (apN_s PN (fun _ _ (q9 : cv v0 i7 % 100 ≤ cv v0 i1 / 100 ∧ cv v0 i1 % 100 ≤ cv v0 i7 / 100) => by omega))
                  · skip
                    refine di_const rfl ?_
                    exact dr_iret (ty := .boolean) rfl rfl (nar_z (by omega) (by omega)) (by decide) (by decide) ⟨rfl, 0, ⟨by omega, by omega, fun e => absurd e (by decide), fun _ => ap_x (by omega) (by omega) (by omega) (y13h.1 (by omega)) (y15h.1 (by omega)) (show cv v0 i7 % 100 ≤ cv v0 i1 / 100 ∧ cv v0 i1 % 100 ≤ cv v0 i7 / 100 by omega)⟩, by omega, by omega, rfl⟩
        exact L8 _ (0) (Nat.lt_succ_self _) (by omega) (by omega)  apN_0
  exact L2 _ (0) (Nat.lt_succ_self _) (by omega) (by omega)  apO_0
set_option maxHeartbeats 4000000 in
set_option maxRecDepth 100000 in
/-- EarlyendsModel.unheldIn -/
theorem s_X8_unheldIn_f (l : Launch) (hl : l.stackTraces = false) {kc km : Int} {h : dm_H} (hI : Inv kc km h) {b0 n0 : Nat} {v0 : List Value} (hv0 : h[b0]? = some (20, v0)) (hz0 : arr n0 okR v0) (hn0 : n0 ≤ 8) {a1 : Int} (h1a : 0 ≤ a1) (h1b : a1 ≤ 255) (hv : okV v0 n0) : dm_M l 196 1 0 0 [.ref b0, dI (a1)] h (QP h (RI (fun x => 0 ≤ x ∧ x ≤ 8 ∧ x = unC (cv v0) n0 a1)) []) := by
  refine dm_M_of dk_196 hl rfl (Nat.le_of_ble_eq_true rfl) ?_
  show dm_W (fun _ _ _ => True) (dm_P (QP h (RI (fun x => 0 ≤ x ∧ x ≤ 8 ∧ x = unC (cv v0) n0 a1)) []) 0 0) l 196 1 0 0 0 [some (.ref b0), some (dI (a1)), none, none, none, none] [] h 0 0
  have lt0 := App_lt hv0
  refine di_const rfl ?_
  refine di_istore_n (ls2 := [some (.ref b0), some (dI (a1)), some (dI (0)), none, none, none]) rfl rfl rfl ?_
  refine di_const rfl ?_
  refine di_istore_n (ls2 := [some (.ref b0), some (dI (a1)), some (dI (0)), some (dI (0)), none, none]) rfl rfl rfl ?_
  have L3 : ∀ (n : Nat) (i1 : Int) (i2 : Int), (8 - i2).toNat < n → 0 ≤ i1 → i1 ≤ 8 → 0 ≤ i2 → i2 ≤ 8 → i1 ≤ i2 → i2 ≤ (n0 : Int) → unP (cv v0) (n0 : Int) a1 i1 i2 → dm_W (fun _ _ _ => True) (dm_P (QP h (RI (fun x => 0 ≤ x ∧ x ≤ 8 ∧ x = unC (cv v0) n0 a1)) []) 0 0) l 196 1 0 0 4 [some (.ref b0), some (dI (a1)), some (dI (i1)), some (dI (i2)), none, none] [] h 0 0 := by
    intro n
    induction n with
    | zero => intro i1 i2 hm; exact absurd hm (Nat.not_lt_zero _)
    | succ n ih =>
      intro i1 i2 hm10 hb4 hb5 hb6 hb7 hx8 hx9 PU
      have ihL3 := ih
      clear ih
      refine dr_iload_n rfl rfl ?_
      refine di_aload_n rfl rfl ?_
      refine di_alen (n := n0) rfl hv0 (Or.inl rfl) hz0.1 ?_
      refine di_icmp_ge rfl rfl (by omega) (by omega) (by omega) (by omega) (fun c11 => ?_) (fun c11 => ?_)
      · skip
        refine dr_iload_n rfl rfl ?_
        exact dr_iret (ty := .int) rfl rfl rfl (by decide) (by decide) ⟨rfl, i1, ⟨by omega, by omega, unP_e PU (by omega)⟩, by omega, by omega, rfl⟩
      · skip
        refine di_const rfl ?_
        refine di_istore (ls2 := [some (.ref b0), some (dI (a1)), some (dI (i1)), some (dI (i2)), some (dI (0)), none]) rfl rfl rfl ?_
        refine di_const rfl ?_
        refine di_istore (ls2 := [some (.ref b0), some (dI (a1)), some (dI (i1)), some (dI (i2)), some (dI (0)), some (dI (0))]) rfl rfl rfl ?_
        have L14 : ∀ (n : Nat) (i12 : Int) (i13 : Int), (8 - i13).toNat < n → 0 ≤ i12 → i12 ≤ 1 → 0 ≤ i13 → i13 ≤ 8 → heI (cv v0) (n0 : Int) a1 i2 i12 i13 → dm_W (fun _ _ _ => True) (dm_P (QP h (RI (fun x => 0 ≤ x ∧ x ≤ 8 ∧ x = unC (cv v0) n0 a1)) []) 0 0) l 196 1 0 0 16 [some (.ref b0), some (dI (a1)), some (dI (i1)), some (dI (i2)), some (dI (i12)), some (dI (i13))] [] h 0 0 := by
          intro n
          induction n with
          | zero => intro i12 i13 hm; exact absurd hm (Nat.not_lt_zero _)
          | succ n ih =>
            intro i12 i13 hm19 hb15 hb16 hb17 hb18 PH
            have ihL14 := ih
            clear ih
            refine dr_iload rfl rfl ?_
            refine di_aload_n rfl rfl ?_
            refine di_alen (n := n0) rfl hv0 (Or.inl rfl) hz0.1 ?_
            refine di_icmp_ge rfl rfl (by omega) (by omega) (by omega) (by omega) (fun c20 => ?_) (fun c20 => ?_)
            · skip
              refine dr_iload rfl rfl ?_
              refine di_if_ne rfl rfl (by omega) (by omega) (fun c21 => ?_) (fun c21 => ?_)
              · skip
                refine di_iinc (ls2 := [some (.ref b0), some (dI (a1)), some (dI (i1)), some (dI ((i2 + 1))), some (dI (i12)), some (dI (i13))]) rfl rfl rfl rfl ?_
                refine dr_goto rfl rfl ?_
                refine dm_wk (ls2 := [some (.ref b0), some (dI (a1)), some (dI (i1)), some (dI ((i2 + 1))), none, none]) ⟨Or.inr rfl, Or.inr rfl, Or.inr rfl, Or.inr rfl, Or.inl rfl, Or.inl rfl, trivial⟩ ?_
                exact ihL3 (i1) ((i2 + 1)) (by omega) (by omega) (by omega) (by omega) (by omega) (by omega) (by omega)  (unP_y PU (by omega) PH (by omega))
              · skip
                refine di_iinc (ls2 := [some (.ref b0), some (dI (a1)), some (dI ((i1 + 1))), some (dI (i2)), some (dI (i12)), some (dI (i13))]) rfl rfl rfl rfl ?_
                refine di_iinc (ls2 := [some (.ref b0), some (dI (a1)), some (dI ((i1 + 1))), some (dI ((i2 + 1))), some (dI (i12)), some (dI (i13))]) rfl rfl rfl rfl ?_
                refine dr_goto rfl rfl ?_
                refine dm_wk (ls2 := [some (.ref b0), some (dI (a1)), some (dI ((i1 + 1))), some (dI ((i2 + 1))), none, none]) ⟨Or.inr rfl, Or.inr rfl, Or.inr rfl, Or.inr rfl, Or.inl rfl, Or.inl rfl, trivial⟩ ?_
                exact ihL3 ((i1 + 1)) ((i2 + 1)) (by omega) (by omega) (by omega) (by omega) (by omega) (by omega) (by omega)  (unP_n PU (by omega) PH (by omega) (by omega))
            · skip
              refine dr_iload_n rfl rfl ?_
              refine dr_iload rfl rfl ?_
              refine dr_stat rfl rfl rfl rfl (s_X8_isOf_s l hl hI (a0 := a1) (by omega) (by omega) (a1 := i13) (by omega) (by omega)) (by decide) (by decide) (by decide) (Nat.le_of_ble_eq_true rfl) kNP (kIP (fun y22 y22f y22a y22b => ?_))
              have y22g : 0 ≤ y22 ∧ y22 ≤ 1 ∧ bb (a1) ((i13) + 1) = bb (a1) (i13) + y22 := y22f
              have y22h := isof_h (S := a1) (r := i13) (by omega) y22g.2.2
              refine di_if_eq rfl rfl (by omega) (by omega) (fun c23 => ?_) (fun c23 => ?_)
              · skip
                refine di_iinc (ls2 := [some (.ref b0), some (dI (a1)), some (dI (i1)), some (dI (i2)), some (dI (i12)), some (dI ((i13 + 1)))]) rfl rfl rfl rfl ?_
                refine dr_goto rfl rfl ?_
                exact ihL14 (i12) ((i13 + 1)) (by omega) (by omega) (by omega) (by omega) (by omega)  (heI_n PH (fun (q9 : hbt a1 i13 ∧ cv v0 i2 % 100 ≤ cv v0 i13 / 100 ∧ cv v0 i13 / 100 ≤ cv v0 i2 / 100) => absurd q9.1 (y22h.2 (by omega))))
              · skip
                refine di_aload_n rfl rfl ?_
                refine dr_iload_n rfl rfl ?_
                refine di_iald rfl hv0 hz0 (by omega) (by omega) (fun x24 x24f x24a x24b x24v => ?_)
                have x24g : -1 ≤ x24 ∧ x24 ≤ 9999 := x24f
                have x24w : cv v0 (i2) = x24 := cv_eq x24v x24a x24b
                have x24o := hv (i2) (by omega) (by omega)
                rw [x24w] at x24o
                refine di_aload_n rfl rfl ?_
                refine dr_iload rfl rfl ?_
                refine di_iald rfl hv0 hz0 (by omega) (by omega) (fun x25 x25f x25a x25b x25v => ?_)
                have x25g : -1 ≤ x25 ∧ x25 ≤ 9999 := x25f
                have x25w : cv v0 (i13) = x25 := cv_eq x25v x25a x25b
                have x25o := hv (i13) (by omega) (by omega)
                rw [x25w] at x25o
                refine di_bipush rfl (by decide) ?_
                refine di_idiv rfl (by omega) (by omega) (by omega) (by omega) ?_
                refine dr_stat rfl rfl rfl rfl (s_X8_isHolding_d l hl hI (a0 := x24) (by omega) (by omega) (a1 := (x25 / 100)) (by omega) (by omega)) (by decide) (by decide) (by decide) (Nat.le_of_ble_eq_true rfl) kNP (kIP (fun y26 y26f y26a y26b => ?_))
                have y26g : 0 ≤ y26 ∧ y26 ≤ 1 ∧ (y26 = 1 → (x24) % 100 ≤ ((x25 / 100)) ∧ ((x25 / 100)) ≤ (x24) / 100) ∧ (y26 = 0 → ((x25 / 100)) < (x24) % 100 ∨ (x24) / 100 < ((x25 / 100))) := y26f
                refine di_if_eq rfl rfl (by omega) (by omega) (fun c27 => ?_) (fun c27 => ?_)
                · skip
                  refine di_iinc (ls2 := [some (.ref b0), some (dI (a1)), some (dI (i1)), some (dI (i2)), some (dI (i12)), some (dI ((i13 + 1)))]) rfl rfl rfl rfl ?_
                  refine dr_goto rfl rfl ?_
                  exact ihL14 (i12) ((i13 + 1)) (by omega) (by omega) (by omega) (by omega) (by omega)  (heI_n PH (fun (q9 : hbt a1 i13 ∧ cv v0 i2 % 100 ≤ cv v0 i13 / 100 ∧ cv v0 i13 / 100 ≤ cv v0 i2 / 100) => by have q8 := q9.2; clear q9; omega))
                · skip
                  refine di_const rfl ?_
                  refine di_istore (ls2 := [some (.ref b0), some (dI (a1)), some (dI (i1)), some (dI (i2)), some (dI (1)), some (dI (i13))]) rfl rfl rfl ?_
                  refine di_iinc (ls2 := [some (.ref b0), some (dI (a1)), some (dI (i1)), some (dI (i2)), some (dI (1)), some (dI ((i13 + 1)))]) rfl rfl rfl rfl ?_
                  refine dr_goto rfl rfl ?_
                  exact ihL14 (1) ((i13 + 1)) (by omega) (by omega) (by omega) (by omega) (by omega)  (heI_y (by omega) (by omega) rfl ⟨y22h.1 (by omega), by omega, by omega⟩)
        exact L14 _ (0) (0) (Nat.lt_succ_self _) (by omega) (by omega) (by omega) (by omega)  heI_0
  exact L3 _ (0) (0) (Nat.lt_succ_self _) (by omega) (by omega) (by omega) (by omega) (by omega) (by omega)  unP_0
set_option maxHeartbeats 4000000 in
set_option maxRecDepth 100000 in
/-- EarlyendsModel.freeRoom -/
theorem s_X8_freeRoom_f (l : Launch) (hl : l.stackTraces = false) {kc km : Int} {h : dm_H} (hI : Inv kc km h) {b0 n0 : Nat} {v0 : List Value} (hv0 : h[b0]? = some (20, v0)) (hz0 : arr n0 okR v0) (hn0 : n0 ≤ 8) {b1 n1 : Nat} {v1 : List Value} (hv1 : h[b1]? = some (20, v1)) (hz1 : arr n1 okR v1) (hn1 : n1 ≤ 8) {a2 : Int} (h2a : 0 ≤ a2) (h2b : a2 ≤ 7) (hv : okV v0 n0) (hp0 : n1 = n0) (hp1 : a2 < (n0 : Int)) : dm_M l 203 2 0 0 [.ref b0, .ref b1, dI (a2)] h (QP h (RI (fun x => 0 ≤ x ∧ x ≤ 8 ∧ frV (cv v0) (cv v1) (n0 : Int) a2 x)) []) := by
  refine dm_M_of dk_203 hl rfl (Nat.le_of_ble_eq_true rfl) ?_
  show dm_W (fun _ _ _ => True) (dm_P (QP h (RI (fun x => 0 ≤ x ∧ x ≤ 8 ∧ frV (cv v0) (cv v1) (n0 : Int) a2 x)) []) 0 0) l 203 2 0 0 0 [some (.ref b0), some (.ref b1), some (dI (a2)), none, none, none] [] h 0 0
  have lt0 := App_lt hv0
  have lt1 := App_lt hv1
  refine di_const rfl ?_
  refine di_istore_n (ls2 := [some (.ref b0), some (.ref b1), some (dI (a2)), some (dI (0)), none, none]) rfl rfl rfl ?_
  have L2 : ∀ (n : Nat) (i1 : Int), (8 - i1).toNat < n → 0 ≤ i1 → i1 ≤ 8 → (∀ j9 : Int, 0 ≤ j9 → j9 < i1 → hasR (cv v0) (cv v1) (n0 : Int) a2 j9) → dm_W (fun _ _ _ => True) (dm_P (QP h (RI (fun x => 0 ≤ x ∧ x ≤ 8 ∧ frV (cv v0) (cv v1) (n0 : Int) a2 x)) []) 0 0) l 203 2 0 0 2 [some (.ref b0), some (.ref b1), some (dI (a2)), some (dI (i1)), none, none] [] h 0 0 := by
    intro n
    induction n with
    | zero => intro i1 hm; exact absurd hm (Nat.not_lt_zero _)
    | succ n ih =>
      intro i1 hm5 hb3 hb4 PH
      have ihL2 := ih
      clear ih
      refine di_const rfl ?_
      refine di_istore (ls2 := [some (.ref b0), some (.ref b1), some (dI (a2)), some (dI (i1)), some (dI (1)), none]) rfl rfl rfl ?_
      refine di_const rfl ?_
      refine di_istore (ls2 := [some (.ref b0), some (.ref b1), some (dI (a2)), some (dI (i1)), some (dI (1)), some (dI (0))]) rfl rfl rfl ?_
      have L8 : ∀ (n : Nat) (i6 : Int) (i7 : Int), (8 - i7).toNat < n → 0 ≤ i6 → i6 ≤ 1 → 0 ≤ i7 → i7 ≤ 8 → frK (cv v0) (cv v1) (n0 : Int) a2 i1 i6 i7 → dm_W (fun _ _ _ => True) (dm_P (QP h (RI (fun x => 0 ≤ x ∧ x ≤ 8 ∧ frV (cv v0) (cv v1) (n0 : Int) a2 x)) []) 0 0) l 203 2 0 0 8 [some (.ref b0), some (.ref b1), some (dI (a2)), some (dI (i1)), some (dI (i6)), some (dI (i7))] [] h 0 0 := by
        intro n
        induction n with
        | zero => intro i6 i7 hm; exact absurd hm (Nat.not_lt_zero _)
        | succ n ih =>
          intro i6 i7 hm13 hb9 hb10 hb11 hb12 PK
          have ihL8 := ih
          clear ih
          refine dr_iload rfl rfl ?_
          refine di_aload_n rfl rfl ?_
          refine di_alen (n := n0) rfl hv0 (Or.inl rfl) hz0.1 ?_
          refine di_icmp_ge rfl rfl (by omega) (by omega) (by omega) (by omega) (fun c14 => ?_) (fun c14 => ?_)
          · skip
            refine dr_iload rfl rfl ?_
            refine di_if_eq rfl rfl (by omega) (by omega) (fun c15 => ?_) (fun c15 => ?_)
            · skip
              have PK9 := frK_h PK (by omega)
              have PN : ∀ j9 : Int, 0 ≤ j9 → j9 < (i1 + 1) → hasR (cv v0) (cv v1) (n0 : Int) a2 j9 := fun j9 h1 h2 => (Int.lt_or_le j9 i1).elim (fun e9 => PH j9 h1 e9) (fun e9 => (show j9 = i1 by omega) ▸ PK9)
              have PB := pig n0 (cv v1) (i1 + 1) (fun j9 h1 h2 => by obtain ⟨k9, q1, q2, q3, -⟩ := PN j9 h1 h2; exact ⟨k9, q1, q2, q3⟩)
              refine di_iinc (ls2 := [some (.ref b0), some (.ref b1), some (dI (a2)), some (dI ((i1 + 1))), some (dI (i6)), some (dI (i7))]) rfl rfl rfl rfl ?_
              refine dr_goto rfl rfl ?_
              refine dm_wk (ls2 := [some (.ref b0), some (.ref b1), some (dI (a2)), some (dI ((i1 + 1))), none, none]) ⟨Or.inr rfl, Or.inr rfl, Or.inr rfl, Or.inr rfl, Or.inl rfl, Or.inl rfl, trivial⟩ ?_
              exact ihL2 ((i1 + 1)) (by omega) (by omega) (by omega)  PN
            · skip
              refine dr_iload_n rfl rfl ?_
              exact dr_iret (ty := .int) rfl rfl rfl (by decide) (by decide) ⟨rfl, i1, ⟨by omega, by omega, by omega, frK_f PK (by omega) (by omega), PH⟩, by omega, by omega, rfl⟩
          · skip
            refine di_aload_n rfl rfl ?_
            refine dr_iload rfl rfl ?_
            refine di_iald rfl hv1 hz1 (by omega) (by omega) (fun x16 x16f x16a x16b x16v => ?_)
            have x16g : -1 ≤ x16 ∧ x16 ≤ 9999 := x16f
            have x16w : cv v1 (i7) = x16 := cv_eq x16v x16a x16b
            refine dr_iload_n rfl rfl ?_
            refine di_icmp_ne rfl rfl (by omega) (by omega) (by omega) (by omega) (fun c17 => ?_) (fun c17 => ?_)
            · skip
              refine di_iinc (ls2 := [some (.ref b0), some (.ref b1), some (dI (a2)), some (dI (i1)), some (dI (i6)), some (dI ((i7 + 1)))]) rfl rfl rfl rfl ?_
              refine dr_goto rfl rfl ?_
              exact ihL8 (i6) ((i7 + 1)) (by omega) (by omega) (by omega) (by omega) (by omega)  (frK_n PK (fun e9 => absurd e9 (by omega)))
            · skip
              refine di_aload_n rfl rfl ?_
              refine dr_iload rfl rfl ?_
              refine di_iald rfl hv0 hz0 (by omega) (by omega) (fun x18 x18f x18a x18b x18v => ?_)
              have x18g : -1 ≤ x18 ∧ x18 ≤ 9999 := x18f
              have x18w : cv v0 (i7) = x18 := cv_eq x18v x18a x18b
              have x18o := hv (i7) (by omega) (by omega)
              rw [x18w] at x18o
              refine di_aload_n rfl rfl ?_
              refine dr_iload_n rfl rfl ?_
              refine di_iald rfl hv0 hz0 (by omega) (by omega) (fun x19 x19f x19a x19b x19v => ?_)
              have x19g : -1 ≤ x19 ∧ x19 ≤ 9999 := x19f
              have x19w : cv v0 (a2) = x19 := cv_eq x19v x19a x19b
              have x19o := hv (a2) (by omega) (by omega)
              rw [x19w] at x19o
              refine dr_stat rfl rfl rfl rfl (s_X8_areMeeting_d l hl hI (a0 := x18) (by omega) (by omega) (a1 := x19) (by omega) (by omega) (by omega) (by omega)) (by decide) (by decide) (by decide) (Nat.le_of_ble_eq_true rfl) kNP (kIP (fun y20 y20f y20a y20b => ?_))
              have y20g : 0 ≤ y20 ∧ y20 ≤ 1 ∧ (y20 = 1 → (x18) % 100 ≤ (x19) / 100 ∧ (x19) % 100 ≤ (x18) / 100) ∧ (y20 = 0 → (x19) / 100 < (x18) % 100 ∨ (x18) / 100 < (x19) % 100) := y20f
              refine di_if_eq rfl rfl (by omega) (by omega) (fun c21 => ?_) (fun c21 => ?_)
              · skip
                refine di_iinc (ls2 := [some (.ref b0), some (.ref b1), some (dI (a2)), some (dI (i1)), some (dI (i6)), some (dI ((i7 + 1)))]) rfl rfl rfl rfl ?_
                refine dr_goto rfl rfl ?_
                exact ihL8 (i6) ((i7 + 1)) (by omega) (by omega) (by omega) (by omega) (by omega)  (frK_n PK (fun _ (q9 : cv v0 i7 % 100 ≤ cv v0 a2 / 100 ∧ cv v0 a2 % 100 ≤ cv v0 i7 / 100) => by omega))
              · skip
                refine di_const rfl ?_
                refine di_istore (ls2 := [some (.ref b0), some (.ref b1), some (dI (a2)), some (dI (i1)), some (dI (0)), some (dI (i7))]) rfl rfl rfl ?_
                refine di_iinc (ls2 := [some (.ref b0), some (.ref b1), some (dI (a2)), some (dI (i1)), some (dI (0)), some (dI ((i7 + 1)))]) rfl rfl rfl rfl ?_
                refine dr_goto rfl rfl ?_
                exact ihL8 (0) ((i7 + 1)) (by omega) (by omega) (by omega) (by omega) (by omega)  (frK_y rfl (by omega) (by omega) (by omega) (show cv v0 i7 % 100 ≤ cv v0 a2 / 100 ∧ cv v0 a2 % 100 ≤ cv v0 i7 / 100 by omega))
      exact L8 _ (1) (0) (Nat.lt_succ_self _) (by omega) (by omega) (by omega) (by omega)  frK_0
  exact L2 _ (0) (Nat.lt_succ_self _) (by omega) (by omega)  (fun j9 h1 h2 => absurd h2 (by omega))
