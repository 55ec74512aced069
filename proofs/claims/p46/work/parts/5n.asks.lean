/-! ===== the model's isSound: helpers ===== -/
def amO (f : Int → Int) (A a : Int) : Prop := ∀ r k : Int, 0 ≤ k → k < r → r < a → hbt A r → hbt A k → mt f k r
def amN (f : Int → Int) (A a b : Int) : Prop := ∀ k : Int, 0 ≤ k → k < b → hbt A a → hbt A k → mt f k a
section AM
variable {f : Int → Int} {A a b n o q h : Int}
theorem amO_0 : amO f A 0 := fun r k h0 h1 h2 => by omega
theorem amN_0 : amN f A a 0 := fun k h0 h1 => by omega
theorem amN_s (h : amN f A a b) (q : hbt A a → hbt A b → mt f b a) : amN f A a (b + 1) := fun k k0 k1 h1 h2 => by
  by_cases e : k = b
  · rw [e] at h2 ⊢; exact q h1 h2
  · exact h k k0 (by omega) h1 h2
theorem amO_s (h : amO f A a) (q : amN f A a b) (e : a ≤ b) : amO f A (a + 1) := fun r k k0 k1 r1 h1 h2 => by
  by_cases c : r = a
  · rw [c] at h1 k1 ⊢; exact q k k0 (by omega) h1 h2
  · exact h r k k0 k1 (by omega) h1 h2
theorem am_e (hok : okf f n) (h : amO f A a) (e : n ≤ a) : ∀ r k : Int, 0 ≤ r → r < n → 0 ≤ k → k < n → hbt A r → hbt A k → mt f k r := fun r k r0 r1 k0 k1 hr hk => by
  rcases Int.lt_trichotomy r k with c | c | c
  · exact mt_sy (h k r r0 c (by omega) hk hr)
  · rw [c]; exact ⟨hok k k0 k1, hok k k0 k1⟩
  · exact h r k k0 c (by omega) hr hk
/-- held places, one after the other -/
def alI (f : Int → Int) (n A h q i : Int) : Prop := (h = 1 ∧ ∃ k : Int, (0 ≤ k ∧ k < n) ∧ hbt A k ∧ f k % 100 ≤ q ∧ q ≤ f k / 100) ∨ (h = 0 ∧ ∀ k : Int, 0 ≤ k → k < i → ¬ (hbt A k ∧ f k % 100 ≤ q ∧ q ≤ f k / 100))
theorem alI_0 : alI f n A 0 q 0 := Or.inr ⟨rfl, fun k h0 h1 => by omega⟩
theorem alI_n {i : Int} (h9 : alI f n A h q i) (z : ¬ (hbt A i ∧ f i % 100 ≤ q ∧ q ≤ f i / 100)) : alI f n A h q (i + 1) := h9.imp id (fun ⟨a, b⟩ => ⟨a, fun k k0 k1 => by
  by_cases e : k = i
  · rw [e]; exact z
  · exact b k k0 (by omega)⟩)
theorem alI_y {i h2 : Int} (e : h2 = 1) (i0 : 0 ≤ i) (i1 : i < n) (z : hbt A i ∧ f i % 100 ≤ q ∧ q ≤ f i / 100) : alI f n A h2 q (i + 1) := Or.inl ⟨e, i, ⟨i0, i1⟩, z⟩
def alO (f : Int → Int) (n A a q : Int) : Prop := ∀ p : Int, a ≤ p → p < q → ∃ k : Int, (0 ≤ k ∧ k < n) ∧ hbt A k ∧ f k % 100 ≤ p ∧ p ≤ f k / 100
theorem alO_0 : alO f n A a a := fun p h0 h1 => by omega
theorem alO_s {i : Int} (h9 : alO f n A a q) (z : alI f n A h q i) (e : h ≠ 0) : alO f n A a (q + 1) := fun p p0 p1 => by
  by_cases c : p = q
  · rw [c]
    rcases z with z | z
    · exact z.2
    · exact absurd z.1 e
  · exact h9 p p0 (by omega)
theorem al_y (h9 : alO f n A a q) (e : b < q) : cov f n A a b := fun p p0 p1 => h9 p p0 (by omega)
theorem al_n {i : Int} (z : alI f n A h q i) (e : h = 0) (hi : n ≤ i) (q0 : a ≤ q) (q1 : q ≤ b) : ¬ cov f n A a b := fun hc => by
  rcases z with z | z
  · omega
  · obtain ⟨k, ⟨k0, k1⟩, hk⟩ := hc q q0 q1
    exact z.2 k k0 (by omega) hk
end AM
theorem okV_f {v : List Value} {n : Nat} (h : okV v n) : okf (cv v) n := fun j j0 j1 => (h j j0 j1).2
set_option maxHeartbeats 4000000 in
set_option maxRecDepth 100000 in
/-- EarlyendsModel.areAllMeeting -/
theorem s_X8_areAllMeeting_f (l : Launch) (hl : l.stackTraces = false) {kc km : Int} {h : dm_H} (hI : Inv kc km h) {b0 n0 : Nat} {v0 : List Value} (hv0 : h[b0]? = some (20, v0)) (hz0 : arr n0 okR v0) (hn0 : n0 ≤ 8) {a1 : Int} (h1a : 0 ≤ a1) (h1b : a1 ≤ 255) (hv : okV v0 n0) : dm_M l 216 2 0 0 [.ref b0, dI (a1)] h (QP h (RI (fun x => 0 ≤ x ∧ x ≤ 1 ∧ (x = 1 → ∀ r k : Int, 0 ≤ r → r < n0 → 0 ≤ k → k < n0 → hbt a1 r → hbt a1 k → mt (cv v0) k r))) []) := by
  refine dm_M_of dk_216 hl rfl (Nat.le_of_ble_eq_true rfl) ?_
  show dm_W (fun _ _ _ => True) (dm_P (QP h (RI (fun x => 0 ≤ x ∧ x ≤ 1 ∧ (x = 1 → ∀ r k : Int, 0 ≤ r → r < n0 → 0 ≤ k → k < n0 → hbt a1 r → hbt a1 k → mt (cv v0) k r))) []) 0 0) l 216 2 0 0 0 [some (.ref b0), some (dI (a1)), none, none] [] h 0 0
  have lt0 := App_lt hv0
  refine di_const rfl ?_
  refine di_istore_n (ls2 := [some (.ref b0), some (dI (a1)), some (dI (0)), none]) rfl rfl rfl ?_
  have L2 : ∀ (n : Nat) (i1 : Int), (8 - i1).toNat < n → 0 ≤ i1 → i1 ≤ 8 → amO (cv v0) a1 i1 → dm_W (fun _ _ _ => True) (dm_P (QP h (RI (fun x => 0 ≤ x ∧ x ≤ 1 ∧ (x = 1 → ∀ r k : Int, 0 ≤ r → r < n0 → 0 ≤ k → k < n0 → hbt a1 r → hbt a1 k → mt (cv v0) k r))) []) 0 0) l 216 2 0 0 2 [some (.ref b0), some (dI (a1)), some (dI (i1)), none] [] h 0 0 := by
    intro n
    induction n with
    | zero => intro i1 hm; exact absurd hm (Nat.not_lt_zero _)
    | succ n ih =>
      intro i1 hm5 hb3 hb4 PO
      have ihL2 := ih
      clear ih
      refine dr_iload_n rfl rfl ?_
      refine di_aload_n rfl rfl ?_
      refine di_alen (n := n0) rfl hv0 (Or.inl rfl) hz0.1 ?_
      refine di_icmp_ge rfl rfl (by omega) (by omega) (by omega) (by omega) (fun c6 => ?_) (fun c6 => ?_)
      · skip
        refine di_const rfl ?_
        exact dr_iret (ty := .boolean) rfl rfl (nar_z (by omega) (by omega)) (by decide) (by decide) ⟨rfl, 1, ⟨by omega, by omega, fun _ => am_e (okV_f hv) PO (by omega)⟩, by omega, by omega, rfl⟩
      · skip
        refine di_const rfl ?_
        refine di_istore_n (ls2 := [some (.ref b0), some (dI (a1)), some (dI (i1)), some (dI (0))]) rfl rfl rfl ?_
        have L8 : ∀ (n : Nat) (i7 : Int), (8 - i7).toNat < n → 0 ≤ i7 → i7 ≤ 8 → amN (cv v0) a1 i1 i7 → dm_W (fun _ _ _ => True) (dm_P (QP h (RI (fun x => 0 ≤ x ∧ x ≤ 1 ∧ (x = 1 → ∀ r k : Int, 0 ≤ r → r < n0 → 0 ≤ k → k < n0 → hbt a1 r → hbt a1 k → mt (cv v0) k r))) []) 0 0) l 216 2 0 0 10 [some (.ref b0), some (dI (a1)), some (dI (i1)), some (dI (i7))] [] h 0 0 := by
          intro n
          induction n with
          | zero => intro i7 hm; exact absurd hm (Nat.not_lt_zero _)
          | succ n ih =>
            intro i7 hm11 hb9 hb10 PN
            have ihL8 := ih
            clear ih
            refine dr_iload_n rfl rfl ?_
            refine dr_iload_n rfl rfl ?_
            refine di_icmp_ge rfl rfl (by omega) (by omega) (by omega) (by omega) (fun c12 => ?_) (fun c12 => ?_)
            · skip
              refine di_iinc (ls2 := [some (.ref b0), some (dI (a1)), some (dI ((i1 + 1))), some (dI (i7))]) rfl rfl rfl rfl ?_
              refine dr_goto rfl rfl ?_
              refine dm_wk (ls2 := [some (.ref b0), some (dI (a1)), some (dI ((i1 + 1))), none]) ⟨Or.inr rfl, Or.inr rfl, Or.inr rfl, Or.inl rfl, trivial⟩ ?_
              exact ihL2 ((i1 + 1)) (by omega) (by omega) (by omega)  (amO_s PO PN (by omega))
            · skip
              refine dr_iload_n rfl rfl ?_
              refine dr_iload_n rfl rfl ?_
              refine dr_stat rfl rfl rfl rfl (s_X8_isOf_s l hl hI (a0 := a1) (by omega) (by omega) (a1 := i1) (by omega) (by omega)) (by decide) (by decide) (by decide) (Nat.le_of_ble_eq_true rfl) kNP (kIP (fun y13 y13f y13a y13b => ?_))
              have y13g : 0 ≤ y13 ∧ y13 ≤ 1 ∧ bb (a1) ((i1) + 1) = bb (a1) (i1) + y13 := y13f
              have y13h := isof_h (S := a1) (r := i1) (by omega) y13g.2.2
              refine di_if_eq rfl rfl (by omega) (by omega) (fun c14 => ?_) (fun c14 => ?_)
              · skip
                refine di_iinc (ls2 := [some (.ref b0), some (dI (a1)), some (dI (i1)), some (dI ((i7 + 1)))]) rfl rfl rfl rfl ?_
                refine dr_goto rfl rfl ?_
                exact ihL8 ((i7 + 1)) (by omega) (by omega) (by omega)  (amN_s PN (fun h1 _ => absurd h1 (y13h.2 (by omega))))
              · skip
                refine dr_iload_n rfl rfl ?_
                refine dr_iload_n rfl rfl ?_
                refine dr_stat rfl rfl rfl rfl (s_X8_isOf_s l hl hI (a0 := a1) (by omega) (by omega) (a1 := i7) (by omega) (by omega)) (by decide) (by decide) (by decide) (Nat.le_of_ble_eq_true rfl) kNP (kIP (fun y15 y15f y15a y15b => ?_))
                have y15g : 0 ≤ y15 ∧ y15 ≤ 1 ∧ bb (a1) ((i7) + 1) = bb (a1) (i7) + y15 := y15f
                have y15h := isof_h (S := a1) (r := i7) (by omega) y15g.2.2
                refine di_if_eq rfl rfl (by omega) (by omega) (fun c16 => ?_) (fun c16 => ?_)
                · skip
                  refine di_iinc (ls2 := [some (.ref b0), some (dI (a1)), some (dI (i1)), some (dI ((i7 + 1)))]) rfl rfl rfl rfl ?_
                  refine dr_goto rfl rfl ?_
                  exact ihL8 ((i7 + 1)) (by omega) (by omega) (by omega)  (amN_s PN (fun _ h2 => absurd h2 (y15h.2 (by omega))))
                · skip
                  refine di_aload_n rfl rfl ?_
                  refine dr_iload_n rfl rfl ?_
                  refine di_iald rfl hv0 hz0 (by omega) (by omega) (fun x17 x17f x17a x17b x17v => ?_)
                  have x17g : -1 ≤ x17 ∧ x17 ≤ 9999 := x17f
                  have x17w : cv v0 (i1) = x17 := cv_eq x17v x17a x17b
                  have x17o := hv (i1) (by omega) (by omega)
                  rw [x17w] at x17o
                  refine di_aload_n rfl rfl ?_
                  refine dr_iload_n rfl rfl ?_
                  refine di_iald rfl hv0 hz0 (by omega) (by omega) (fun x18 x18f x18a x18b x18v => ?_)
                  have x18g : -1 ≤ x18 ∧ x18 ≤ 9999 := x18f
                  have x18w : cv v0 (i7) = x18 := cv_eq x18v x18a x18b
                  have x18o := hv (i7) (by omega) (by omega)
                  rw [x18w] at x18o
                  refine dr_stat rfl rfl rfl rfl (s_X8_areMeeting_d l hl hI (a0 := x17) (by omega) (by omega) (a1 := x18) (by omega) (by omega) (by omega) (by omega)) (by decide) (by decide) (by decide) (Nat.le_of_ble_eq_true rfl) kNP (kIP (fun y19 y19f y19a y19b => ?_))
                  have y19g : 0 ≤ y19 ∧ y19 ≤ 1 ∧ (y19 = 1 → (x17) % 100 ≤ (x18) / 100 ∧ (x18) % 100 ≤ (x17) / 100) ∧ (y19 = 0 → (x18) / 100 < (x17) % 100 ∨ (x17) / 100 < (x18) % 100) := y19f
                  refine di_if_ne rfl rfl (by omega) (by omega) (fun c20 => ?_) (fun c20 => ?_)
                  · skip
                    refine di_iinc (ls2 := [some (.ref b0), some (dI (a1)), some (dI (i1)), some (dI ((i7 + 1)))]) rfl rfl rfl rfl ?_
                    refine dr_goto rfl rfl ?_
                    exact ihL8 ((i7 + 1)) (by omega) (by omega) (by omega)  (amN_s PN (fun _ _ => (show cv v0 i7 % 100 ≤ cv v0 i1 / 100 ∧ cv v0 i1 % 100 ≤ cv v0 i7 / 100 by omega)))
                  · skip
                    refine di_const rfl ?_
                    exact dr_iret (ty := .boolean) rfl rfl (nar_z (by omega) (by omega)) (by decide) (by decide) ⟨rfl, 0, ⟨by omega, by omega, fun e => absurd e (by decide)⟩, by omega, by omega, rfl⟩
        exact L8 _ (0) (Nat.lt_succ_self _) (by omega) (by omega)  amN_0
  exact L2 _ (0) (Nat.lt_succ_self _) (by omega) (by omega)  amO_0
set_option maxHeartbeats 4000000 in
set_option maxRecDepth 100000 in
/-- EarlyendsModel.isAllHeld -/
theorem s_X8_isAllHeld_f (l : Launch) (hl : l.stackTraces = false) {kc km : Int} {h : dm_H} (hI : Inv kc km h) {b0 n0 : Nat} {v0 : List Value} (hv0 : h[b0]? = some (20, v0)) (hz0 : arr n0 okR v0) (hn0 : n0 ≤ 8) {a1 : Int} (h1a : 0 ≤ a1) (h1b : a1 ≤ 255) {a2 : Int} (h2a : -1 ≤ a2) (h2b : a2 ≤ 99) {a3 : Int} (h3a : -1 ≤ a3) (h3b : a3 ≤ 99) (hv : okV v0 n0) : dm_M l 217 1 0 0 [.ref b0, dI (a1), dI (a2), dI (a3)] h (QP h (RI (fun x => 0 ≤ x ∧ x ≤ 1 ∧ (x = 1 → cov (cv v0) n0 a1 a2 a3) ∧ (x = 0 → ¬ cov (cv v0) n0 a1 a2 a3))) []) := by
  refine dm_M_of dk_217 hl rfl (Nat.le_of_ble_eq_true rfl) ?_
  show dm_W (fun _ _ _ => True) (dm_P (QP h (RI (fun x => 0 ≤ x ∧ x ≤ 1 ∧ (x = 1 → cov (cv v0) n0 a1 a2 a3) ∧ (x = 0 → ¬ cov (cv v0) n0 a1 a2 a3))) []) 0 0) l 217 1 0 0 0 [some (.ref b0), some (dI (a1)), some (dI (a2)), some (dI (a3)), none, none, none] [] h 0 0
  have lt0 := App_lt hv0
  refine dr_iload_n rfl rfl ?_
  refine di_istore (ls2 := [some (.ref b0), some (dI (a1)), some (dI (a2)), some (dI (a3)), some (dI (a2)), none, none]) rfl rfl rfl ?_
  have L2 : ∀ (n : Nat) (i1 : Int), (100 - i1).toNat < n → -1 ≤ i1 → i1 ≤ 100 → a2 ≤ i1 → alO (cv v0) n0 a1 a2 i1 → dm_W (fun _ _ _ => True) (dm_P (QP h (RI (fun x => 0 ≤ x ∧ x ≤ 1 ∧ (x = 1 → cov (cv v0) n0 a1 a2 a3) ∧ (x = 0 → ¬ cov (cv v0) n0 a1 a2 a3))) []) 0 0) l 217 1 0 0 3 [some (.ref b0), some (dI (a1)), some (dI (a2)), some (dI (a3)), some (dI (i1)), none, none] [] h 0 0 := by
    intro n
    induction n with
    | zero => intro i1 hm; exact absurd hm (Nat.not_lt_zero _)
    | succ n ih =>
      intro i1 hm6 hb3 hb4 hx5 PO
      have ihL2 := ih
      clear ih
      refine dr_iload rfl rfl ?_
      refine dr_iload_n rfl rfl ?_
      refine di_icmp_gt rfl rfl (by omega) (by omega) (by omega) (by omega) (fun c7 => ?_) (fun c7 => ?_)
      · skip
        refine di_const rfl ?_
        exact dr_iret (ty := .boolean) rfl rfl (nar_z (by omega) (by omega)) (by decide) (by decide) ⟨rfl, 1, ⟨by omega, by omega, fun _ => al_y PO (by omega), fun e => absurd e (by decide)⟩, by omega, by omega, rfl⟩
      · skip
        refine di_const rfl ?_
        refine di_istore (ls2 := [some (.ref b0), some (dI (a1)), some (dI (a2)), some (dI (a3)), some (dI (i1)), some (dI (0)), none]) rfl rfl rfl ?_
        refine di_const rfl ?_
        refine di_istore (ls2 := [some (.ref b0), some (dI (a1)), some (dI (a2)), some (dI (a3)), some (dI (i1)), some (dI (0)), some (dI (0))]) rfl rfl rfl ?_
        have L10 : ∀ (n : Nat) (i8 : Int) (i9 : Int), (8 - i9).toNat < n → 0 ≤ i8 → i8 ≤ 1 → 0 ≤ i9 → i9 ≤ 8 → alI (cv v0) n0 a1 i8 i1 i9 → dm_W (fun _ _ _ => True) (dm_P (QP h (RI (fun x => 0 ≤ x ∧ x ≤ 1 ∧ (x = 1 → cov (cv v0) n0 a1 a2 a3) ∧ (x = 0 → ¬ cov (cv v0) n0 a1 a2 a3))) []) 0 0) l 217 1 0 0 15 [some (.ref b0), some (dI (a1)), some (dI (a2)), some (dI (a3)), some (dI (i1)), some (dI (i8)), some (dI (i9))] [] h 0 0 := by
          intro n
          induction n with
          | zero => intro i8 i9 hm; exact absurd hm (Nat.not_lt_zero _)
          | succ n ih =>
            intro i8 i9 hm15 hb11 hb12 hb13 hb14 PI
            have ihL10 := ih
            clear ih
            refine dr_iload rfl rfl ?_
            refine di_aload_n rfl rfl ?_
            refine di_alen (n := n0) rfl hv0 (Or.inl rfl) hz0.1 ?_
            refine di_icmp_ge rfl rfl (by omega) (by omega) (by omega) (by omega) (fun c16 => ?_) (fun c16 => ?_)
            · skip
              refine dr_iload rfl rfl ?_
              refine di_if_ne rfl rfl (by omega) (by omega) (fun c17 => ?_) (fun c17 => ?_)
              · skip
                refine di_iinc (ls2 := [some (.ref b0), some (dI (a1)), some (dI (a2)), some (dI (a3)), some (dI ((i1 + 1))), some (dI (i8)), some (dI (i9))]) rfl rfl rfl rfl ?_
                refine dr_goto rfl rfl ?_
                refine dm_wk (ls2 := [some (.ref b0), some (dI (a1)), some (dI (a2)), some (dI (a3)), some (dI ((i1 + 1))), none, none]) ⟨Or.inr rfl, Or.inr rfl, Or.inr rfl, Or.inr rfl, Or.inr rfl, Or.inl rfl, Or.inl rfl, trivial⟩ ?_
                exact ihL2 ((i1 + 1)) (by omega) (by omega) (by omega) (by omega)  (alO_s PO PI (by omega))
              · skip
                refine di_const rfl ?_
                exact dr_iret (ty := .boolean) rfl rfl (nar_z (by omega) (by omega)) (by decide) (by decide) ⟨rfl, 0, ⟨by omega, by omega, fun e => absurd e (by decide), fun _ => al_n PI (by omega) (by omega) (by omega) (by omega)⟩, by omega, by omega, rfl⟩
            · skip
              refine dr_iload_n rfl rfl ?_
              refine dr_iload rfl rfl ?_
              refine dr_stat rfl rfl rfl rfl (s_X8_isOf_s l hl hI (a0 := a1) (by omega) (by omega) (a1 := i9) (by omega) (by omega)) (by decide) (by decide) (by decide) (Nat.le_of_ble_eq_true rfl) kNP (kIP (fun y18 y18f y18a y18b => ?_))
              have y18g : 0 ≤ y18 ∧ y18 ≤ 1 ∧ bb (a1) ((i9) + 1) = bb (a1) (i9) + y18 := y18f
              have y18h := isof_h (S := a1) (r := i9) (by omega) y18g.2.2
              refine di_if_eq rfl rfl (by omega) (by omega) (fun c19 => ?_) (fun c19 => ?_)
              · skip
                refine di_iinc (ls2 := [some (.ref b0), some (dI (a1)), some (dI (a2)), some (dI (a3)), some (dI (i1)), some (dI (i8)), some (dI ((i9 + 1)))]) rfl rfl rfl rfl ?_
                refine dr_goto rfl rfl ?_
                exact ihL10 (i8) ((i9 + 1)) (by omega) (by omega) (by omega) (by omega) (by omega)  (alI_n PI (fun (q9 : hbt a1 i9 ∧ cv v0 i9 % 100 ≤ i1 ∧ i1 ≤ cv v0 i9 / 100) => absurd q9.1 (y18h.2 (by omega))))
              · skip
                refine di_aload_n rfl rfl ?_
                refine dr_iload rfl rfl ?_
                refine di_iald rfl hv0 hz0 (by omega) (by omega) (fun x20 x20f x20a x20b x20v => ?_)
                have x20g : -1 ≤ x20 ∧ x20 ≤ 9999 := x20f
                have x20w : cv v0 (i9) = x20 := cv_eq x20v x20a x20b
                have x20o := hv (i9) (by omega) (by omega)
                rw [x20w] at x20o
                refine dr_iload rfl rfl ?_
                refine dr_stat rfl rfl rfl rfl (s_X8_isHolding_d l hl hI (a0 := x20) (by omega) (by omega) (a1 := i1) (by omega) (by omega)) (by decide) (by decide) (by decide) (Nat.le_of_ble_eq_true rfl) kNP (kIP (fun y21 y21f y21a y21b => ?_))
                have y21g : 0 ≤ y21 ∧ y21 ≤ 1 ∧ (y21 = 1 → (x20) % 100 ≤ (i1) ∧ (i1) ≤ (x20) / 100) ∧ (y21 = 0 → (i1) < (x20) % 100 ∨ (x20) / 100 < (i1)) := y21f
                refine di_if_eq rfl rfl (by omega) (by omega) (fun c22 => ?_) (fun c22 => ?_)
                · skip
                  refine di_iinc (ls2 := [some (.ref b0), some (dI (a1)), some (dI (a2)), some (dI (a3)), some (dI (i1)), some (dI (i8)), some (dI ((i9 + 1)))]) rfl rfl rfl rfl ?_
                  refine dr_goto rfl rfl ?_
                  exact ihL10 (i8) ((i9 + 1)) (by omega) (by omega) (by omega) (by omega) (by omega)  (alI_n PI (fun (q9 : hbt a1 i9 ∧ cv v0 i9 % 100 ≤ i1 ∧ i1 ≤ cv v0 i9 / 100) => by have q8 := q9.2; clear q9; omega))
                · skip
                  refine di_const rfl ?_
                  refine di_istore (ls2 := [some (.ref b0), some (dI (a1)), some (dI (a2)), some (dI (a3)), some (dI (i1)), some (dI (1)), some (dI (i9))]) rfl rfl rfl ?_
                  refine di_iinc (ls2 := [some (.ref b0), some (dI (a1)), some (dI (a2)), some (dI (a3)), some (dI (i1)), some (dI (1)), some (dI ((i9 + 1)))]) rfl rfl rfl rfl ?_
                  refine dr_goto rfl rfl ?_
                  exact ihL10 (1) ((i9 + 1)) (by omega) (by omega) (by omega) (by omega) (by omega)  (alI_y rfl (by omega) (by omega) ⟨y18h.1 (by omega), by omega, by omega⟩)
        exact L10 _ (0) (0) (Nat.lt_succ_self _) (by omega) (by omega) (by omega) (by omega)  alI_0
  exact L2 _ (a2) (Nat.lt_succ_self _) (by omega) (by omega) (by omega)  alO_0
