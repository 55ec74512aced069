/-! ===== the books' own methods, their rows told ===== -/
def rkp (F f : Int → Int) (s c x : Int) : Prop := (x = -1 ∧ F c = -1) ∨ (0 ≤ x ∧ x < s ∧ f x = c)
def rnp (g : Int → Int) (s c x : Int) : Prop := (x = -1 ∧ ∀ j : Int, 0 ≤ j → j < s → g j ≠ c) ∨ (0 ≤ x ∧ x < s ∧ g x = c ∧ ∀ j : Int, 0 ≤ j → j < x → g j ≠ c)
theorem rk_no {f : Int → Int} {s c r : Int} (hs : Srt f s) (hb : blw f s c r) (hn : r < s → f r ≠ c) : ∀ j : Int, 0 ≤ j → j < s → f j ≠ c := fun j j0 j1 => by
  obtain ⟨b0, b1, b2, b3⟩ := hb
  by_cases q : j < r
  · have := b2 j j0 q; omega
  · have a := b3 (by omega)
    have b := hn (by omega)
    by_cases q2 : j = r
    · rw [q2]; exact b
    · have := hs r j b0 (by omega) j1
      omega
theorem bk_dj {a b : Nat} (ha : isBk a) (hb : isBk b) (h : a ≠ b) : a + 2 < b ∨ b + 2 < a := by
  rcases ha with rfl | rfl | rfl <;> rcases hb with rfl | rfl | rfl <;> first | exact absurd rfl h | exact Or.inl (by decide) | exact Or.inr (by decide)
theorem isCp_e {u v : List Value} {i s : Int} (h : isCp u v i) (hi : s ≤ i) : ∀ j : Int, 0 ≤ j → j < s → cv v j = cv u j := fun j j0 j1 => h j j0 (by omega)
def isEq (u v : List Value) : Prop := ∀ j : Int, 0 ≤ j → cv v j = cv u j
theorem isEq_0 {u : List Value} : isEq u u := fun _ _ => rfl
theorem isEq_s {u v v' : List Value} {i x : Int} (h : isEq u v) (hs : stt v v' i x) (hx : cv v i = x) : isEq u v' := fun j j0 => by
  rw [hs j j0]
  unfold stf
  by_cases q : j = i
  · rw [if_pos q, q, ← hx, ← q]; exact h j j0
  · rw [if_neg q]; exact h j j0
theorem cnt_st {f : Int → Int} {P : Int → Bool} {i : Int} (h : 0 ≤ i) : cnt f P (i + 1).toNat = cnt f P i.toNat + (if P (f i) then 1 else 0) := by
  rw [show (i + 1).toNat = i.toNat + 1 by omega]
  show cnt f P i.toNat + (if P (f (i.toNat : Int)) then 1 else 0) = _
  rw [Int.toNat_of_nonneg h]
theorem cm_1 {f F : Int → Int} {n i x : Int} (h : n = cnt f (fun c => decide (F c = -1)) i.toNat) (h0 : 0 ≤ i) (hx : f i = x) (hF : F x = -1) : n + 1 = cnt f (fun c => decide (F c = -1)) (i + 1).toNat := by
  rw [cnt_st h0, ← h, hx, if_pos (decide_eq_true hF)]
theorem cm_0 {f F : Int → Int} {n i x : Int} (h : n = cnt f (fun c => decide (F c = -1)) i.toNat) (h0 : 0 ≤ i) (hx : f i = x) (hF : F x ≠ -1) : n = cnt f (fun c => decide (F c = -1)) (i + 1).toNat := by
  rw [cnt_st h0, ← h, hx, if_neg (by simpa using hF), Int.add_zero]
theorem rkp_n {F f : Int → Int} {s c x : Int} (h : rkp F f s c x) (hx : x = -1) : F c = -1 := by
  rcases h with ⟨-, h⟩ | ⟨h, -⟩
  · exact h
  · omega
theorem rkp_y {F f g : Int → Int} {s c x : Int} (hR : Rep f g s F) (h : rkp F f s c x) (hx : x ≠ -1) : F c ≠ -1 := by
  rcases h with ⟨h, -⟩ | ⟨h0, h1, h2⟩
  · exact absurd h hx
  · exact (Rep_yes hR h0 h1 h2).2.1

set_option maxHeartbeats 4000000 in
set_option maxRecDepth 100000 in
/-- Earlyends$Book.count -/
theorem f_X0_count (l : Launch) (hl : l.stackTraces = false) {kc km : Int} {h : dm_H} (hI : Inv kc km h) {b0 : Nat} (hb0 : isBk b0) {s0 m0 : Int} {u0 w0 : List Value} (hC0 : CA b0 s0 m0 u0 w0 h) : dm_M l 1 0 0 0 [.ref b0] h (QP h (RI (fun x => 0 ≤ x ∧ x ≤ 8 ∧ x = s0)) []) := by
  obtain ⟨hq0, hu0, hw0, hau0, haw0, hs0a, hs0b, hm0a, hm0b⟩ := id hC0
  refine dm_M_of dk_1 hl rfl (Nat.le_of_ble_eq_true rfl) ?_
  show dm_W (fun _ _ _ => True) (dm_P (QP h (RI (fun x => 0 ≤ x ∧ x ≤ 8 ∧ x = s0)) []) 0 0) l 1 0 0 0 0 [some (.ref b0)] [] h 0 0
  refine di_aload_n rfl rfl ?_
  refine dr_getf rfl hq0 rfl ?_
  exact dr_iret (ty := .int) rfl rfl rfl (by decide) (by decide) ⟨rfl, s0, (show 0 ≤ (s0) ∧ (s0) ≤ 8 ∧ (s0) = s0 by omega), by omega, by omega, rfl⟩
set_option maxHeartbeats 4000000 in
set_option maxRecDepth 100000 in
/-- Earlyends$Book.moves -/
theorem f_X0_moves (l : Launch) (hl : l.stackTraces = false) {kc km : Int} {h : dm_H} (hI : Inv kc km h) {b0 : Nat} (hb0 : isBk b0) {s0 m0 : Int} {u0 w0 : List Value} (hC0 : CA b0 s0 m0 u0 w0 h) : dm_M l 2 0 0 0 [.ref b0] h (QP h (RI (fun x => -2147483648 ≤ x ∧ x ≤ 2147483647 ∧ x = m0)) []) := by
  obtain ⟨hq0, hu0, hw0, hau0, haw0, hs0a, hs0b, hm0a, hm0b⟩ := id hC0
  refine dm_M_of dk_2 hl rfl (Nat.le_of_ble_eq_true rfl) ?_
  show dm_W (fun _ _ _ => True) (dm_P (QP h (RI (fun x => -2147483648 ≤ x ∧ x ≤ 2147483647 ∧ x = m0)) []) 0 0) l 2 0 0 0 0 [some (.ref b0)] [] h 0 0
  refine di_aload_n rfl rfl ?_
  refine dr_getf rfl hq0 rfl ?_
  exact dr_iret (ty := .int) rfl rfl rfl (by decide) (by decide) ⟨rfl, m0, (show -2147483648 ≤ (m0) ∧ (m0) ≤ 2147483647 ∧ (m0) = m0 by omega), by omega, by omega, rfl⟩
set_option maxHeartbeats 4000000 in
set_option maxRecDepth 100000 in
/-- Earlyends$Book.codeAt -/
theorem f_X0_codeAt (l : Launch) (hl : l.stackTraces = false) {kc km : Int} {h : dm_H} (hI : Inv kc km h) {b0 : Nat} (hb0 : isBk b0) {s0 m0 : Int} {u0 w0 : List Value} (hC0 : CA b0 s0 m0 u0 w0 h) {a1 : Int} (h1a : -2147483648 ≤ a1) (h1b : a1 ≤ 2147483647) : dm_M l 3 0 0 0 [.ref b0, dI (a1)] h (QP h (RI (fun x => -1 ≤ x ∧ x ≤ 9999 ∧ (0 ≤ a1 → a1 < s0 → x = cv u0 a1) ∧ (a1 < 0 → x = -1) ∧ (s0 ≤ a1 → x = -1))) []) := by
  obtain ⟨hq0, hu0, hw0, hau0, haw0, hs0a, hs0b, hm0a, hm0b⟩ := id hC0
  refine dm_M_of dk_3 hl rfl (Nat.le_of_ble_eq_true rfl) ?_
  show dm_W (fun _ _ _ => True) (dm_P (QP h (RI (fun x => -1 ≤ x ∧ x ≤ 9999 ∧ (0 ≤ a1 → a1 < s0 → x = cv u0 a1) ∧ (a1 < 0 → x = -1) ∧ (s0 ≤ a1 → x = -1))) []) 0 0) l 3 0 0 0 0 [some (.ref b0), some (dI (a1))] [] h 0 0
  refine dr_iload_n rfl rfl ?_
  refine di_if_lt rfl rfl (by omega) (by omega) (fun c1 => ?_) (fun c1 => ?_)
  · skip
    refine di_const rfl ?_
    exact dr_iret (ty := .int) rfl rfl rfl (by decide) (by decide) ⟨rfl, (-1), (show -1 ≤ ((-1)) ∧ ((-1)) ≤ 9999 ∧ (0 ≤ a1 → a1 < s0 → ((-1)) = cv u0 a1) ∧ (a1 < 0 → ((-1)) = -1) ∧ (s0 ≤ a1 → ((-1)) = -1) by omega), by omega, by omega, rfl⟩
  · skip
    refine dr_iload_n rfl rfl ?_
    refine di_aload_n rfl rfl ?_
    refine dr_getf rfl hq0 rfl ?_
    refine di_icmp_ge rfl rfl (by omega) (by omega) (by omega) (by omega) (fun c2 => ?_) (fun c2 => ?_)
    · skip
      refine di_const rfl ?_
      exact dr_iret (ty := .int) rfl rfl rfl (by decide) (by decide) ⟨rfl, (-1), (show -1 ≤ ((-1)) ∧ ((-1)) ≤ 9999 ∧ (0 ≤ a1 → a1 < s0 → ((-1)) = cv u0 a1) ∧ (a1 < 0 → ((-1)) = -1) ∧ (s0 ≤ a1 → ((-1)) = -1) by omega), by omega, by omega, rfl⟩
    · skip
      refine di_aload_n rfl rfl ?_
      refine dr_getf rfl hq0 rfl ?_
      refine dr_iload_n rfl rfl ?_
      refine di_iald rfl hu0 hau0 (by omega) (by omega) (fun x3 x3f x3a x3b x3v => ?_)
      have x3w : cv u0 (a1) = x3 := cv_eq x3v x3a x3b
      have x3g : 0 ≤ x3 ∧ x3 ≤ 9999 ∧ x3 % 100 ≤ x3 / 100 := x3f
      refine dr_goto rfl rfl ?_
      exact dr_iret (ty := .int) rfl rfl rfl (by decide) (by decide) ⟨rfl, x3, (show -1 ≤ (x3) ∧ (x3) ≤ 9999 ∧ (0 ≤ a1 → a1 < s0 → (x3) = cv u0 a1) ∧ (a1 < 0 → (x3) = -1) ∧ (s0 ≤ a1 → (x3) = -1) by omega), by omega, by omega, rfl⟩
set_option maxHeartbeats 4000000 in
set_option maxRecDepth 100000 in
/-- Earlyends$Book.noteAt -/
theorem f_X0_noteAt (l : Launch) (hl : l.stackTraces = false) {kc km : Int} {h : dm_H} (hI : Inv kc km h) {b0 : Nat} (hb0 : isBk b0) {s0 m0 : Int} {u0 w0 : List Value} (hC0 : CA b0 s0 m0 u0 w0 h) {a1 : Int} (h1a : -2147483648 ≤ a1) (h1b : a1 ≤ 2147483647) : dm_M l 4 0 0 0 [.ref b0, dI (a1)] h (QP h (RI (fun x => -2147483648 ≤ x ∧ x ≤ 2147483647 ∧ (0 ≤ a1 → a1 < s0 → x = cv w0 a1) ∧ (a1 < 0 → x = -1) ∧ (s0 ≤ a1 → x = -1))) []) := by
  obtain ⟨hq0, hu0, hw0, hau0, haw0, hs0a, hs0b, hm0a, hm0b⟩ := id hC0
  refine dm_M_of dk_4 hl rfl (Nat.le_of_ble_eq_true rfl) ?_
  show dm_W (fun _ _ _ => True) (dm_P (QP h (RI (fun x => -2147483648 ≤ x ∧ x ≤ 2147483647 ∧ (0 ≤ a1 → a1 < s0 → x = cv w0 a1) ∧ (a1 < 0 → x = -1) ∧ (s0 ≤ a1 → x = -1))) []) 0 0) l 4 0 0 0 0 [some (.ref b0), some (dI (a1))] [] h 0 0
  refine dr_iload_n rfl rfl ?_
  refine di_if_lt rfl rfl (by omega) (by omega) (fun c1 => ?_) (fun c1 => ?_)
  · skip
    refine di_const rfl ?_
    exact dr_iret (ty := .int) rfl rfl rfl (by decide) (by decide) ⟨rfl, (-1), (show -2147483648 ≤ ((-1)) ∧ ((-1)) ≤ 2147483647 ∧ (0 ≤ a1 → a1 < s0 → ((-1)) = cv w0 a1) ∧ (a1 < 0 → ((-1)) = -1) ∧ (s0 ≤ a1 → ((-1)) = -1) by omega), by omega, by omega, rfl⟩
  · skip
    refine dr_iload_n rfl rfl ?_
    refine di_aload_n rfl rfl ?_
    refine dr_getf rfl hq0 rfl ?_
    refine di_icmp_ge rfl rfl (by omega) (by omega) (by omega) (by omega) (fun c2 => ?_) (fun c2 => ?_)
    · skip
      refine di_const rfl ?_
      exact dr_iret (ty := .int) rfl rfl rfl (by decide) (by decide) ⟨rfl, (-1), (show -2147483648 ≤ ((-1)) ∧ ((-1)) ≤ 2147483647 ∧ (0 ≤ a1 → a1 < s0 → ((-1)) = cv w0 a1) ∧ (a1 < 0 → ((-1)) = -1) ∧ (s0 ≤ a1 → ((-1)) = -1) by omega), by omega, by omega, rfl⟩
    · skip
      refine di_aload_n rfl rfl ?_
      refine dr_getf rfl hq0 rfl ?_
      refine dr_iload_n rfl rfl ?_
      refine di_iald rfl hw0 haw0 (by omega) (by omega) (fun x3 x3f x3a x3b x3v => ?_)
      have x3w : cv w0 (a1) = x3 := cv_eq x3v x3a x3b
      refine dr_goto rfl rfl ?_
      exact dr_iret (ty := .int) rfl rfl rfl (by decide) (by decide) ⟨rfl, x3, (show -2147483648 ≤ (x3) ∧ (x3) ≤ 2147483647 ∧ (0 ≤ a1 → a1 < s0 → (x3) = cv w0 a1) ∧ (a1 < 0 → (x3) = -1) ∧ (s0 ≤ a1 → (x3) = -1) by omega), by omega, by omega, rfl⟩
set_option maxHeartbeats 4000000 in
set_option maxRecDepth 100000 in
/-- Earlyends$Book.toAt -/
theorem f_X0_toAt (l : Launch) (hl : l.stackTraces = false) {kc km : Int} {h : dm_H} (hI : Inv kc km h) {b0 : Nat} (hb0 : isBk b0) {s0 m0 : Int} {u0 w0 : List Value} (hC0 : CA b0 s0 m0 u0 w0 h) {a1 : Int} (h1a : -2147483648 ≤ a1) (h1b : a1 ≤ 2147483647) : dm_M l 6 0 0 0 [.ref b0, dI (a1)] h (QP h (RI (fun x => -1 ≤ x ∧ x ≤ 99 ∧ (0 ≤ a1 → a1 < s0 → x = cv u0 a1 / 100) ∧ (a1 < 0 → x = -1) ∧ (s0 ≤ a1 → x = -1))) []) := by
  obtain ⟨hq0, hu0, hw0, hau0, haw0, hs0a, hs0b, hm0a, hm0b⟩ := id hC0
  refine dm_M_of dk_6 hl rfl (Nat.le_of_ble_eq_true rfl) ?_
  show dm_W (fun _ _ _ => True) (dm_P (QP h (RI (fun x => -1 ≤ x ∧ x ≤ 99 ∧ (0 ≤ a1 → a1 < s0 → x = cv u0 a1 / 100) ∧ (a1 < 0 → x = -1) ∧ (s0 ≤ a1 → x = -1))) []) 0 0) l 6 0 0 0 0 [some (.ref b0), some (dI (a1))] [] h 0 0
  refine dr_iload_n rfl rfl ?_
  refine di_if_lt rfl rfl (by omega) (by omega) (fun c1 => ?_) (fun c1 => ?_)
  · skip
    refine di_const rfl ?_
    exact dr_iret (ty := .int) rfl rfl rfl (by decide) (by decide) ⟨rfl, (-1), (show -1 ≤ ((-1)) ∧ ((-1)) ≤ 99 ∧ (0 ≤ a1 → a1 < s0 → ((-1)) = cv u0 a1 / 100) ∧ (a1 < 0 → ((-1)) = -1) ∧ (s0 ≤ a1 → ((-1)) = -1) by omega), by omega, by omega, rfl⟩
  · skip
    refine dr_iload_n rfl rfl ?_
    refine di_aload_n rfl rfl ?_
    refine dr_getf rfl hq0 rfl ?_
    refine di_icmp_ge rfl rfl (by omega) (by omega) (by omega) (by omega) (fun c2 => ?_) (fun c2 => ?_)
    · skip
      refine di_const rfl ?_
      exact dr_iret (ty := .int) rfl rfl rfl (by decide) (by decide) ⟨rfl, (-1), (show -1 ≤ ((-1)) ∧ ((-1)) ≤ 99 ∧ (0 ≤ a1 → a1 < s0 → ((-1)) = cv u0 a1 / 100) ∧ (a1 < 0 → ((-1)) = -1) ∧ (s0 ≤ a1 → ((-1)) = -1) by omega), by omega, by omega, rfl⟩
    · skip
      refine di_aload_n rfl rfl ?_
      refine dr_getf rfl hq0 rfl ?_
      refine dr_iload_n rfl rfl ?_
      refine di_iald rfl hu0 hau0 (by omega) (by omega) (fun x3 x3f x3a x3b x3v => ?_)
      have x3w : cv u0 (a1) = x3 := cv_eq x3v x3a x3b
      have x3g : 0 ≤ x3 ∧ x3 ≤ 9999 ∧ x3 % 100 ≤ x3 / 100 := x3f
      refine di_bipush rfl (by decide) ?_
      refine di_idiv rfl (by omega) (by omega) (by omega) (by omega) ?_
      refine dr_goto rfl rfl ?_
      exact dr_iret (ty := .int) rfl rfl rfl (by decide) (by decide) ⟨rfl, (x3 / 100), (show -1 ≤ ((x3 / 100)) ∧ ((x3 / 100)) ≤ 99 ∧ (0 ≤ a1 → a1 < s0 → ((x3 / 100)) = cv u0 a1 / 100) ∧ (a1 < 0 → ((x3 / 100)) = -1) ∧ (s0 ≤ a1 → ((x3 / 100)) = -1) by omega), by omega, by omega, rfl⟩
set_option maxHeartbeats 4000000 in
set_option maxRecDepth 100000 in
/-- Earlyends$Book.countBelow -/
theorem f_X0_countBelow (l : Launch) (hl : l.stackTraces = false) {kc km : Int} {h : dm_H} (hI : Inv kc km h) {b0 : Nat} (hb0 : isBk b0) {s0 m0 : Int} {u0 w0 : List Value} (hC0 : CA b0 s0 m0 u0 w0 h) {a1 : Int} (h1a : -2147483648 ≤ a1) (h1b : a1 ≤ 2147483647) : dm_M l 7 0 0 0 [.ref b0, dI (a1)] h (QP h (RI (fun x => 0 ≤ x ∧ x ≤ 8 ∧ blw (cv u0) s0 a1 x)) []) := by
  obtain ⟨hq0, hu0, hw0, hau0, haw0, hs0a, hs0b, hm0a, hm0b⟩ := id hC0
  refine dm_M_of dk_7 hl rfl (Nat.le_of_ble_eq_true rfl) ?_
  show dm_W (fun _ _ _ => True) (dm_P (QP h (RI (fun x => 0 ≤ x ∧ x ≤ 8 ∧ blw (cv u0) s0 a1 x)) []) 0 0) l 7 0 0 0 0 [some (.ref b0), some (dI (a1)), none] [] h 0 0
  refine di_const rfl ?_
  refine di_istore_n (ls2 := [some (.ref b0), some (dI (a1)), some (dI (0))]) rfl rfl rfl ?_
  have L2 : ∀ (n : Nat) (i1 : Int), (8 - i1).toNat < n → 0 ≤ i1 → i1 ≤ 8 → i1 ≤ s0 → (∀ j9 : Int, 0 ≤ j9 → j9 < i1 → cv u0 j9 < a1) → dm_W (fun _ _ _ => True) (dm_P (QP h (RI (fun x => 0 ≤ x ∧ x ≤ 8 ∧ blw (cv u0) s0 a1 x)) []) 0 0) l 7 0 0 0 2 [some (.ref b0), some (dI (a1)), some (dI (i1))] [] h 0 0 := by
    intro n
    induction n with
    | zero => intro i1 hm; exact absurd hm (Nat.not_lt_zero _)
    | succ n ih =>
      intro i1 hm6 hb3 hb4 hx5 PB
      have ihL2 := ih
      clear ih
      refine dr_iload_n rfl rfl ?_
      refine di_aload_n rfl rfl ?_
      refine dr_getf rfl hq0 rfl ?_
      refine di_icmp_ge rfl rfl (by omega) (by omega) (by omega) (by omega) (fun c7 => ?_) (fun c7 => ?_)
      · skip
        refine dr_iload_n rfl rfl ?_
        exact dr_iret (ty := .int) rfl rfl rfl (by decide) (by decide) ⟨rfl, i1, ⟨by omega, by omega, by omega, by omega, PB, fun h9 => by omega⟩, by omega, by omega, rfl⟩
      · skip
        refine di_aload_n rfl rfl ?_
        refine dr_getf rfl hq0 rfl ?_
        refine dr_iload_n rfl rfl ?_
        refine di_iald rfl hu0 hau0 (by omega) (by omega) (fun x8 x8f x8a x8b x8v => ?_)
        have x8w : cv u0 (i1) = x8 := cv_eq x8v x8a x8b
        have x8g : 0 ≤ x8 ∧ x8 ≤ 9999 ∧ x8 % 100 ≤ x8 / 100 := x8f
        refine dr_iload_n rfl rfl ?_
        refine di_icmp_ge rfl rfl (by omega) (by omega) (by omega) (by omega) (fun c10 => ?_) (fun c10 => ?_)
        · skip
          refine dr_iload_n rfl rfl ?_
          exact dr_iret (ty := .int) rfl rfl rfl (by decide) (by decide) ⟨rfl, i1, ⟨by omega, by omega, by omega, by omega, PB, fun h9 => by omega⟩, by omega, by omega, rfl⟩
        · skip
          refine di_iinc (ls2 := [some (.ref b0), some (dI (a1)), some (dI ((i1 + 1)))]) rfl rfl rfl rfl ?_
          refine dr_goto rfl rfl ?_
          exact ihL2 ((i1 + 1)) (by omega) (by omega) (by omega) (by omega)  (fun j9 h1 h2 => (Int.lt_or_le j9 (i1)).elim (fun e9 => PB j9 h1 e9) (fun e9 => by rw [show j9 = i1 by omega]; omega))
  exact L2 _ (0) (Nat.lt_succ_self _) (by omega) (by omega) (by omega)  (fun j9 h1 h2 => absurd h2 (by omega))
set_option maxHeartbeats 4000000 in
set_option maxRecDepth 100000 in
/-- Earlyends$Book.rankOf -/
theorem f_X0_rankOf (l : Launch) (hl : l.stackTraces = false) {kc km : Int} {h : dm_H} (hI : Inv kc km h) {b0 : Nat} (hb0 : isBk b0) {s0 m0 : Int} {u0 w0 : List Value} (hC0 : CA b0 s0 m0 u0 w0 h) {a1 : Int} (h1a : 0 ≤ a1) (h1b : a1 ≤ 2147483647) {F : Int → Int} (hR : Rep (cv u0) (cv w0) s0 F) (hS : Srt (cv u0) s0) : dm_M l 8 1 0 0 [.ref b0, dI (a1)] h (QP h (RI (fun x => -1 ≤ x ∧ x ≤ 8 ∧ rkp F (cv u0) s0 a1 x)) []) := by
  obtain ⟨hq0, hu0, hw0, hau0, haw0, hs0a, hs0b, hm0a, hm0b⟩ := id hC0
  refine dm_M_of dk_8 hl rfl (Nat.le_of_ble_eq_true rfl) ?_
  show dm_W (fun _ _ _ => True) (dm_P (QP h (RI (fun x => -1 ≤ x ∧ x ≤ 8 ∧ rkp F (cv u0) s0 a1 x)) []) 0 0) l 8 1 0 0 0 [some (.ref b0), some (dI (a1)), none] [] h 0 0
  refine di_aload_n rfl rfl ?_
  refine dr_iload_n rfl rfl ?_
  refine dr_virt rfl rfl rfl rfl hq0 (f_X0_countBelow l hl hI (b0 := b0) hb0 (s0 := s0) (m0 := m0) (u0 := u0) (w0 := w0) ⟨hq0, hu0, hw0, hau0, haw0, by omega, by omega, by omega, by omega⟩ (a1 := a1) (by omega) (by omega)) (by decide) (by decide) (by decide) (Nat.le_of_ble_eq_true rfl) kNP (kIP (fun y1 y1f y1a y1b => ?_))
  have y1g : 0 ≤ y1 ∧ y1 ≤ 8 ∧ blw (cv u0) (s0) (a1) y1 := y1f
  clear y1f
  have y1k : 0 ≤ y1 ∧ y1 ≤ s0 := ⟨y1g.2.2.1, y1g.2.2.2.1⟩
  refine di_istore_n (ls2 := [some (.ref b0), some (dI (a1)), some (dI (y1))]) rfl rfl rfl ?_
  refine di_aload_n rfl rfl ?_
  refine dr_iload_n rfl rfl ?_
  refine dr_virt rfl rfl rfl rfl hq0 (f_X0_codeAt l hl hI (b0 := b0) hb0 (s0 := s0) (m0 := m0) (u0 := u0) (w0 := w0) ⟨hq0, hu0, hw0, hau0, haw0, by omega, by omega, by omega, by omega⟩ (a1 := y1) (by omega) (by omega)) (by decide) (by decide) (by decide) (Nat.le_of_ble_eq_true rfl) kNP (kIP (fun y2 y2f y2a y2b => ?_))
  have y2g : -1 ≤ y2 ∧ y2 ≤ 9999 ∧ (0 ≤ (y1) → (y1) < (s0) → y2 = cv u0 (y1)) ∧ ((y1) < 0 → y2 = -1) ∧ ((s0) ≤ (y1) → y2 = -1) := y2f
  clear y2f
  refine dr_iload_n rfl rfl ?_
  refine di_icmp_ne rfl rfl (by omega) (by omega) (by omega) (by omega) (fun c3 => ?_) (fun c3 => ?_)
  · skip
    refine di_const rfl ?_
    exact dr_iret (ty := .int) rfl rfl rfl (by decide) (by decide) ⟨rfl, (-1), ⟨by omega, by omega, Or.inl ⟨rfl, Rep_no hR (rk_no hS y1g.2.2 (fun h9 => by omega))⟩⟩, by omega, by omega, rfl⟩
  · skip
    refine dr_iload_n rfl rfl ?_
    refine dr_goto rfl rfl ?_
    exact dr_iret (ty := .int) rfl rfl rfl (by decide) (by decide) ⟨rfl, y1, ⟨by omega, by omega, Or.inr ⟨by omega, by omega, by omega⟩⟩, by omega, by omega, rfl⟩
set_option maxHeartbeats 4000000 in
set_option maxRecDepth 100000 in
/-- Earlyends$Book.rankOfNote -/
theorem f_X0_rankOfNote (l : Launch) (hl : l.stackTraces = false) {kc km : Int} {h : dm_H} (hI : Inv kc km h) {b0 : Nat} (hb0 : isBk b0) {s0 m0 : Int} {u0 w0 : List Value} (hC0 : CA b0 s0 m0 u0 w0 h) {a1 : Int} (h1a : -2147483648 ≤ a1) (h1b : a1 ≤ 2147483647) : dm_M l 9 0 0 0 [.ref b0, dI (a1)] h (QP h (RI (fun x => -1 ≤ x ∧ x ≤ 7 ∧ rnp (cv w0) s0 a1 x)) []) := by
  obtain ⟨hq0, hu0, hw0, hau0, haw0, hs0a, hs0b, hm0a, hm0b⟩ := id hC0
  refine dm_M_of dk_9 hl rfl (Nat.le_of_ble_eq_true rfl) ?_
  show dm_W (fun _ _ _ => True) (dm_P (QP h (RI (fun x => -1 ≤ x ∧ x ≤ 7 ∧ rnp (cv w0) s0 a1 x)) []) 0 0) l 9 0 0 0 0 [some (.ref b0), some (dI (a1)), none] [] h 0 0
  refine di_const rfl ?_
  refine di_istore_n (ls2 := [some (.ref b0), some (dI (a1)), some (dI (0))]) rfl rfl rfl ?_
  have L2 : ∀ (n : Nat) (i1 : Int), (8 - i1).toNat < n → 0 ≤ i1 → i1 ≤ 8 → (∀ j9 : Int, 0 ≤ j9 → j9 < i1 → cv w0 j9 ≠ a1) → dm_W (fun _ _ _ => True) (dm_P (QP h (RI (fun x => -1 ≤ x ∧ x ≤ 7 ∧ rnp (cv w0) s0 a1 x)) []) 0 0) l 9 0 0 0 2 [some (.ref b0), some (dI (a1)), some (dI (i1))] [] h 0 0 := by
    intro n
    induction n with
    | zero => intro i1 hm; exact absurd hm (Nat.not_lt_zero _)
    | succ n ih =>
      intro i1 hm5 hb3 hb4 PB
      have ihL2 := ih
      clear ih
      refine dr_iload_n rfl rfl ?_
      refine di_aload_n rfl rfl ?_
      refine dr_getf rfl hq0 rfl ?_
      refine di_icmp_ge rfl rfl (by omega) (by omega) (by omega) (by omega) (fun c6 => ?_) (fun c6 => ?_)
      · skip
        refine di_const rfl ?_
        exact dr_iret (ty := .int) rfl rfl rfl (by decide) (by decide) ⟨rfl, (-1), ⟨by omega, by omega, Or.inl ⟨rfl, fun j9 h1 h2 => PB j9 h1 (by omega)⟩⟩, by omega, by omega, rfl⟩
      · skip
        refine di_aload_n rfl rfl ?_
        refine dr_getf rfl hq0 rfl ?_
        refine dr_iload_n rfl rfl ?_
        refine di_iald rfl hw0 haw0 (by omega) (by omega) (fun x7 x7f x7a x7b x7v => ?_)
        have x7w : cv w0 (i1) = x7 := cv_eq x7v x7a x7b
        refine dr_iload_n rfl rfl ?_
        refine di_icmp_ne rfl rfl (by omega) (by omega) (by omega) (by omega) (fun c8 => ?_) (fun c8 => ?_)
        · skip
          refine di_iinc (ls2 := [some (.ref b0), some (dI (a1)), some (dI ((i1 + 1)))]) rfl rfl rfl rfl ?_
          refine dr_goto rfl rfl ?_
          exact ihL2 ((i1 + 1)) (by omega) (by omega) (by omega)  (fun j9 h1 h2 => (Int.lt_or_le j9 (i1)).elim (fun e9 => PB j9 h1 e9) (fun e9 => by rw [show j9 = i1 by omega]; omega))
        · skip
          refine dr_iload_n rfl rfl ?_
          exact dr_iret (ty := .int) rfl rfl rfl (by decide) (by decide) ⟨rfl, i1, ⟨by omega, by omega, Or.inr ⟨by omega, by omega, by omega, PB⟩⟩, by omega, by omega, rfl⟩
  exact L2 _ (0) (Nat.lt_succ_self _) (by omega) (by omega)  (fun j9 h1 h2 => absurd h2 (by omega))
set_option maxHeartbeats 4000000 in
set_option maxRecDepth 100000 in
/-- Earlyends$Book.swapNote -/
theorem f_X0_swapNote (l : Launch) (hl : l.stackTraces = false) {kc km : Int} {h : dm_H} (hI : Inv kc km h) {b0 : Nat} (hb0 : isBk b0) {s0 m0 : Int} {u0 w0 : List Value} (hC0 : CA b0 s0 m0 u0 w0 h) {a1 : Int} (h1a : -2147483648 ≤ a1) (h1b : a1 ≤ 2147483647) {a2 : Int} (h2a : -2147483648 ≤ a2) (h2b : a2 ≤ 2147483647) : dm_M l 10 0 0 0 [.ref b0, dI (a1), dI (a2)] h (QW kc km h b0 (fun u w s m v => s = s0 ∧ m = m0 ∧ u = u0 ∧ ((0 ≤ a1 ∧ a1 < s0 ∧ stt w0 w a1 a2 ∧ v = some (dI (cv w0 a1))) ∨ ((a1 < 0 ∨ s0 ≤ a1) ∧ w = w0 ∧ v = some (dI (-1)))))) := by
  obtain ⟨hq0, hu0, hw0, hau0, haw0, hs0a, hs0b, hm0a, hm0b⟩ := id hC0
  refine dm_M_of dk_10 hl rfl (Nat.le_of_ble_eq_true rfl) ?_
  show dm_W (fun _ _ _ => True) (dm_P (QW kc km h b0 (fun u w s m v => s = s0 ∧ m = m0 ∧ u = u0 ∧ ((0 ≤ a1 ∧ a1 < s0 ∧ stt w0 w a1 a2 ∧ v = some (dI (cv w0 a1))) ∨ ((a1 < 0 ∨ s0 ≤ a1) ∧ w = w0 ∧ v = some (dI (-1)))))) 0 0) l 10 0 0 0 0 [some (.ref b0), some (dI (a1)), some (dI (a2)), none] [] h 0 0
  refine dr_iload_n rfl rfl ?_
  refine di_if_lt rfl rfl (by omega) (by omega) (fun c1 => ?_) (fun c1 => ?_)
  · skip
    refine di_const rfl ?_
    exact dr_iret (ty := .int) rfl rfl rfl (by decide) (by decide) ⟨hI, FrB_rf, s0, m0, u0, w0, ⟨hq0, hu0, hw0, hau0, haw0, by omega, by omega, by omega, by omega⟩, ⟨rfl, rfl, rfl, Or.inr ⟨by omega, rfl, rfl⟩⟩⟩
  · skip
    refine dr_iload_n rfl rfl ?_
    refine di_aload_n rfl rfl ?_
    refine dr_getf rfl hq0 rfl ?_
    refine di_icmp_lt rfl rfl (by omega) (by omega) (by omega) (by omega) (fun c2 => ?_) (fun c2 => ?_)
    · skip
      refine di_aload_n rfl rfl ?_
      refine dr_getf rfl hq0 rfl ?_
      refine dr_iload_n rfl rfl ?_
      refine di_iald rfl hw0 haw0 (by omega) (by omega) (fun x3 x3f x3a x3b x3v => ?_)
      have x3w : cv w0 (a1) = x3 := cv_eq x3v x3a x3b
      refine di_istore_n (ls2 := [some (.ref b0), some (dI (a1)), some (dI (a2)), some (dI (x3))]) rfl rfl rfl ?_
      refine di_aload_n rfl rfl ?_
      refine dr_getf rfl hq0 rfl ?_
      refine dr_iload_n rfl rfl ?_
      refine dr_iload_n rfl rfl ?_
      refine paX rfl hw0 haw0 (by omega) (by omega) trivial (by omega) (by omega) hI (lt_bk2 hb0) (fun us9 hu9 => T37_bkn hb0 hu9) (fun h4 us6 hI5 hk7 hc8 ha10 st11 => ?_)
      have hc12 := (hk7.2 (b0) (by omega)).trans hq0
      have hc13 := (hk7.2 (b0 + 1) (by omega)).trans hu0
      have hE14 : FrB b0 h h4 := FrB_of hk7 (by omega)
      refine dr_iload_n rfl rfl ?_
      exact dr_iret (ty := .int) rfl rfl rfl (by decide) (by decide) ⟨hI5, hE14, s0, m0, u0, us6, ⟨hc12, hc13, hc8, hau0, ha10, by omega, by omega, by omega, by omega⟩, ⟨rfl, rfl, rfl, Or.inl ⟨by omega, by omega, st11, congrArg (fun x => some (dI x)) x3w.symm⟩⟩⟩
    · skip
      refine di_const rfl ?_
      exact dr_iret (ty := .int) rfl rfl rfl (by decide) (by decide) ⟨hI, FrB_rf, s0, m0, u0, w0, ⟨hq0, hu0, hw0, hau0, haw0, by omega, by omega, by omega, by omega⟩, ⟨rfl, rfl, rfl, Or.inr ⟨by omega, rfl, rfl⟩⟩⟩
set_option maxHeartbeats 4000000 in
set_option maxRecDepth 100000 in
/-- Earlyends$Book.insert -/
theorem f_X0_insert (l : Launch) (hl : l.stackTraces = false) {kc km : Int} {h : dm_H} (hI : Inv kc km h) {b0 : Nat} (hb0 : isBk b0) {s0 m0 : Int} {u0 w0 : List Value} (hC0 : CA b0 s0 m0 u0 w0 h) {a1 : Int} (h1a : 0 ≤ a1) (h1b : a1 ≤ 9999) {a2 : Int} (h2a : -2147483648 ≤ a2) (h2b : a2 ≤ 2147483647) (hp0 : a1 % 100 ≤ a1 / 100) (hp1 : s0 ≤ 7) (hp2 : m0 ≤ 1000000) : dm_M l 11 1 0 0 [.ref b0, dI (a1), dI (a2)] h (QW kc km h b0 (fun u w s m v => ∃ r, blw (cv u0) s0 a1 r ∧ s = s0 + 1 ∧ m = m0 + 1 ∧ (∀ j : Int, 0 ≤ j → j < s0 + 1 → cv u j = insf (cv u0) r a1 j) ∧ (∀ j : Int, 0 ≤ j → j < s0 + 1 → cv w j = insf (cv w0) r a2 j) ∧ v = none)) := by
  obtain ⟨hq0, hu0, hw0, hau0, haw0, hs0a, hs0b, hm0a, hm0b⟩ := id hC0
  refine dm_M_of dk_11 hl rfl (Nat.le_of_ble_eq_true rfl) ?_
  show dm_W (fun _ _ _ => True) (dm_P (QW kc km h b0 (fun u w s m v => ∃ r, blw (cv u0) s0 a1 r ∧ s = s0 + 1 ∧ m = m0 + 1 ∧ (∀ j : Int, 0 ≤ j → j < s0 + 1 → cv u j = insf (cv u0) r a1 j) ∧ (∀ j : Int, 0 ≤ j → j < s0 + 1 → cv w j = insf (cv w0) r a2 j) ∧ v = none)) 0 0) l 11 1 0 0 0 [some (.ref b0), some (dI (a1)), some (dI (a2)), none, none] [] h 0 0
  refine di_aload_n rfl rfl ?_
  refine dr_getf rfl hq0 rfl ?_
  refine di_bipush rfl (by decide) ?_
  refine di_icmp_lt rfl rfl (by omega) (by omega) (by omega) (by omega) (fun c1 => ?_) (fun c1 => ?_)
  · skip
    refine di_aload_n rfl rfl ?_
    refine dr_iload_n rfl rfl ?_
    refine dr_virt rfl rfl rfl rfl hq0 (f_X0_countBelow l hl hI (b0 := b0) hb0 (s0 := s0) (m0 := m0) (u0 := u0) (w0 := w0) ⟨hq0, hu0, hw0, hau0, haw0, by omega, by omega, by omega, by omega⟩ (a1 := a1) (by omega) (by omega)) (by decide) (by decide) (by decide) (Nat.le_of_ble_eq_true rfl) kNP (kIP (fun y2 y2f y2a y2b => ?_))
    have y2g : 0 ≤ y2 ∧ y2 ≤ 8 ∧ blw (cv u0) (s0) (a1) y2 := y2f
    clear y2f
    have y2k : 0 ≤ y2 ∧ y2 ≤ s0 := ⟨y2g.2.2.1, y2g.2.2.2.1⟩
    refine di_istore_n (ls2 := [some (.ref b0), some (dI (a1)), some (dI (a2)), some (dI (y2)), none]) rfl rfl rfl ?_
    refine di_aload_n rfl rfl ?_
    refine dr_getf rfl hq0 rfl ?_
    refine di_istore (ls2 := [some (.ref b0), some (dI (a1)), some (dI (a2)), some (dI (y2)), some (dI (s0))]) rfl rfl rfl ?_
    have L4 : ∀ (n : Nat) (i3 : Int) (h5 : dm_H) (uv8 : List Value) (uv12 : List Value), (i3).toNat < n → 0 ≤ i3 → i3 ≤ 8 → y2 ≤ i3 → i3 ≤ s0 → Inv kc km h5 → FrB b0 h h5 → h5[b0]? = some (2, [.ref (b0 + 1), .ref (b0 + 2), dI (s0), dI (m0)]) → h5[b0 + 1]? = some (20, uv8) → arr 8 okC uv8 → h5[b0 + 2]? = some (20, uv12) → arr 8 anyI uv12 → isSh u0 uv8 s0 i3 → isSh w0 uv12 s0 i3 → dm_W (fun _ _ _ => True) (dm_P (QW kc km h b0 (fun u w s m v => ∃ r, blw (cv u0) s0 a1 r ∧ s = s0 + 1 ∧ m = m0 + 1 ∧ (∀ j : Int, 0 ≤ j → j < s0 + 1 → cv u j = insf (cv u0) r a1 j) ∧ (∀ j : Int, 0 ≤ j → j < s0 + 1 → cv w j = insf (cv w0) r a2 j) ∧ v = none)) 0 0) l 11 1 0 0 22 [some (.ref b0), some (dI (a1)), some (dI (a2)), some (dI (y2)), some (dI (i3))] [] h5 0 0 := by
      intro n
      induction n with
      | zero => intro i3 h5 uv8 uv12 hm; exact absurd hm (Nat.not_lt_zero _)
      | succ n ih =>
        intro i3 h5 uv8 uv12 hm20 hb15 hb16 hx17 hx18 hI6 hE7 hc19 hc10 ha11 hc13 ha14 PU PW
        have ihL4 := ih
        clear ih
        refine dr_iload rfl rfl ?_
        refine dr_iload_n rfl rfl ?_
        refine di_icmp_le rfl rfl (by omega) (by omega) (by omega) (by omega) (fun c21 => ?_) (fun c21 => ?_)
        · skip
          have re22 : i3 = y2 := by omega
          refine di_aload_n rfl rfl ?_
          refine dr_getf rfl hc19 rfl ?_
          refine dr_iload_n rfl rfl ?_
          refine dr_iload_n rfl rfl ?_
          refine paX rfl hc10 ha11 (by omega) (by omega) ⟨by omega, by omega, by omega⟩ (by omega) (by omega) hI6 (lt_bk1 hb0) (fun us9 hu9 => T37_bka hb0 hu9) (fun h23 us25 hI24 hk26 hc27 ha28 st29 => ?_)
          have hc30 := (hk26.2 (b0) (by omega)).trans hc19
          have hc31 := (hk26.2 (b0 + 2) (by omega)).trans hc13
          have hE32 : FrB b0 h5 h23 := FrB_of hk26 (by omega)
          have hE33 := FrB_tr hE7 hE32
          refine di_aload_n rfl rfl ?_
          refine dr_getf rfl hc30 rfl ?_
          refine dr_iload_n rfl rfl ?_
          refine dr_iload_n rfl rfl ?_
          refine paX rfl hc31 ha14 (by omega) (by omega) trivial (by omega) (by omega) hI24 (lt_bk2 hb0) (fun us9 hu9 => T37_bkn hb0 hu9) (fun h34 us36 hI35 hk37 hc38 ha39 st40 => ?_)
          have hc41 := (hk37.2 (b0) (by omega)).trans hc30
          have hc42 := (hk37.2 (b0 + 1) (by omega)).trans hc27
          have hE43 : FrB b0 h23 h34 := FrB_of hk37 (by omega)
          have hE44 := FrB_tr hE33 hE43
          refine di_aload_n rfl rfl ?_
          refine dr_dup rfl rfl ?_
          refine dr_getf rfl hc41 rfl ?_
          refine di_const rfl ?_
          refine di_iadd rfl ?_
          refine pfX rfl hc41 (Nat.le_of_ble_eq_true rfl) rfl hI35 (lt_bk hb0) (T37_bk hb0 (by omega) (by omega)) (fun h45 hI46 hk47 hc48 => ?_)
          have hc49 := (hk47.2 (b0 + 1) (by omega)).trans hc42
          have hc50 := (hk47.2 (b0 + 2) (by omega)).trans hc38
          have hE51 : FrB b0 h34 h45 := FrB_of hk47 (by omega)
          have hE52 := FrB_tr hE44 hE51
          refine di_aload_n rfl rfl ?_
          refine dr_dup rfl rfl ?_
          refine dr_getf rfl hc48 rfl ?_
          refine di_const rfl ?_
          refine di_iadd rfl ?_
          refine pfX rfl hc48 (Nat.le_of_ble_eq_true rfl) rfl hI46 (lt_bk hb0) (T37_bk hb0 (by omega) (by omega)) (fun h53 hI54 hk55 hc56 => ?_)
          have hc57 := (hk55.2 (b0 + 1) (by omega)).trans hc49
          have hc58 := (hk55.2 (b0 + 2) (by omega)).trans hc50
          have hE59 : FrB b0 h45 h53 := FrB_of hk55 (by omega)
          have hE60 := FrB_tr hE52 hE59
          exact dr_vret rfl rfl (by decide) (by decide) ⟨hI54, hE60, (s0 + 1), (m0 + 1), us25, us36, ⟨hc56, hc57, hc58, ha28, ha39, by omega, by omega, by omega, by omega⟩, ⟨y2, y2g.2.2, rfl, rfl, isSh_e (by rw [← re22]; exact PU) st29, isSh_e (by rw [← re22]; exact PW) st40, rfl⟩⟩
        · skip
          refine di_aload_n rfl rfl ?_
          refine dr_getf rfl hc19 rfl ?_
          refine dr_iload rfl rfl ?_
          refine di_aload_n rfl rfl ?_
          refine dr_getf rfl hc19 rfl ?_
          refine dr_iload rfl rfl ?_
          refine di_const rfl ?_
          refine di_isub rfl ?_
          refine di_iald rfl hc10 ha11 (by omega) (by omega) (fun x61 x61f x61a x61b x61v => ?_)
          have x61w : cv uv8 ((i3 - 1)) = x61 := cv_eq x61v x61a x61b
          have x61g : 0 ≤ x61 ∧ x61 ≤ 9999 ∧ x61 % 100 ≤ x61 / 100 := x61f
          refine paX rfl hc10 ha11 (by omega) (by omega) ⟨by omega, by omega, by omega⟩ (by omega) (by omega) hI6 (lt_bk1 hb0) (fun us9 hu9 => T37_bka hb0 hu9) (fun h62 us64 hI63 hk65 hc66 ha67 st68 => ?_)
          have hc69 := (hk65.2 (b0) (by omega)).trans hc19
          have hc70 := (hk65.2 (b0 + 2) (by omega)).trans hc13
          have hE71 : FrB b0 h5 h62 := FrB_of hk65 (by omega)
          have hE72 := FrB_tr hE7 hE71
          refine di_aload_n rfl rfl ?_
          refine dr_getf rfl hc69 rfl ?_
          refine dr_iload rfl rfl ?_
          refine di_aload_n rfl rfl ?_
          refine dr_getf rfl hc69 rfl ?_
          refine dr_iload rfl rfl ?_
          refine di_const rfl ?_
          refine di_isub rfl ?_
          refine di_iald rfl hc70 ha14 (by omega) (by omega) (fun x73 x73f x73a x73b x73v => ?_)
          have x73w : cv uv12 ((i3 - 1)) = x73 := cv_eq x73v x73a x73b
          refine paX rfl hc70 ha14 (by omega) (by omega) trivial (by omega) (by omega) hI63 (lt_bk2 hb0) (fun us9 hu9 => T37_bkn hb0 hu9) (fun h74 us76 hI75 hk77 hc78 ha79 st80 => ?_)
          have hc81 := (hk77.2 (b0) (by omega)).trans hc69
          have hc82 := (hk77.2 (b0 + 1) (by omega)).trans hc66
          have hE83 : FrB b0 h62 h74 := FrB_of hk77 (by omega)
          have hE84 := FrB_tr hE72 hE83
          refine di_iinc (ls2 := [some (.ref b0), some (dI (a1)), some (dI (a2)), some (dI (y2)), some (dI ((i3 + (-1))))]) rfl rfl rfl rfl ?_
          refine dr_goto rfl rfl ?_
          exact ihL4 ((i3 + (-1))) h74 (us64) (us76) (by omega) (by omega) (by omega) (by omega) (by omega) hI75 hE84 hc81 hc82 ha67 hc78 ha79 (isSh_s PU st68 x61w (by omega) (by omega)) (isSh_s PW st80 x73w (by omega) (by omega))
    exact L4 _ (s0) h (u0) (w0) (Nat.lt_succ_self _) (by omega) (by omega) (by omega) (by omega) hI FrB_rf hq0 hu0 hau0 hw0 haw0 isSh_0 isSh_0
  · skip
    exfalso; omega
set_option maxHeartbeats 4000000 in
set_option maxRecDepth 100000 in
/-- Earlyends$Book.removeAt -/
theorem f_X0_removeAt (l : Launch) (hl : l.stackTraces = false) {kc km : Int} {h : dm_H} (hI : Inv kc km h) {b0 : Nat} (hb0 : isBk b0) {s0 m0 : Int} {u0 w0 : List Value} (hC0 : CA b0 s0 m0 u0 w0 h) {a1 : Int} (h1a : -2147483648 ≤ a1) (h1b : a1 ≤ 2147483647) (hp0 : m0 ≤ 1000000) : dm_M l 12 0 0 0 [.ref b0, dI (a1)] h (QW kc km h b0 (fun u w s m v => ((0 ≤ a1 ∧ a1 < s0 ∧ s = s0 - 1 ∧ m = m0 + 1 ∧ (∀ j : Int, 0 ≤ j → j < s0 - 1 → cv u j = delf (cv u0) a1 j) ∧ (∀ j : Int, 0 ≤ j → j < s0 - 1 → cv w j = delf (cv w0) a1 j)) ∨ ((a1 < 0 ∨ s0 ≤ a1) ∧ s = s0 ∧ m = m0 ∧ u = u0 ∧ w = w0)) ∧ v = none)) := by
  obtain ⟨hq0, hu0, hw0, hau0, haw0, hs0a, hs0b, hm0a, hm0b⟩ := id hC0
  refine dm_M_of dk_12 hl rfl (Nat.le_of_ble_eq_true rfl) ?_
  show dm_W (fun _ _ _ => True) (dm_P (QW kc km h b0 (fun u w s m v => ((0 ≤ a1 ∧ a1 < s0 ∧ s = s0 - 1 ∧ m = m0 + 1 ∧ (∀ j : Int, 0 ≤ j → j < s0 - 1 → cv u j = delf (cv u0) a1 j) ∧ (∀ j : Int, 0 ≤ j → j < s0 - 1 → cv w j = delf (cv w0) a1 j)) ∨ ((a1 < 0 ∨ s0 ≤ a1) ∧ s = s0 ∧ m = m0 ∧ u = u0 ∧ w = w0)) ∧ v = none)) 0 0) l 12 0 0 0 0 [some (.ref b0), some (dI (a1)), none] [] h 0 0
  refine dr_iload_n rfl rfl ?_
  refine di_if_lt rfl rfl (by omega) (by omega) (fun c1 => ?_) (fun c1 => ?_)
  · skip
    exact dr_vret rfl rfl (by decide) (by decide) ⟨hI, FrB_rf, s0, m0, u0, w0, ⟨hq0, hu0, hw0, hau0, haw0, by omega, by omega, by omega, by omega⟩, ⟨Or.inr ⟨by omega, rfl, rfl, rfl, rfl⟩, rfl⟩⟩
  · skip
    refine dr_iload_n rfl rfl ?_
    refine di_aload_n rfl rfl ?_
    refine dr_getf rfl hq0 rfl ?_
    refine di_icmp_lt rfl rfl (by omega) (by omega) (by omega) (by omega) (fun c2 => ?_) (fun c2 => ?_)
    · skip
      refine di_aload_n rfl rfl ?_
      refine dr_dup rfl rfl ?_
      refine dr_getf rfl hq0 rfl ?_
      refine di_const rfl ?_
      refine di_isub rfl ?_
      refine pfX rfl hq0 (Nat.le_of_ble_eq_true rfl) rfl hI (lt_bk hb0) (T37_bk hb0 (by omega) (by omega)) (fun h3 hI4 hk5 hc6 => ?_)
      have hc7 := (hk5.2 (b0 + 1) (by omega)).trans hu0
      have hc8 := (hk5.2 (b0 + 2) (by omega)).trans hw0
      have hE10 : FrB b0 h h3 := FrB_of hk5 (by omega)
      refine di_aload_n rfl rfl ?_
      refine dr_dup rfl rfl ?_
      refine dr_getf rfl hc6 rfl ?_
      refine di_const rfl ?_
      refine di_iadd rfl ?_
      refine pfX rfl hc6 (Nat.le_of_ble_eq_true rfl) rfl hI4 (lt_bk hb0) (T37_bk hb0 (by omega) (by omega)) (fun h11 hI12 hk13 hc14 => ?_)
      have hc15 := (hk13.2 (b0 + 1) (by omega)).trans hc7
      have hc16 := (hk13.2 (b0 + 2) (by omega)).trans hc8
      have hE17 : FrB b0 h3 h11 := FrB_of hk13 (by omega)
      have hE18 := FrB_tr hE10 hE17
      refine dr_iload_n rfl rfl ?_
      refine di_istore_n (ls2 := [some (.ref b0), some (dI (a1)), some (dI (a1))]) rfl rfl rfl ?_
      have L20 : ∀ (n : Nat) (i19 : Int) (h21 : dm_H) (uv24 : List Value) (uv27 : List Value), (8 - i19).toNat < n → 0 ≤ i19 → i19 ≤ 8 → a1 ≤ i19 → Inv kc km h21 → FrB b0 h h21 → h21[b0]? = some (2, [.ref (b0 + 1), .ref (b0 + 2), dI ((s0 - 1)), dI ((m0 + 1))]) → h21[b0 + 1]? = some (20, uv24) → arr 8 okC uv24 → h21[b0 + 2]? = some (20, uv27) → arr 8 anyI uv27 → isDl u0 uv24 a1 (s0 - 1) i19 → isDl w0 uv27 a1 (s0 - 1) i19 → dm_W (fun _ _ _ => True) (dm_P (QW kc km h b0 (fun u w s m v => ((0 ≤ a1 ∧ a1 < s0 ∧ s = s0 - 1 ∧ m = m0 + 1 ∧ (∀ j : Int, 0 ≤ j → j < s0 - 1 → cv u j = delf (cv u0) a1 j) ∧ (∀ j : Int, 0 ≤ j → j < s0 - 1 → cv w j = delf (cv w0) a1 j)) ∨ ((a1 < 0 ∨ s0 ≤ a1) ∧ s = s0 ∧ m = m0 ∧ u = u0 ∧ w = w0)) ∧ v = none)) 0 0) l 12 0 0 0 35 [some (.ref b0), some (dI (a1)), some (dI (i19))] [] h21 0 0 := by
        intro n
        induction n with
        | zero => intro i19 h21 uv24 uv27 hm; exact absurd hm (Nat.not_lt_zero _)
        | succ n ih =>
          intro i19 h21 uv24 uv27 hm34 hb30 hb31 hx32 hI22 hE23 hc33 hc25 ha26 hc28 ha29 PU PW
          have ihL20 := ih
          clear ih
          refine dr_iload_n rfl rfl ?_
          refine di_aload_n rfl rfl ?_
          refine dr_getf rfl hc33 rfl ?_
          refine di_icmp_ge rfl rfl (by omega) (by omega) (by omega) (by omega) (fun c35 => ?_) (fun c35 => ?_)
          · skip
            exact dr_vret rfl rfl (by decide) (by decide) ⟨hI22, hE23, (s0 - 1), (m0 + 1), uv24, uv27, ⟨hc33, hc25, hc28, ha26, ha29, by omega, by omega, by omega, by omega⟩, ⟨Or.inl ⟨by omega, by omega, rfl, rfl, isDl_e PU (by omega), isDl_e PW (by omega)⟩, rfl⟩⟩
          · skip
            refine di_aload_n rfl rfl ?_
            refine dr_getf rfl hc33 rfl ?_
            refine dr_iload_n rfl rfl ?_
            refine di_aload_n rfl rfl ?_
            refine dr_getf rfl hc33 rfl ?_
            refine dr_iload_n rfl rfl ?_
            refine di_const rfl ?_
            refine di_iadd rfl ?_
            refine di_iald rfl hc25 ha26 (by omega) (by omega) (fun x36 x36f x36a x36b x36v => ?_)
            have x36w : cv uv24 ((i19 + 1)) = x36 := cv_eq x36v x36a x36b
            have x36g : 0 ≤ x36 ∧ x36 ≤ 9999 ∧ x36 % 100 ≤ x36 / 100 := x36f
            refine paX rfl hc25 ha26 (by omega) (by omega) ⟨by omega, by omega, by omega⟩ (by omega) (by omega) hI22 (lt_bk1 hb0) (fun us9 hu9 => T37_bka hb0 hu9) (fun h37 us39 hI38 hk40 hc41 ha42 st43 => ?_)
            have hc44 := (hk40.2 (b0) (by omega)).trans hc33
            have hc45 := (hk40.2 (b0 + 2) (by omega)).trans hc28
            have hE46 : FrB b0 h21 h37 := FrB_of hk40 (by omega)
            have hE47 := FrB_tr hE23 hE46
            refine di_aload_n rfl rfl ?_
            refine dr_getf rfl hc44 rfl ?_
            refine dr_iload_n rfl rfl ?_
            refine di_aload_n rfl rfl ?_
            refine dr_getf rfl hc44 rfl ?_
            refine dr_iload_n rfl rfl ?_
            refine di_const rfl ?_
            refine di_iadd rfl ?_
            refine di_iald rfl hc45 ha29 (by omega) (by omega) (fun x48 x48f x48a x48b x48v => ?_)
            have x48w : cv uv27 ((i19 + 1)) = x48 := cv_eq x48v x48a x48b
            refine paX rfl hc45 ha29 (by omega) (by omega) trivial (by omega) (by omega) hI38 (lt_bk2 hb0) (fun us9 hu9 => T37_bkn hb0 hu9) (fun h49 us51 hI50 hk52 hc53 ha54 st55 => ?_)
            have hc56 := (hk52.2 (b0) (by omega)).trans hc44
            have hc57 := (hk52.2 (b0 + 1) (by omega)).trans hc41
            have hE58 : FrB b0 h37 h49 := FrB_of hk52 (by omega)
            have hE59 := FrB_tr hE47 hE58
            refine di_iinc (ls2 := [some (.ref b0), some (dI (a1)), some (dI ((i19 + 1)))]) rfl rfl rfl rfl ?_
            refine dr_goto rfl rfl ?_
            exact ihL20 ((i19 + 1)) h49 (us39) (us51) (by omega) (by omega) (by omega) (by omega) hI50 hE59 hc56 hc57 ha42 hc53 ha54 (isDl_s PU st43 x36w (by omega) (by omega) (by omega)) (isDl_s PW st55 x48w (by omega) (by omega) (by omega))
      exact L20 _ (a1) h11 (u0) (w0) (Nat.lt_succ_self _) (by omega) (by omega) (by omega) hI12 hE18 hc14 hc15 hau0 hc16 haw0 isDl_0 isDl_0
    · skip
      exact dr_vret rfl rfl (by decide) (by decide) ⟨hI, FrB_rf, s0, m0, u0, w0, ⟨hq0, hu0, hw0, hau0, haw0, by omega, by omega, by omega, by omega⟩, ⟨Or.inr ⟨by omega, rfl, rfl, rfl, rfl⟩, rfl⟩⟩
set_option maxHeartbeats 4000000 in
set_option maxRecDepth 100000 in
/-- Earlyends$Book.becomeAs -/
theorem f_X0_becomeAs (l : Launch) (hl : l.stackTraces = false) {kc km : Int} {h : dm_H} (hI : Inv kc km h) {b0 : Nat} (hb0 : isBk b0) {s0 m0 : Int} {u0 w0 : List Value} (hC0 : CA b0 s0 m0 u0 w0 h) {b1 : Nat} (hb1 : isBk b1) {s1 m1 : Int} {u1 w1 : List Value} (hC1 : CA b1 s1 m1 u1 w1 h) (hp0 : b0 ≠ b1) (hp1 : m0 ≤ 1000000) : dm_M l 14 0 0 0 [.ref b0, .ref b1] h (QW kc km h b0 (fun u w s m v => s = s1 ∧ m = m0 + 1 ∧ (∀ j : Int, 0 ≤ j → j < s1 → cv u j = cv u1 j) ∧ (∀ j : Int, 0 ≤ j → j < s1 → cv w j = cv w1 j) ∧ v = none)) := by
  obtain ⟨hq0, hu0, hw0, hau0, haw0, hs0a, hs0b, hm0a, hm0b⟩ := id hC0
  obtain ⟨hq1, hu1, hw1, hau1, haw1, hs1a, hs1b, hm1a, hm1b⟩ := id hC1
  have hd9 : b0 + 2 < b1 ∨ b1 + 2 < b0 := bk_dj hb0 hb1 hp0
  refine dm_M_of dk_14 hl rfl (Nat.le_of_ble_eq_true rfl) ?_
  show dm_W (fun _ _ _ => True) (dm_P (QW kc km h b0 (fun u w s m v => s = s1 ∧ m = m0 + 1 ∧ (∀ j : Int, 0 ≤ j → j < s1 → cv u j = cv u1 j) ∧ (∀ j : Int, 0 ≤ j → j < s1 → cv w j = cv w1 j) ∧ v = none)) 0 0) l 14 0 0 0 0 [some (.ref b0), some (.ref b1), none] [] h 0 0
  refine di_aload_n rfl rfl ?_
  refine di_aload_n rfl rfl ?_
  refine dr_getf rfl hq1 rfl ?_
  refine pfX rfl hq0 (Nat.le_of_ble_eq_true rfl) rfl hI (lt_bk hb0) (T37_bk hb0 (by omega) (by omega)) (fun h1 hI2 hk3 hc4 => ?_)
  have hc5 := (hk3.2 (b0 + 1) (by omega)).trans hu0
  have hc6 := (hk3.2 (b0 + 2) (by omega)).trans hw0
  have hc7 := (hk3.2 (b1) (by omega)).trans hq1
  have hc8 := (hk3.2 (b1 + 1) (by omega)).trans hu1
  have hc10 := (hk3.2 (b1 + 2) (by omega)).trans hw1
  have hE11 : FrB b0 h h1 := FrB_of hk3 (by omega)
  refine di_aload_n rfl rfl ?_
  refine dr_dup rfl rfl ?_
  refine dr_getf rfl hc4 rfl ?_
  refine di_const rfl ?_
  refine di_iadd rfl ?_
  refine pfX rfl hc4 (Nat.le_of_ble_eq_true rfl) rfl hI2 (lt_bk hb0) (T37_bk hb0 (by omega) (by omega)) (fun h12 hI13 hk14 hc15 => ?_)
  have hc16 := (hk14.2 (b0 + 1) (by omega)).trans hc5
  have hc17 := (hk14.2 (b0 + 2) (by omega)).trans hc6
  have hc18 := (hk14.2 (b1) (by omega)).trans hc7
  have hc19 := (hk14.2 (b1 + 1) (by omega)).trans hc8
  have hc20 := (hk14.2 (b1 + 2) (by omega)).trans hc10
  have hE21 : FrB b0 h1 h12 := FrB_of hk14 (by omega)
  have hE22 := FrB_tr hE11 hE21
  refine di_const rfl ?_
  refine di_istore_n (ls2 := [some (.ref b0), some (.ref b1), some (dI (0))]) rfl rfl rfl ?_
  have L24 : ∀ (n : Nat) (i23 : Int) (h25 : dm_H) (uv28 : List Value) (uv31 : List Value), (8 - i23).toNat < n → 0 ≤ i23 → i23 ≤ 8 → Inv kc km h25 → FrB b0 h h25 → h25[b1]? = some (2, [.ref (b1 + 1), .ref (b1 + 2), dI (s1), dI (m1)]) → h25[b0]? = some (2, [.ref (b0 + 1), .ref (b0 + 2), dI (s1), dI ((m0 + 1))]) → h25[b0 + 1]? = some (20, uv28) → arr 8 okC uv28 → h25[b0 + 2]? = some (20, uv31) → arr 8 anyI uv31 → h25[b1 + 1]? = some (20, u1) → h25[b1 + 2]? = some (20, w1) → isCp u1 uv28 i23 → isCp w1 uv31 i23 → dm_W (fun _ _ _ => True) (dm_P (QW kc km h b0 (fun u w s m v => s = s1 ∧ m = m0 + 1 ∧ (∀ j : Int, 0 ≤ j → j < s1 → cv u j = cv u1 j) ∧ (∀ j : Int, 0 ≤ j → j < s1 → cv w j = cv w1 j) ∧ v = none)) 0 0) l 14 0 0 0 20 [some (.ref b0), some (.ref b1), some (dI (i23))] [] h25 0 0 := by
    intro n
    induction n with
    | zero => intro i23 h25 uv28 uv31 hm; exact absurd hm (Nat.not_lt_zero _)
    | succ n ih =>
      intro i23 h25 uv28 uv31 hm40 hb36 hb37 hI26 hE27 hc38 hc39 hc29 ha30 hc32 ha33 hc34 hc35 PU PW
      have ihL24 := ih
      clear ih
      refine dr_iload_n rfl rfl ?_
      refine di_aload_n rfl rfl ?_
      refine dr_getf rfl hc39 rfl ?_
      refine di_icmp_ge rfl rfl (by omega) (by omega) (by omega) (by omega) (fun c41 => ?_) (fun c41 => ?_)
      · skip
        exact dr_vret rfl rfl (by decide) (by decide) ⟨hI26, hE27, s1, (m0 + 1), uv28, uv31, ⟨hc39, hc29, hc32, ha30, ha33, by omega, by omega, by omega, by omega⟩, ⟨rfl, rfl, isCp_e PU (by omega), isCp_e PW (by omega), rfl⟩⟩
      · skip
        refine di_aload_n rfl rfl ?_
        refine dr_getf rfl hc39 rfl ?_
        refine dr_iload_n rfl rfl ?_
        refine di_aload_n rfl rfl ?_
        refine dr_getf rfl hc38 rfl ?_
        refine dr_iload_n rfl rfl ?_
        refine di_iald rfl hc34 hau1 (by omega) (by omega) (fun x42 x42f x42a x42b x42v => ?_)
        have x42w : cv u1 (i23) = x42 := cv_eq x42v x42a x42b
        have x42g : 0 ≤ x42 ∧ x42 ≤ 9999 ∧ x42 % 100 ≤ x42 / 100 := x42f
        refine paX rfl hc29 ha30 (by omega) (by omega) ⟨by omega, by omega, by omega⟩ (by omega) (by omega) hI26 (lt_bk1 hb0) (fun us9 hu9 => T37_bka hb0 hu9) (fun h43 us45 hI44 hk46 hc47 ha48 st49 => ?_)
        have hc50 := (hk46.2 (b1) (by omega)).trans hc38
        have hc51 := (hk46.2 (b0) (by omega)).trans hc39
        have hc52 := (hk46.2 (b0 + 2) (by omega)).trans hc32
        have hc53 := (hk46.2 (b1 + 1) (by omega)).trans hc34
        have hc54 := (hk46.2 (b1 + 2) (by omega)).trans hc35
        have hE55 : FrB b0 h25 h43 := FrB_of hk46 (by omega)
        have hE56 := FrB_tr hE27 hE55
        refine di_aload_n rfl rfl ?_
        refine dr_getf rfl hc51 rfl ?_
        refine dr_iload_n rfl rfl ?_
        refine di_aload_n rfl rfl ?_
        refine dr_getf rfl hc50 rfl ?_
        refine dr_iload_n rfl rfl ?_
        refine di_iald rfl hc54 haw1 (by omega) (by omega) (fun x57 x57f x57a x57b x57v => ?_)
        have x57w : cv w1 (i23) = x57 := cv_eq x57v x57a x57b
        refine paX rfl hc52 ha33 (by omega) (by omega) trivial (by omega) (by omega) hI44 (lt_bk2 hb0) (fun us9 hu9 => T37_bkn hb0 hu9) (fun h58 us60 hI59 hk61 hc62 ha63 st64 => ?_)
        have hc65 := (hk61.2 (b1) (by omega)).trans hc50
        have hc66 := (hk61.2 (b0) (by omega)).trans hc51
        have hc67 := (hk61.2 (b1 + 1) (by omega)).trans hc53
        have hc68 := (hk61.2 (b1 + 2) (by omega)).trans hc54
        have hc69 := (hk61.2 (b0 + 1) (by omega)).trans hc47
        have hE70 : FrB b0 h43 h58 := FrB_of hk61 (by omega)
        have hE71 := FrB_tr hE56 hE70
        refine di_iinc (ls2 := [some (.ref b0), some (.ref b1), some (dI ((i23 + 1)))]) rfl rfl rfl rfl ?_
        refine dr_goto rfl rfl ?_
        exact ihL24 ((i23 + 1)) h58 (us45) (us60) (by omega) (by omega) (by omega) hI59 hE71 hc65 hc66 hc69 ha48 hc62 ha63 hc67 hc68 (isCp_s PU st49 x42w) (isCp_s PW st64 x57w)
  exact L24 _ (0) h12 (u0) (w0) (Nat.lt_succ_self _) (by omega) (by omega) hI13 hE22 hc18 hc15 hc16 hau0 hc17 haw0 hc19 hc20 isCp_0 isCp_0
set_option maxHeartbeats 4000000 in
set_option maxRecDepth 100000 in
/-- Earlyends$Book.becomeAs -/
theorem f_X0_becomeAs_s (l : Launch) (hl : l.stackTraces = false) {kc km : Int} {h : dm_H} (hI : Inv kc km h) {b0 : Nat} (hb0 : isBk b0) {s0 m0 : Int} {u0 w0 : List Value} (hC0 : CA b0 s0 m0 u0 w0 h) (hp0 : m0 ≤ 1000000) : dm_M l 14 0 0 0 [.ref b0, .ref b0] h (QW kc km h b0 (fun u w s m v => s = s0 ∧ m = m0 + 1 ∧ (∀ j : Int, 0 ≤ j → j < s0 → cv u j = cv u0 j) ∧ (∀ j : Int, 0 ≤ j → j < s0 → cv w j = cv w0 j) ∧ v = none)) := by
  obtain ⟨hq0, hu0, hw0, hau0, haw0, hs0a, hs0b, hm0a, hm0b⟩ := id hC0
  refine dm_M_of dk_14 hl rfl (Nat.le_of_ble_eq_true rfl) ?_
  show dm_W (fun _ _ _ => True) (dm_P (QW kc km h b0 (fun u w s m v => s = s0 ∧ m = m0 + 1 ∧ (∀ j : Int, 0 ≤ j → j < s0 → cv u j = cv u0 j) ∧ (∀ j : Int, 0 ≤ j → j < s0 → cv w j = cv w0 j) ∧ v = none)) 0 0) l 14 0 0 0 0 [some (.ref b0), some (.ref b0), none] [] h 0 0
  refine di_aload_n rfl rfl ?_
  refine di_aload_n rfl rfl ?_
  refine dr_getf rfl hq0 rfl ?_
  refine pfX rfl hq0 (Nat.le_of_ble_eq_true rfl) rfl hI (lt_bk hb0) (T37_bk hb0 (by omega) (by omega)) (fun h1 hI2 hk3 hc4 => ?_)
  have hc5 := (hk3.2 (b0 + 1) (by omega)).trans hu0
  have hc6 := (hk3.2 (b0 + 2) (by omega)).trans hw0
  have hE7 : FrB b0 h h1 := FrB_of hk3 (by omega)
  refine di_aload_n rfl rfl ?_
  refine dr_dup rfl rfl ?_
  refine dr_getf rfl hc4 rfl ?_
  refine di_const rfl ?_
  refine di_iadd rfl ?_
  refine pfX rfl hc4 (Nat.le_of_ble_eq_true rfl) rfl hI2 (lt_bk hb0) (T37_bk hb0 (by omega) (by omega)) (fun h8 hI10 hk11 hc12 => ?_)
  have hc13 := (hk11.2 (b0 + 1) (by omega)).trans hc5
  have hc14 := (hk11.2 (b0 + 2) (by omega)).trans hc6
  have hE15 : FrB b0 h1 h8 := FrB_of hk11 (by omega)
  have hE16 := FrB_tr hE7 hE15
  refine di_const rfl ?_
  refine di_istore_n (ls2 := [some (.ref b0), some (.ref b0), some (dI (0))]) rfl rfl rfl ?_
  have L18 : ∀ (n : Nat) (i17 : Int) (h19 : dm_H) (uv22 : List Value) (uv25 : List Value), (8 - i17).toNat < n → 0 ≤ i17 → i17 ≤ 8 → Inv kc km h19 → FrB b0 h h19 → h19[b0]? = some (2, [.ref (b0 + 1), .ref (b0 + 2), dI (s0), dI ((m0 + 1))]) → h19[b0 + 1]? = some (20, uv22) → arr 8 okC uv22 → h19[b0 + 2]? = some (20, uv25) → arr 8 anyI uv25 → isEq u0 uv22 → isEq w0 uv25 → dm_W (fun _ _ _ => True) (dm_P (QW kc km h b0 (fun u w s m v => s = s0 ∧ m = m0 + 1 ∧ (∀ j : Int, 0 ≤ j → j < s0 → cv u j = cv u0 j) ∧ (∀ j : Int, 0 ≤ j → j < s0 → cv w j = cv w0 j) ∧ v = none)) 0 0) l 14 0 0 0 20 [some (.ref b0), some (.ref b0), some (dI (i17))] [] h19 0 0 := by
    intro n
    induction n with
    | zero => intro i17 h19 uv22 uv25 hm; exact absurd hm (Nat.not_lt_zero _)
    | succ n ih =>
      intro i17 h19 uv22 uv25 hm31 hb28 hb29 hI20 hE21 hc30 hc23 ha24 hc26 ha27 PU PW
      have ihL18 := ih
      clear ih
      refine dr_iload_n rfl rfl ?_
      refine di_aload_n rfl rfl ?_
      refine dr_getf rfl hc30 rfl ?_
      refine di_icmp_ge rfl rfl (by omega) (by omega) (by omega) (by omega) (fun c32 => ?_) (fun c32 => ?_)
      · skip
        exact dr_vret rfl rfl (by decide) (by decide) ⟨hI20, hE21, s0, (m0 + 1), uv22, uv25, ⟨hc30, hc23, hc26, ha24, ha27, by omega, by omega, by omega, by omega⟩, ⟨rfl, rfl, fun j h1 _ => PU j h1, fun j h1 _ => PW j h1, rfl⟩⟩
      · skip
        refine di_aload_n rfl rfl ?_
        refine dr_getf rfl hc30 rfl ?_
        refine dr_iload_n rfl rfl ?_
        refine di_aload_n rfl rfl ?_
        refine dr_getf rfl hc30 rfl ?_
        refine dr_iload_n rfl rfl ?_
        refine di_iald rfl hc23 ha24 (by omega) (by omega) (fun x33 x33f x33a x33b x33v => ?_)
        have x33w : cv uv22 (i17) = x33 := cv_eq x33v x33a x33b
        have x33g : 0 ≤ x33 ∧ x33 ≤ 9999 ∧ x33 % 100 ≤ x33 / 100 := x33f
        refine paX rfl hc23 ha24 (by omega) (by omega) ⟨by omega, by omega, by omega⟩ (by omega) (by omega) hI20 (lt_bk1 hb0) (fun us9 hu9 => T37_bka hb0 hu9) (fun h34 us36 hI35 hk37 hc38 ha39 st40 => ?_)
        have hc41 := (hk37.2 (b0) (by omega)).trans hc30
        have hc42 := (hk37.2 (b0 + 2) (by omega)).trans hc26
        have hE43 : FrB b0 h19 h34 := FrB_of hk37 (by omega)
        have hE44 := FrB_tr hE21 hE43
        refine di_aload_n rfl rfl ?_
        refine dr_getf rfl hc41 rfl ?_
        refine dr_iload_n rfl rfl ?_
        refine di_aload_n rfl rfl ?_
        refine dr_getf rfl hc41 rfl ?_
        refine dr_iload_n rfl rfl ?_
        refine di_iald rfl hc42 ha27 (by omega) (by omega) (fun x45 x45f x45a x45b x45v => ?_)
        have x45w : cv uv25 (i17) = x45 := cv_eq x45v x45a x45b
        refine paX rfl hc42 ha27 (by omega) (by omega) trivial (by omega) (by omega) hI35 (lt_bk2 hb0) (fun us9 hu9 => T37_bkn hb0 hu9) (fun h46 us48 hI47 hk49 hc50 ha51 st52 => ?_)
        have hc53 := (hk49.2 (b0) (by omega)).trans hc41
        have hc54 := (hk49.2 (b0 + 1) (by omega)).trans hc38
        have hE55 : FrB b0 h34 h46 := FrB_of hk49 (by omega)
        have hE56 := FrB_tr hE44 hE55
        refine di_iinc (ls2 := [some (.ref b0), some (.ref b0), some (dI ((i17 + 1)))]) rfl rfl rfl rfl ?_
        refine dr_goto rfl rfl ?_
        exact ihL18 ((i17 + 1)) h46 (us36) (us48) (by omega) (by omega) (by omega) hI47 hE56 hc53 hc54 ha39 hc50 ha51 (isEq_s PU st40 x33w) (isEq_s PW st52 x45w)
  exact L18 _ (0) h8 (u0) (w0) (Nat.lt_succ_self _) (by omega) (by omega) hI10 hE16 hc12 hc13 hau0 hc14 haw0 isEq_0 isEq_0
set_option maxHeartbeats 4000000 in
set_option maxRecDepth 100000 in
/-- Earlyends$Book.countMissingIn -/
theorem f_X0_countMissingIn (l : Launch) (hl : l.stackTraces = false) {kc km : Int} {h : dm_H} (hI : Inv kc km h) {b0 : Nat} (hb0 : isBk b0) {s0 m0 : Int} {u0 w0 : List Value} (hC0 : CA b0 s0 m0 u0 w0 h) {b1 : Nat} (hb1 : isBk b1) {s1 m1 : Int} {u1 w1 : List Value} (hC1 : CA b1 s1 m1 u1 w1 h) {F : Int → Int} (hR : Rep (cv u1) (cv w1) s1 F) (hS : Srt (cv u1) s1) : dm_M l 15 2 0 0 [.ref b0, .ref b1] h (QP h (RI (fun x => 0 ≤ x ∧ x ≤ 8 ∧ x = cnt (cv u0) (fun c => decide (F c = -1)) s0.toNat)) []) := by
  obtain ⟨hq0, hu0, hw0, hau0, haw0, hs0a, hs0b, hm0a, hm0b⟩ := id hC0
  obtain ⟨hq1, hu1, hw1, hau1, haw1, hs1a, hs1b, hm1a, hm1b⟩ := id hC1
  refine dm_M_of dk_15 hl rfl (Nat.le_of_ble_eq_true rfl) ?_
  show dm_W (fun _ _ _ => True) (dm_P (QP h (RI (fun x => 0 ≤ x ∧ x ≤ 8 ∧ x = cnt (cv u0) (fun c => decide (F c = -1)) s0.toNat)) []) 0 0) l 15 2 0 0 0 [some (.ref b0), some (.ref b1), none, none] [] h 0 0
  refine di_const rfl ?_
  refine di_istore_n (ls2 := [some (.ref b0), some (.ref b1), some (dI (0)), none]) rfl rfl rfl ?_
  refine di_const rfl ?_
  refine di_istore_n (ls2 := [some (.ref b0), some (.ref b1), some (dI (0)), some (dI (0))]) rfl rfl rfl ?_
  have L3 : ∀ (n : Nat) (i1 : Int) (i2 : Int), (8 - i2).toNat < n → 0 ≤ i1 → i1 ≤ 8 → 0 ≤ i2 → i2 ≤ 8 → i1 ≤ i2 → i2 ≤ s0 → i1 = cnt (cv u0) (fun c => decide (F c = -1)) (i2).toNat → dm_W (fun _ _ _ => True) (dm_P (QP h (RI (fun x => 0 ≤ x ∧ x ≤ 8 ∧ x = cnt (cv u0) (fun c => decide (F c = -1)) s0.toNat)) []) 0 0) l 15 2 0 0 4 [some (.ref b0), some (.ref b1), some (dI (i1)), some (dI (i2))] [] h 0 0 := by
    intro n
    induction n with
    | zero => intro i1 i2 hm; exact absurd hm (Nat.not_lt_zero _)
    | succ n ih =>
      intro i1 i2 hm11 hb4 hb5 hb6 hb7 hx8 hx10 PC
      have ihL3 := ih
      clear ih
      refine dr_iload_n rfl rfl ?_
      refine di_aload_n rfl rfl ?_
      refine dr_getf rfl hq0 rfl ?_
      refine di_icmp_ge rfl rfl (by omega) (by omega) (by omega) (by omega) (fun c12 => ?_) (fun c12 => ?_)
      · skip
        refine dr_iload_n rfl rfl ?_
        exact dr_iret (ty := .int) rfl rfl rfl (by decide) (by decide) ⟨rfl, i1, ⟨by omega, by omega, by rw [show s0 = i2 by omega]; exact PC⟩, by omega, by omega, rfl⟩
      · skip
        refine di_aload_n rfl rfl ?_
        refine di_aload_n rfl rfl ?_
        refine dr_getf rfl hq0 rfl ?_
        refine dr_iload_n rfl rfl ?_
        refine di_iald rfl hu0 hau0 (by omega) (by omega) (fun x13 x13f x13a x13b x13v => ?_)
        have x13w : cv u0 (i2) = x13 := cv_eq x13v x13a x13b
        have x13g : 0 ≤ x13 ∧ x13 ≤ 9999 ∧ x13 % 100 ≤ x13 / 100 := x13f
        refine dr_virt rfl rfl rfl rfl hq1 (f_X0_rankOf l hl hI (b0 := b1) hb1 (s0 := s1) (m0 := m1) (u0 := u1) (w0 := w1) ⟨hq1, hu1, hw1, hau1, haw1, by omega, by omega, by omega, by omega⟩ (a1 := x13) (by omega) (by omega) (F := F) hR hS) (by decide) (by decide) (by decide) (Nat.le_of_ble_eq_true rfl) kNP (kIP (fun y14 y14f y14a y14b => ?_))
        have y14g : -1 ≤ y14 ∧ y14 ≤ 8 ∧ rkp F (cv u1) (s1) (x13) y14 := y14f
        clear y14f
        have y14k : -1 ≤ y14 := y14g.1
        refine di_const rfl ?_
        refine di_icmp_ne rfl rfl (by omega) (by omega) (by omega) (by omega) (fun c15 => ?_) (fun c15 => ?_)
        · skip
          refine di_iinc (ls2 := [some (.ref b0), some (.ref b1), some (dI (i1)), some (dI ((i2 + 1)))]) rfl rfl rfl rfl ?_
          refine dr_goto rfl rfl ?_
          exact ihL3 (i1) ((i2 + 1)) (by omega) (by omega) (by omega) (by omega) (by omega) (by omega) (by omega)  (cm_0 PC (by omega) x13w (rkp_y hR y14g.2.2 (by omega)))
        · skip
          refine di_iinc (ls2 := [some (.ref b0), some (.ref b1), some (dI ((i1 + 1))), some (dI (i2))]) rfl rfl rfl rfl ?_
          refine di_iinc (ls2 := [some (.ref b0), some (.ref b1), some (dI ((i1 + 1))), some (dI ((i2 + 1)))]) rfl rfl rfl rfl ?_
          refine dr_goto rfl rfl ?_
          exact ihL3 ((i1 + 1)) ((i2 + 1)) (by omega) (by omega) (by omega) (by omega) (by omega) (by omega) (by omega)  (cm_1 PC (by omega) x13w (rkp_n y14g.2.2 (by omega)))
  exact L3 _ (0) (0) (Nat.lt_succ_self _) (by omega) (by omega) (by omega) (by omega) (by omega) (by omega)  rfl
/-! ===== the state of the class, told by what it means ===== -/
/-- the books: the note of each code; the part: book, low, high; the hand: book, lost, reached, held -/
abbrev St : Type := (Int → Int → Int) × (Int × Int × Int) × (Int × Int × Int × Int × Int)
def stN (σ : St) (k : Int) (F : Int → Int) : St := (fun i => if i = k then F else σ.1 i, σ.2)
/-- one more refusal -/
def rf (σ : St) : St := (σ.1, σ.2.1, (σ.2.2.1, σ.2.2.2.1, σ.2.2.2.2.1, σ.2.2.2.2.2.1, σ.2.2.2.2.2.2 + 1))
def rRel (σ : St) (h : dm_H) : Prop := ∃ k9 : Int, h[0]? = some (8, [.ref 1, .ref 2, .ref 3, .ref 4, .ref 6, .ref 8, dI σ.2.2.2.2.2.2, dI k9])
def stM (σ : St) (k : Int) (F : Int → Int) : St := (fun i => if i = k then F else σ.1 i, σ.2.1, (σ.2.2.1, if σ.2.2.1 = k then 1 else σ.2.2.2.1, σ.2.2.2.2.1, σ.2.2.2.2.2.1, σ.2.2.2.2.2.2))
theorem CA_uq {b : Nat} {s m s' m' : Int} {u w u' w' : List Value} {h : dm_H} (a : CA b s m u w h) (c : CA b s' m' u' w' h) : s = s' ∧ m = m' ∧ u = u' ∧ w = w' := by
  obtain ⟨a1, a2, a3, -, -, a6, a7, a8, a9⟩ := a
  obtain ⟨c1, c2, c3, -, -, c6, c7, c8, c9⟩ := c
  have e1 := a1.symm.trans c1
  have e2 := a2.symm.trans c2
  have e3 := a3.symm.trans c3
  simp only [Option.some.injEq, Prod.mk.injEq, List.cons.injEq, Value.int.injEq, true_and, and_true] at e1 e2 e3
  exact ⟨(dI_eq ⟨by omega, by omega⟩ ⟨by omega, by omega⟩).mp e1.1, (dI_eq ⟨by omega, by omega⟩ ⟨by omega, by omega⟩).mp e1.2, e2, e3⟩
theorem CA_fr {b b' : Nat} {s m : Int} {u w : List Value} {h h' : dm_H} (f : FrB b h h') (d : b + 2 < b' ∨ b' + 2 < b) : CA b' s m u w h' ↔ CA b' s m u w h := by
  unfold CA
  rw [f.2 b' (by omega) (by omega) (by omega), f.2 (b' + 1) (by omega) (by omega) (by omega), f.2 (b' + 2) (by omega) (by omega) (by omega)]
def hRel (B : Int) (σ : St) (mv : Int → Int) (h : dm_H) : Prop := ∃ sn nx ho : Int, h[3]? = some (4, [dI σ.2.2.1, dI sn, dI nx, dI ho]) ∧ (-1 ≤ σ.2.2.1 ∧ σ.2.2.1 ≤ 2) ∧ (0 ≤ nx ∧ nx ≤ 8) ∧ (ho = 0 ∨ ho = 1) ∧ (0 ≤ sn ∧ sn ≤ B) ∧ (σ.2.2.2.1 = 0 ∨ σ.2.2.2.1 = 1) ∧ (-1 ≤ σ.2.2.2.2.1 ∧ σ.2.2.2.2.1 ≤ 9999) ∧ (-1 ≤ σ.2.2.2.2.2.1 ∧ σ.2.2.2.2.2.1 ≤ 9999) ∧
  (0 ≤ σ.2.2.1 → (σ.2.2.2.1 = 1 ∧ sn < mv σ.2.2.1) ∨ (σ.2.2.2.1 = 0 ∧ sn = mv σ.2.2.1 ∧ ∀ (b : Nat) (s : Int) (u w : List Value), (b : Int) = 17 + 3 * σ.2.2.1 → CA b s (mv σ.2.2.1) u w h → blw (cv u) s (σ.2.2.2.2.1 + 1) nx ∧ ((ho = 0 ∧ σ.2.2.2.2.2.1 = -1) ∨ (ho = 1 ∧ σ.2.2.2.2.2.1 = σ.2.2.2.2.1 ∧ 1 ≤ nx ∧ cv u (nx - 1) = σ.2.2.2.2.2.1))))
def bRel (B : Int) (σ : St) (mv : Int → Int) (h : dm_H) : Prop := ∀ (k : Int) (b : Nat), 0 ≤ k → k ≤ 2 → (b : Int) = 17 + 3 * k → (0 ≤ mv k ∧ mv k ≤ B) ∧ ∃ (s : Int) (u w : List Value), CA b s (mv k) u w h ∧ Rep (cv u) (cv w) s (σ.1 k) ∧ Srt (cv u) s
def pRel (σ : St) (h : dm_H) : Prop := h[2]? = some (6, [dI σ.2.1.1, dI σ.2.1.2.1, dI σ.2.1.2.2]) ∧ (-1 ≤ σ.2.1.1 ∧ σ.2.1.1 ≤ 2) ∧ (-1 ≤ σ.2.1.2.1 ∧ σ.2.1.2.1 ≤ 99) ∧ (-1 ≤ σ.2.1.2.2 ∧ σ.2.1.2.2 ≤ 99) ∧ (0 ≤ σ.2.1.2.1 → 0 ≤ σ.2.1.2.2 → σ.2.1.2.1 ≤ σ.2.1.2.2)
def CSt (B : Int) (σ : St) (h : dm_H) : Prop := ((∃ mv : Int → Int, bRel B σ mv h ∧ hRel B σ mv h) ∧ rRel σ h) ∧ pRel σ h
theorem CSt_up {B B' : Int} {σ : St} {h : dm_H} (hS : CSt B σ h) (hB : B ≤ B') : CSt B' σ h := by
  obtain ⟨⟨⟨mv, hb, sn, nx, ho, q1, q2, q3, q4, q5, q6⟩, hz⟩, hp⟩ := hS
  refine ⟨⟨⟨mv, fun k b k0 k1 kb => ?_, sn, nx, ho, q1, q2, q3, q4, ⟨q5.1, by omega⟩, q6⟩, hz⟩, hp⟩
  obtain ⟨x, y⟩ := hb k b k0 k1 kb
  exact ⟨⟨x.1, by omega⟩, y⟩
theorem CSt_bk {B : Int} {σ : St} {h : dm_H} (hS : CSt B σ h) {k : Int} {b : Nat} (k0 : 0 ≤ k) (k1 : k ≤ 2) (kb : (b : Int) = 17 + 3 * k) : ∃ (s m : Int) (u w : List Value), CA b s m u w h ∧ Rep (cv u) (cv w) s (σ.1 k) ∧ Srt (cv u) s ∧ 0 ≤ m ∧ m ≤ B := by
  obtain ⟨⟨⟨mv, hb, -⟩, -⟩, -⟩ := hS
  obtain ⟨x, s, u, w, y1, y2, y3⟩ := hb k b k0 k1 kb
  exact ⟨s, mv k, u, w, y1, y2, y3, x.1, x.2⟩
theorem CSt_same {B : Int} {σ : St} {h h' : dm_H} (hS : CSt B σ h) (hk : ∀ j : Nat, 0 ≤ j → j ≤ 3 ∨ 17 ≤ j → j ≤ 25 → h'[j]? = h[j]?) : CSt B σ h' := by
  obtain ⟨⟨⟨mv, hb, sn, nx, ho, q1, q2, q3, q4, q5, q6, q7, q8, q9⟩, ⟨k9, hz⟩⟩, hp⟩ := hS
  have hc : ∀ (k : Int) (b : Nat) (s m : Int) (u w : List Value), 0 ≤ k → k ≤ 2 → (b : Int) = 17 + 3 * k → (CA b s m u w h' ↔ CA b s m u w h) := fun k b s m u w k0 k1 kb => by
    unfold CA
    rw [hk b (by omega) (by omega) (by omega), hk (b + 1) (by omega) (by omega) (by omega), hk (b + 2) (by omega) (by omega) (by omega)]
  refine ⟨⟨⟨mv, fun k b k0 k1 kb => ?_, sn, nx, ho, (hk 3 (by omega) (by omega) (by omega)).trans q1, q2, q3, q4, q5, q6, q7, q8, fun g0 => ?_⟩, ⟨k9, (hk 0 (by omega) (by omega) (by omega)).trans hz⟩⟩, (hk 2 (by omega) (by omega) (by omega)).trans hp.1, hp.2⟩
  · obtain ⟨x, s, u, w, y1, y2, y3⟩ := hb k b k0 k1 kb
    exact ⟨x, s, u, w, (hc k b _ _ _ _ k0 k1 kb).mpr y1, y2, y3⟩
  · rcases q9 g0 with q | ⟨x, y, z⟩
    · exact Or.inl q
    · exact Or.inr ⟨x, y, fun b s u w kb hCA => z b s u w kb ((hc _ b _ _ _ _ g0 q2.2 kb).mp hCA)⟩
/-- a note is changed -/
theorem CSt_N {B : Int} {σ : St} {h h' : dm_H} (hS : CSt B σ h) {k : Int} {b : Nat} (k0 : 0 ≤ k) (k1 : k ≤ 2) (kb : (b : Int) = 17 + 3 * k) {s m : Int} {u w w' : List Value} {F : Int → Int} (hc : CA b s m u w h) (hF : FrB b h h') (hc' : CA b s m u w' h') (hR : Rep (cv u) (cv w') s F) : CSt B (stN σ k F) h' := by
  obtain ⟨⟨⟨mv, hb, sn, nx, ho, q1, q2, q3, q4, q5, q6, q7, q8, q9⟩, ⟨k9, hz⟩⟩, hp⟩ := hS
  have hother : ∀ (k' : Int) (b' : Nat), 0 ≤ k' → k' ≤ 2 → (b' : Int) = 17 + 3 * k' → k' ≠ k → b + 2 < b' ∨ b' + 2 < b := fun k' b' a0 a1 ab ne => by omega
  have hsame : ∀ (k' : Int) (b' : Nat), (b' : Int) = 17 + 3 * k' → k' = k → b' = b := fun k' b' ab e => by omega
  refine ⟨⟨⟨mv, fun k' b' a0 a1 ab => ?_, sn, nx, ho, (hF.2 3 (by omega) (by omega) (by omega)).trans q1, q2, q3, q4, q5, q6, q7, q8, fun g0 => ?_⟩, ⟨k9, (hF.2 0 (by omega) (by omega) (by omega)).trans hz⟩⟩, (hF.2 2 (by omega) (by omega) (by omega)).trans hp.1, hp.2⟩
  · obtain ⟨x, s9, u9, w9, y1, y2, y3⟩ := hb k' b' a0 a1 ab
    refine ⟨x, ?_⟩
    by_cases e : k' = k
    · have e2 := hsame k' b' ab e
      subst e2
      obtain ⟨e3, e4, e5, e6⟩ := CA_uq y1 hc
      subst e3; subst e5; subst e6
      refine ⟨_, _, w', by rw [e4]; exact hc', ?_, y3⟩
      show Rep _ _ _ (if k' = k then F else σ.1 k')
      rw [if_pos e]; exact hR
    · refine ⟨s9, u9, w9, (CA_fr hF (hother k' b' a0 a1 ab e)).mpr y1, ?_, y3⟩
      show Rep _ _ _ (if k' = k then F else σ.1 k')
      rw [if_neg e]; exact y2
  · rcases q9 g0 with q | ⟨x, y, z⟩
    · exact Or.inl q
    · refine Or.inr ⟨x, y, fun b' s9 u9 w9 ab hCA => ?_⟩
      by_cases e : σ.2.2.1 = k
      · have e2 := hsame σ.2.2.1 b' ab e
        subst e2
        obtain ⟨e3, e4, e5, e6⟩ := CA_uq hCA hc'
        subst e3; subst e5
        exact z b' s9 u9 w ab (by have := hc; rw [← e4] at this; exact this)
      · exact z b' s9 u9 w9 ab ((CA_fr hF (hother σ.2.2.1 b' g0 q2.2 ab e)).mp hCA)
/-- spans come or go -/
theorem CSt_M {B B' : Int} {σ : St} {h h' : dm_H} (hS : CSt B σ h) (hBB : B ≤ B') {k : Int} {b : Nat} (k0 : 0 ≤ k) (k1 : k ≤ 2) (kb : (b : Int) = 17 + 3 * k) {s m s' m' : Int} {u w u' w' : List Value} {F : Int → Int} (hc : CA b s m u w h) (hF : FrB b h h') (hc' : CA b s' m' u' w' h') (hm : m < m') (hmB : m' ≤ B') (hR : Rep (cv u') (cv w') s' F) (hT : Srt (cv u') s') : CSt B' (stM σ k F) h' := by
  obtain ⟨⟨⟨mv, hb, sn, nx, ho, q1, q2, q3, q4, q5, q6, q7, q8, q9⟩, ⟨k9, hz⟩⟩, hp⟩ := hS
  have hother : ∀ (k' : Int) (b' : Nat), 0 ≤ k' → k' ≤ 2 → (b' : Int) = 17 + 3 * k' → k' ≠ k → b + 2 < b' ∨ b' + 2 < b := fun k' b' a0 a1 ab ne => by omega
  have hsame : ∀ (k' : Int) (b' : Nat), (b' : Int) = 17 + 3 * k' → k' = k → b' = b := fun k' b' ab e => by omega
  have hmv : mv k = m := by
    obtain ⟨-, s9, u9, w9, y1, -⟩ := hb k b k0 k1 kb
    exact (CA_uq y1 hc).2.1
  have hmp : 0 ≤ m := by
    obtain ⟨x, -⟩ := hb k b k0 k1 kb
    omega
  refine ⟨⟨⟨fun i => if i = k then m' else mv i, fun k' b' a0 a1 ab => ?_, sn, nx, ho, (hF.2 3 (by omega) (by omega) (by omega)).trans q1, q2, q3, q4, ⟨q5.1, by omega⟩, ?_, q7, q8, fun g0 => ?_⟩, ⟨k9, (hF.2 0 (by omega) (by omega) (by omega)).trans hz⟩⟩, (hF.2 2 (by omega) (by omega) (by omega)).trans hp.1, hp.2⟩
  · obtain ⟨x, s9, u9, w9, y1, y2, y3⟩ := hb k' b' a0 a1 ab
    by_cases e : k' = k
    · have e2 := hsame k' b' ab e
      subst e2
      show (0 ≤ (if k' = k then m' else mv k') ∧ (if k' = k then m' else mv k') ≤ B') ∧ ∃ (s : Int) (u w : List Value), CA b' s (if k' = k then m' else mv k') u w h' ∧ Rep (cv u) (cv w) s (if k' = k then F else σ.1 k') ∧ Srt (cv u) s
      rw [if_pos e, if_pos e]
      exact ⟨⟨by omega, hmB⟩, s', u', w', hc', hR, hT⟩
    · show (0 ≤ (if k' = k then m' else mv k') ∧ (if k' = k then m' else mv k') ≤ B') ∧ ∃ (s : Int) (u w : List Value), CA b' s (if k' = k then m' else mv k') u w h' ∧ Rep (cv u) (cv w) s (if k' = k then F else σ.1 k') ∧ Srt (cv u) s
      rw [if_neg e, if_neg e]
      exact ⟨⟨x.1, by omega⟩, s9, u9, w9, (CA_fr hF (hother k' b' a0 a1 ab e)).mpr y1, y2, y3⟩
  · show (if σ.2.2.1 = k then (1 : Int) else σ.2.2.2.1) = 0 ∨ (if σ.2.2.1 = k then (1 : Int) else σ.2.2.2.1) = 1
    by_cases e : σ.2.2.1 = k
    · rw [if_pos e]; exact Or.inr rfl
    · rw [if_neg e]; exact q6
  · show ((if σ.2.2.1 = k then (1 : Int) else σ.2.2.2.1) = 1 ∧ sn < (if σ.2.2.1 = k then m' else mv σ.2.2.1)) ∨ ((if σ.2.2.1 = k then (1 : Int) else σ.2.2.2.1) = 0 ∧ sn = (if σ.2.2.1 = k then m' else mv σ.2.2.1) ∧ ∀ (b : Nat) (s : Int) (u w : List Value), (b : Int) = 17 + 3 * σ.2.2.1 → CA b s (if σ.2.2.1 = k then m' else mv σ.2.2.1) u w h' → blw (cv u) s (σ.2.2.2.2.1 + 1) nx ∧ ((ho = 0 ∧ σ.2.2.2.2.2.1 = -1) ∨ (ho = 1 ∧ σ.2.2.2.2.2.1 = σ.2.2.2.2.1 ∧ 1 ≤ nx ∧ cv u (nx - 1) = σ.2.2.2.2.2.1)))
    by_cases e : σ.2.2.1 = k
    · rw [if_pos e, if_pos e]
      refine Or.inl ⟨rfl, ?_⟩
      have := q9 g0
      rw [e, hmv] at this
      rcases this with q | q <;> omega
    · rw [if_neg e, if_neg e]
      rcases q9 g0 with q | ⟨x, y, z⟩
      · exact Or.inl q
      · exact Or.inr ⟨x, y, fun b' s9 u9 w9 ab hCA => z b' s9 u9 w9 ab ((CA_fr hF (hother σ.2.2.1 b' g0 q2.2 ab e)).mp hCA)⟩
/-! ===== what each call does to the state: the answer's kind (0: it answers; 1, 2: which refusal), the answer, the state ===== -/
def inP (lo hi c : Int) : Bool := decide ((lo = -1 ∨ lo ≤ c / 100) ∧ (hi = -1 ∨ c / 100 ≤ hi))
noncomputable def sPut (σ : St) (k c x : Int) : Int × St := if σ.1 k c ≠ -1 then (σ.1 k c, stN σ k (up (σ.1 k) c x)) else if zF (σ.1 k) < 8 then (-1, stM σ k (up (σ.1 k) c x)) else (-9, rf σ)
noncomputable def sMore (σ : St) (k c x : Int) : Int × St := if σ.1 k c ≠ -1 then ((σ.1 k c + x) % 100, stN σ k (up (σ.1 k) c ((σ.1 k c + x) % 100))) else if zF (σ.1 k) < 8 then (x, stM σ k (up (σ.1 k) c x)) else (-9, rf σ)
def sTake (σ : St) (k c : Int) : Int × St := if σ.1 k c ≠ -1 then (σ.1 k c, stM σ k (up (σ.1 k) c (-1))) else (-1, σ)
noncomputable def sDraw (σ : St) (k : Int) (P : Int → Bool) (z : Int) : Int × St := if z = 1 then (if grt (σ.1 k) P = -1 then (-1, σ) else (grt (σ.1 k) P, stM σ k (up (σ.1 k) (grt (σ.1 k) P) (-1)))) else (if lst (σ.1 k) P = -1 then (-1, σ) else (lst (σ.1 k) P, stM σ k (up (σ.1 k) (lst (σ.1 k) P) (-1))))
/-- many go at once, or none -/
noncomputable def sWipe (σ : St) (k : Int) (F : Int → Int) (n : Int) : Int × St := if n = 0 then (0, σ) else (n, stM σ k F)
def s0 (r : Int × St) : Int × Int × St := (0, r.1, r.2)
noncomputable def spPut (σ : St) (b f t x : Int) : Int × Int × St := if b < 0 ∨ 2 < b then (1, 0, σ) else if (f < 0 ∨ t < f ∨ 99 < t) ∨ (x < 0 ∨ 99 < x) then (2, 0, σ) else s0 (sPut σ b (100 * t + f) x)
noncomputable def spAdd (σ : St) (b f t x : Int) : Int × Int × St := if b < 0 ∨ 2 < b then (1, 0, σ) else if (f < 0 ∨ t < f ∨ 99 < t) ∨ (x < 0 ∨ 99 < x) then (2, 0, σ) else if σ.1 b (100 * t + f) ≠ -1 then (0, σ.1 b (100 * t + f), σ) else s0 (sPut σ b (100 * t + f) x)
noncomputable def spMore (σ : St) (b f t x : Int) : Int × Int × St := if b < 0 ∨ 2 < b then (1, 0, σ) else if (f < 0 ∨ t < f ∨ 99 < t) ∨ (x < 0 ∨ 99 < x) then (2, 0, σ) else s0 (sMore σ b (100 * t + f) x)
noncomputable def spChange (σ : St) (b f t x : Int) : Int × Int × St := if b < 0 ∨ 2 < b then (1, 0, σ) else if (f < 0 ∨ t < f ∨ 99 < t) ∨ (x < 0 ∨ 99 < x) then (2, 0, σ) else if σ.1 b (100 * t + f) ≠ -1 then (0, σ.1 b (100 * t + f), stN σ b (up (σ.1 b) (100 * t + f) x)) else (0, -1, σ)
noncomputable def spChangeIf (σ : St) (b f t o x : Int) : Int × Int × St := if b < 0 ∨ 2 < b then (1, 0, σ) else if (f < 0 ∨ t < f ∨ 99 < t) ∨ (o < 0 ∨ 99 < o) ∨ (x < 0 ∨ 99 < x) then (2, 0, σ) else if σ.1 b (100 * t + f) = o then (0, 1, stN σ b (up (σ.1 b) (100 * t + f) x)) else (0, 0, σ)
noncomputable def spTake (σ : St) (b f t : Int) : Int × Int × St := if b < 0 ∨ 2 < b then (1, 0, σ) else if f < 0 ∨ t < f ∨ 99 < t then (2, 0, σ) else s0 (sTake σ b (100 * t + f))
noncomputable def spTakeIf (σ : St) (b f t x : Int) : Int × Int × St := if b < 0 ∨ 2 < b then (1, 0, σ) else if (f < 0 ∨ t < f ∨ 99 < t) ∨ (x < 0 ∨ 99 < x) then (2, 0, σ) else if σ.1 b (100 * t + f) = x then (0, 1, stM σ b (up (σ.1 b) (100 * t + f) (-1))) else (0, 0, σ)
noncomputable def spTakeNote (σ : St) (b x : Int) : Int × Int × St := if b < 0 ∨ 2 < b then (1, 0, σ) else if x < 0 ∨ 99 < x then (2, 0, σ) else if lst (σ.1 b) (fun c => decide (σ.1 b c = x)) = -1 then (0, 0, σ) else (0, 1, stM σ b (up (σ.1 b) (lst (σ.1 b) (fun c => decide (σ.1 b c = x))) (-1)))
noncomputable def spDraw (σ : St) (b z : Int) : Int × Int × St := if b < 0 ∨ 2 < b then (1, 0, σ) else s0 (sDraw σ b (fun _ => true) z)
noncomputable def spClear (σ : St) (b : Int) : Int × Int × St := if b < 0 ∨ 2 < b then (1, 0, σ) else s0 (sWipe σ b (fun _ => -1) (zF (σ.1 b)))
def mrg (G F : Int → Int) : Int → Int := fun c => if G c ≠ -1 then G c else F c
noncomputable def sPour (σ : St) (b o : Int) (n : Int) : Int × St := if 8 < zF (σ.1 b) + n then (-9, rf σ) else if n = 0 then (0, stN σ b (mrg (σ.1 o) (σ.1 b))) else (n, stM σ b (mrg (σ.1 o) (σ.1 b)))
noncomputable def spPour (σ : St) (b o : Int) : Int × Int × St := if (b < 0 ∨ 2 < b) ∨ (o < 0 ∨ 2 < o) then (1, 0, σ) else s0 (sPour σ b o (nF (σ.1 o) (fun c => decide (σ.1 b c = -1))))
def stP (σ : St) (p lo hi : Int) : St := (σ.1, (p, lo, hi), σ.2.2)
def stH (σ : St) (b lost re he : Int) : St := (σ.1, σ.2.1, (b, lost, re, he, σ.2.2.2.2.2.2))
noncomputable def spCopy (σ : St) (b o : Int) : Int × Int × St := if (b < 0 ∨ 2 < b) ∨ (o < 0 ∨ 2 < o) then (1, 0, σ) else (0, zF (σ.1 o), stP (stM σ b (σ.1 o)) (if σ.2.1.1 = b then -1 else σ.2.1.1) σ.2.1.2.1 σ.2.1.2.2)
def sif (G F : Int → Int) (z : Int) : Int → Int := fun c => if (decide (G c ≠ -1)) = decide (z = 1) then F c else -1
noncomputable def spSift (σ : St) (b o z : Int) : Int × Int × St := if (b < 0 ∨ 2 < b) ∨ (o < 0 ∨ 2 < o) then (1, 0, σ) else if b = o then (2, 0, σ) else s0 (sWipe σ b (sif (σ.1 o) (σ.1 b) z) (zF (σ.1 b) - zF (sif (σ.1 o) (σ.1 b) z)))
noncomputable def nP (σ : St) : Int := nF (σ.1 σ.2.1.1) (inP σ.2.1.2.1 σ.2.1.2.2)
noncomputable def spPart (σ : St) (b lo hi : Int) : Int × Int × St := if b < 0 ∨ 2 < b then (1, 0, σ) else if (lo < -1 ∨ 99 < lo) ∨ (hi < -1 ∨ 99 < hi) ∨ (0 ≤ lo ∧ 0 ≤ hi ∧ hi < lo) then (2, 0, σ) else (0, nP (stP σ b lo hi), stP σ b lo hi)
noncomputable def spNarrow (σ : St) (lo hi : Int) : Int × Int × St := if lo < 0 ∨ hi < lo ∨ 99 < hi then (1, 0, σ) else if σ.2.1.1 = -1 then (2, 0, σ) else if (σ.2.1.2.1 = -1 ∨ σ.2.1.2.1 ≤ lo) ∧ (σ.2.1.2.2 = -1 ∨ hi ≤ σ.2.1.2.2) then (0, nP (stP σ σ.2.1.1 lo hi), stP σ σ.2.1.1 lo hi) else (0, -9, rf σ)
noncomputable def spPartPut (σ : St) (f t x : Int) : Int × Int × St := if (f < 0 ∨ t < f ∨ 99 < t) ∨ (x < 0 ∨ 99 < x) then (1, 0, σ) else if σ.2.1.1 = -1 then (2, 0, σ) else if (σ.2.1.2.1 = -1 ∨ σ.2.1.2.1 ≤ t) ∧ (σ.2.1.2.2 = -1 ∨ t ≤ σ.2.1.2.2) then s0 (sPut σ σ.2.1.1 (100 * t + f) x) else (0, -9, rf σ)
noncomputable def spPartTake (σ : St) (f t : Int) : Int × Int × St := if f < 0 ∨ t < f ∨ 99 < t then (1, 0, σ) else if σ.2.1.1 = -1 then (2, 0, σ) else if (σ.2.1.2.1 = -1 ∨ σ.2.1.2.1 ≤ t) ∧ (σ.2.1.2.2 = -1 ∨ t ≤ σ.2.1.2.2) then s0 (sTake σ σ.2.1.1 (100 * t + f)) else (0, -1, σ)
noncomputable def spPartDraw (σ : St) (z : Int) : Int × Int × St := if σ.2.1.1 = -1 then (1, 0, σ) else s0 (sDraw σ σ.2.1.1 (inP σ.2.1.2.1 σ.2.1.2.2) z)
noncomputable def spPartClear (σ : St) : Int × Int × St := if σ.2.1.1 = -1 then (1, 0, σ) else s0 (sWipe σ σ.2.1.1 (fun c => if inP σ.2.1.2.1 σ.2.1.2.2 c = true then -1 else σ.1 σ.2.1.1 c) (nP σ))
noncomputable def spHand (σ : St) (b : Int) : Int × Int × St := if b < 0 ∨ 2 < b then (1, 0, σ) else (0, zF (σ.1 b), stH σ b 0 (-1) (-1))
noncomputable def sNext (σ : St) : Int := lst (σ.1 σ.2.2.1) (fun c => decide (σ.2.2.2.2.1 < c))
noncomputable def spNext (σ : St) : Int × Int × St := if σ.2.2.1 = -1 then (1, 0, σ) else if σ.2.2.2.1 = 1 then (0, -9, rf σ) else if sNext σ = -1 then (0, -1, σ) else (0, sNext σ, stH σ σ.2.2.1 σ.2.2.2.1 (sNext σ) (sNext σ))
noncomputable def spRenote (σ : St) (x : Int) : Int × Int × St := if x < 0 ∨ 99 < x then (1, 0, σ) else if σ.2.2.1 = -1 then (2, 0, σ) else if σ.2.2.2.1 = 1 ∨ σ.2.2.2.2.2.1 = -1 then (0, -9, rf σ) else (0, σ.1 σ.2.2.1 σ.2.2.2.2.2.1, stN σ σ.2.2.1 (up (σ.1 σ.2.2.1) σ.2.2.2.2.2.1 x))
noncomputable def spTakeOut (σ : St) : Int × Int × St := if σ.2.2.1 = -1 then (1, 0, σ) else if σ.2.2.2.1 = 1 ∨ σ.2.2.2.2.2.1 = -1 then (0, -9, rf σ) else (0, zF (up (σ.1 σ.2.2.1) σ.2.2.2.2.2.1 (-1)), stH (stM σ σ.2.2.1 (up (σ.1 σ.2.2.1) σ.2.2.2.2.2.1 (-1))) σ.2.2.1 0 σ.2.2.2.2.1 (-1))
/-! contracts over the class's state -/
def FrC (h h1 : dm_H) : Prop := h1.length = h.length ∧ ∀ j : Nat, 26 ≤ j → h1[j]? = h[j]?
theorem FrC_rf {h : dm_H} : FrC h h := ⟨rfl, fun _ _ => rfl⟩
theorem FrC_tr {h h1 h2 : dm_H} (a : FrC h h1) (c : FrC h1 h2) : FrC h h2 := ⟨c.1.trans a.1, fun j x => (c.2 j x).trans (a.2 j x)⟩
theorem FrC_B {b : Nat} {h h1 : dm_H} (a : FrB b h h1) (hb : isBk b) : FrC h h1 := ⟨a.1, fun j x => by
  rcases hb with rfl | rfl | rfl <;> exact a.2 j (by omega) (by omega) (by omega)⟩
theorem FrC_I {i : Nat} {h h1 : dm_H} (a : FrI i h h1) (hi : i < 26) : FrC h h1 := ⟨a.1, fun j x => a.2 j (by omega)⟩
def QPX (h : dm_H) (R : Option Value → Prop) (X : String) (C : Prop) : dm_Rs := fun r h' => h' = h ∧ match r with
  | .inl v => R v
  | .inr e => e = X ∧ C
def QC (kc km : Int) (h : dm_H) (B a : Int) (σ : St) : dm_Rs := fun r h' => Inv kc km h' ∧ FrC h h' ∧ CSt B σ h' ∧ r = .inl (some (dI a))
def QCV (kc km : Int) (h : dm_H) (B : Int) (σ : St) : dm_Rs := fun r h' => Inv kc km h' ∧ FrC h h' ∧ CSt B σ h' ∧ r = .inl none
def QX (kc km : Int) (h : dm_H) (B : Int) (X1 X2 : String) (q : Int × Int × St) : dm_Rs := fun r h' => Inv kc km h' ∧ FrC h h' ∧ CSt B q.2.2 h' ∧ ((q.1 = 0 ∧ r = .inl (some (dI q.2.1))) ∨ (q.1 = 1 ∧ r = .inr X1) ∨ (q.1 = 2 ∧ r = .inr X2))
section QCR
variable {E : dm_Ex} {P : dm_Po} {l : Launch} {z d MC MS pc ce sl : Nat} {ls : List (Option Value)} {st : List Value} {h h' : dm_H} {kc km B B' a : Int} {σ : St} {X1 X2 : String} {q : Int × Int × St}
theorem QX_ok (hI : Inv kc km h') (hF : FrC h h') (hS : CSt B σ h') (hB : B ≤ B') (e : q = (0, a, σ)) : QX kc km h B' X1 X2 q (.inl (some (dI a))) h' := by
  subst e; exact ⟨hI, hF, CSt_up hS hB, Or.inl ⟨rfl, rfl⟩⟩
theorem QX_1 (hI : Inv kc km h') (hF : FrC h h') (hS : CSt B σ h') (hB : B ≤ B') (e : q = (1, a, σ)) : QX kc km h B' X1 X2 q (.inr X1) h' := by
  subst e; exact ⟨hI, hF, CSt_up hS hB, Or.inr (Or.inl ⟨rfl, rfl⟩)⟩
theorem QX_2 (hI : Inv kc km h') (hF : FrC h h') (hS : CSt B σ h') (hB : B ≤ B') (e : q = (2, a, σ)) : QX kc km h B' X1 X2 q (.inr X2) h' := by
  subst e; exact ⟨hI, hF, CSt_up hS hB, Or.inr (Or.inr ⟨rfl, rfl⟩)⟩
theorem kQC (kk : ∀ h1 : dm_H, Inv kc km h1 → FrC h h1 → CSt B σ h1 → dm_W E P l z d MC MS pc ls (dI a :: st) h1 ce sl) : ∀ (v : Option Value) (h1 : dm_H), QC kc km h B a σ (.inl v) h1 → dm_W E P l z d MC MS pc ls (v.toList ++ st) h1 ce sl := by
  rintro v h1 ⟨x, y, z, e⟩
  cases e
  exact kk h1 x y z
theorem kQCV (kk : ∀ h1 : dm_H, Inv kc km h1 → FrC h h1 → CSt B σ h1 → dm_W E P l z d MC MS pc ls st h1 ce sl) : ∀ (v : Option Value) (h1 : dm_H), QCV kc km h B σ (.inl v) h1 → dm_W E P l z d MC MS pc ls (v.toList ++ st) h1 ce sl := by
  rintro v h1 ⟨x, y, z, e⟩
  cases e
  exact kk h1 x y z
theorem kQCN : ∀ (Y : String) (h1 : dm_H), QC kc km h B a σ (.inr Y) h1 → dm_T9 E P l z d MC MS Y pc ls h1 ce sl := fun _ _ q => by cases q.2.2.2
theorem kQCVN : ∀ (Y : String) (h1 : dm_H), QCV kc km h B σ (.inr Y) h1 → dm_T9 E P l z d MC MS Y pc ls h1 ce sl := fun _ _ q => by cases q.2.2.2
theorem kPXV {C R : Prop} {X : String} (kk : R → dm_W E P l z d MC MS pc ls st h ce sl) : ∀ (v : Option Value) (h1 : dm_H), QPX h (fun v => v = none ∧ R) X C (.inl v) h1 → dm_W E P l z d MC MS pc ls (v.toList ++ st) h1 ce sl := by
  rintro v h1 ⟨rfl, rfl, r⟩
  exact kk r
theorem kPXI {C : Prop} {R : Int → Prop} {X : String} (kk : ∀ x : Int, R x → dm_W E P l z d MC MS pc ls (dI x :: st) h ce sl) : ∀ (v : Option Value) (h1 : dm_H), QPX h (fun v => ∃ x : Int, v = some (dI x) ∧ R x) X C (.inl v) h1 → dm_W E P l z d MC MS pc ls (v.toList ++ st) h1 ce sl := by
  rintro v h1 ⟨rfl, x, rfl, r⟩
  exact kk x r
theorem kPXR {C : Prop} {R : Nat → Prop} {X : String} (kk : ∀ x : Nat, R x → dm_W E P l z d MC MS pc ls (.ref x :: st) h ce sl) : ∀ (v : Option Value) (h1 : dm_H), QPX h (fun v => ∃ x : Nat, v = some (.ref x) ∧ R x) X C (.inl v) h1 → dm_W E P l z d MC MS pc ls (v.toList ++ st) h1 ce sl := by
  rintro v h1 ⟨rfl, x, rfl, r⟩
  exact kk x r
end QCR
/-! the books' steps over the state -/
section CB
variable {l : Launch} {kc km B : Int} {h : dm_H} {σ : St} {k : Int} {b : Nat} {s m : Int} {u w : List Value}
theorem Rep_nt {f g F : Int → Int} {s : Int} {w w' : List Value} {r x : Int} (hR : Rep f (cv w) s F) (h0 : 0 ≤ r) (h1 : r < s) (x0 : 0 ≤ x) (x1 : x ≤ 99) (hs : stt w w' r x) : Rep f (cv w') s (up F (f r) x) :=
  Rep_cg (Rep_note hR h0 h1 x0 x1) (fun _ _ _ => rfl) (fun j j0 _ => hs j j0)
theorem c_swap (hl : l.stackTraces = false) (hI : Inv kc km h) (hS : CSt B σ h) (k0 : 0 ≤ k) (k1 : k ≤ 2) (kb : (b : Int) = 17 + 3 * k) (hb : isBk b) (hc : CA b s m u w h) (hR : Rep (cv u) (cv w) s (σ.1 k)) {r c x : Int} (r0 : 0 ≤ r) (r1 : r < s) (e : cv u r = c) (x0 : 0 ≤ x) (x1 : x ≤ 99) : dm_M l 10 0 0 0 [.ref b, dI r, dI x] h (QC kc km h B (σ.1 k c) (stN σ k (up (σ.1 k) c x))) := by
  have hs8 := hc.2.2.2.2.2.2.1
  refine dm_M_imp (f_X0_swapNote l hl hI hb hc (a1 := r) (by omega) (by omega) (a2 := x) (by omega) (by omega)) (fun q h' hq => ?_)
  obtain ⟨a1, a2, a3⟩ := hq
  cases q with
  | inr e9 => exact a3.elim
  | inl v =>
    obtain ⟨s', m', u', w', a4, a5, a6, a7, a8⟩ := a3
    subst a5; subst a6; subst a7
    rcases a8 with ⟨-, -, a9, a10⟩ | ⟨a9, -⟩
    · have hy := Rep_yes hR r0 r1 e
      refine ⟨a1, FrC_B a2 hb, ?_, by rw [a10, hy.1]⟩
      have := Rep_nt (g := cv w) hR r0 r1 x0 x1 a9
      rw [e] at this
      exact CSt_N hS k0 k1 kb hc a2 a4 this
    · omega
theorem c_swap_no (hl : l.stackTraces = false) (hI : Inv kc km h) (hS : CSt B σ h) (k0 : 0 ≤ k) (k1 : k ≤ 2) (kb : (b : Int) = 17 + 3 * k) (hb : isBk b) (hc : CA b s m u w h) (hR : Rep (cv u) (cv w) s (σ.1 k)) {x : Int} (x0 : 0 ≤ x) (x1 : x ≤ 99) : dm_M l 10 0 0 0 [.ref b, dI (-1), dI x] h (QC kc km h B (-1) σ) := by
  refine dm_M_imp (f_X0_swapNote l hl hI hb hc (a1 := -1) (by omega) (by omega) (a2 := x) (by omega) (by omega)) (fun q h' hq => ?_)
  obtain ⟨a1, a2, a3⟩ := hq
  cases q with
  | inr e9 => exact a3.elim
  | inl v =>
    obtain ⟨s', m', u', w', a4, a5, a6, a7, a8⟩ := a3
    subst a5; subst a6; subst a7
    rcases a8 with ⟨a9, -⟩ | ⟨-, a9, a10⟩
    · omega
    · subst a9
      have e1 := CSt_N hS k0 k1 kb hc a2 a4 hR
      have e2 : stN σ k (σ.1 k) = σ := by
        unfold stN
        have : (fun i => if i = k then σ.1 k else σ.1 i) = σ.1 := funext fun i => by
          by_cases q : i = k
          · rw [if_pos q, q]
          · rw [if_neg q]
        rw [this]
      rw [e2] at e1
      exact ⟨a1, FrC_B a2 hb, e1, by rw [a10]⟩
theorem c_ins (hl : l.stackTraces = false) (hI : Inv kc km h) (hS : CSt B σ h) (hB : B ≤ 100000) (k0 : 0 ≤ k) (k1 : k ≤ 2) (kb : (b : Int) = 17 + 3 * k) (hb : isBk b) (hc : CA b s m u w h) (hR : Rep (cv u) (cv w) s (σ.1 k)) (hT : Srt (cv u) s) (hm : m ≤ B) {c x : Int} (hs : s ≤ 7) (hF : σ.1 k c = -1) (c0 : 0 ≤ c) (c1 : c ≤ 9999) (c2 : c % 100 ≤ c / 100) (x0 : 0 ≤ x) (x1 : x ≤ 99) : dm_M l 11 1 0 0 [.ref b, dI c, dI x] h (QCV kc km h (B + 1) (stM σ k (up (σ.1 k) c x))) := by
  refine dm_M_imp (f_X0_insert l hl hI hb hc (a1 := c) (by omega) (by omega) (a2 := x) (by omega) (by omega) c2 hs (by omega)) (fun q h' hq => ?_)
  obtain ⟨a1, a2, a3⟩ := hq
  cases q with
  | inr e9 => exact a3.elim
  | inl v =>
    obtain ⟨s', m', u', w', a4, r, a5, a6, a7, a8, a9, a10⟩ := a3
    subst a6; subst a7
    refine ⟨a1, FrC_B a2 hb, ?_, by rw [a10]⟩
    refine CSt_M hS (by omega) k0 k1 kb hc a2 a4 (by omega) (by omega) (Rep_cg (Rep_ins hR a5.1 a5.2.1 hF c0 c1 x0 x1) a8 a9) (Srt_cg (Srt_ins hT hR a5 hF) a8)
theorem c_rem (hl : l.stackTraces = false) (hI : Inv kc km h) (hS : CSt B σ h) (hB : B ≤ 100000) (k0 : 0 ≤ k) (k1 : k ≤ 2) (kb : (b : Int) = 17 + 3 * k) (hb : isBk b) (hc : CA b s m u w h) (hR : Rep (cv u) (cv w) s (σ.1 k)) (hT : Srt (cv u) s) (hm : m ≤ B) {r c : Int} (r0 : 0 ≤ r) (r1 : r < s) (e : cv u r = c) : dm_M l 12 0 0 0 [.ref b, dI r] h (QCV kc km h (B + 1) (stM σ k (up (σ.1 k) c (-1)))) := by
  have hs8 := hc.2.2.2.2.2.2.1
  refine dm_M_imp (f_X0_removeAt l hl hI hb hc (a1 := r) (by omega) (by omega) (by omega)) (fun q h' hq => ?_)
  obtain ⟨a1, a2, a3⟩ := hq
  cases q with
  | inr e9 => exact a3.elim
  | inl v =>
    obtain ⟨s', m', u', w', a4, a5, a10⟩ := a3
    rcases a5 with ⟨-, -, a6, a7, a8, a9⟩ | ⟨a6, -⟩
    · subst a6; subst a7
      refine ⟨a1, FrC_B a2 hb, ?_, by rw [a10]⟩
      have hd := Rep_del hR r0 r1
      rw [e] at hd
      exact CSt_M hS (by omega) k0 k1 kb hc a2 a4 (by omega) (by omega) (Rep_cg hd a8 a9) (Srt_cg (Srt_del hT r0 r1) a8)
    · omega
theorem c_rem_no (hl : l.stackTraces = false) (hI : Inv kc km h) (hS : CSt B σ h) (hB : B ≤ 100000) (k0 : 0 ≤ k) (k1 : k ≤ 2) (kb : (b : Int) = 17 + 3 * k) (hb : isBk b) (hc : CA b s m u w h) (hR : Rep (cv u) (cv w) s (σ.1 k)) (hm : m ≤ B) : dm_M l 12 0 0 0 [.ref b, dI (-1)] h (QCV kc km h B σ) := by
  refine dm_M_imp (f_X0_removeAt l hl hI hb hc (a1 := -1) (by omega) (by omega) (by omega)) (fun q h' hq => ?_)
  obtain ⟨a1, a2, a3⟩ := hq
  cases q with
  | inr e9 => exact a3.elim
  | inl v =>
    obtain ⟨s', m', u', w', a4, a5, a10⟩ := a3
    rcases a5 with ⟨a6, -⟩ | ⟨-, a6, a7, a8, a9⟩
    · omega
    · subst a6; subst a7; subst a8; subst a9
      have e1 := CSt_N hS k0 k1 kb hc a2 a4 hR
      have e2 : stN σ k (σ.1 k) = σ := by
        unfold stN
        have : (fun i => if i = k then σ.1 k else σ.1 i) = σ.1 := funext fun i => by
          by_cases q : i = k
          · rw [if_pos q, q]
          · rw [if_neg q]
        rw [this]
      rw [e2] at e1
      exact ⟨a1, FrC_B a2 hb, e1, by rw [a10]⟩
theorem c_cpy {k2 : Int} {b2 : Nat} {s2 m2 : Int} {u2 w2 : List Value} (hl : l.stackTraces = false) (hI : Inv kc km h) (hS : CSt B σ h) (hB : B ≤ 100000) (k0 : 0 ≤ k) (k1 : k ≤ 2) (kb : (b : Int) = 17 + 3 * k) (hb : isBk b) (hc : CA b s m u w h) (hm : m ≤ B) (kb2 : (b2 : Int) = 17 + 3 * k2) (hb2 : isBk b2) (hc2 : CA b2 s2 m2 u2 w2 h) (hR2 : Rep (cv u2) (cv w2) s2 (σ.1 k2)) (hT2 : Srt (cv u2) s2) : dm_M l 14 0 0 0 [.ref b, .ref b2] h (QCV kc km h (B + 1) (stM σ k (σ.1 k2))) := by
  by_cases hbb : b = b2
  · subst hbb
    have ek : k2 = k := by omega
    subst ek
    obtain ⟨e1, e2, e3, e4⟩ := CA_uq hc hc2
    subst e1; subst e2; subst e3; subst e4
    refine dm_M_imp (f_X0_becomeAs_s l hl hI hb hc (by omega)) (fun q h' hq => ?_)
    obtain ⟨a1, a2, a3⟩ := hq
    cases q with
    | inr e9 => exact a3.elim
    | inl v =>
      obtain ⟨s', m', u', w', a4, a5, a6, a7, a8, a9⟩ := a3
      subst a5; subst a6
      exact ⟨a1, FrC_B a2 hb, CSt_M hS (by omega) k0 k1 kb hc a2 a4 (by omega) (by omega) (Rep_cg hR2 a7 a8) (Srt_cg hT2 a7), by rw [a9]⟩
  · refine dm_M_imp (f_X0_becomeAs l hl hI hb hc hb2 hc2 hbb (by omega)) (fun q h' hq => ?_)
    obtain ⟨a1, a2, a3⟩ := hq
    cases q with
    | inr e9 => exact a3.elim
    | inl v =>
      obtain ⟨s', m', u', w', a4, a5, a6, a7, a8, a9⟩ := a3
      subst a5; subst a6
      exact ⟨a1, FrC_B a2 hb, CSt_M hS (by omega) k0 k1 kb hc a2 a4 (by omega) (by omega) (Rep_cg hR2 a7 a8) (Srt_cg hT2 a7), by rw [a9]⟩
end CB
