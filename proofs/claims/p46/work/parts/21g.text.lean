set_option maxHeartbeats 4000000 in
set_option maxRecDepth 100000 in
/-- java/lang/Integer.stringSize -/
theorem s_J6_stringSize_0f7a4 (l : Launch) (hl : l.stackTraces = false) {h0 h : dm_H} (hA : App h0 h) {a0 : Int} (h0a : -2147483648 ≤ a0) (h0b : a0 ≤ 2147483647) : dm_M l 239 0 0 0 [dI (a0)] h (QP h (RI (fun x => 1 ≤ x ∧ x ≤ 11 ∧ (0 ≤ a0 → x ≤ 10) ∧ (a0 < 0 → 2 ≤ x) ∧ (-1 ≤ a0 → a0 ≤ 99 → x ≤ 2) ∧ dgz x a0)) []) := by
  refine dm_M_of dk_239 hl rfl (Nat.le_of_ble_eq_true rfl) ?_
  show dm_W (fun _ _ _ => True) (dm_P (QP h (RI (fun x => 1 ≤ x ∧ x ≤ 11 ∧ (0 ≤ a0 → x ≤ 10) ∧ (a0 < 0 → 2 ≤ x) ∧ (-1 ≤ a0 → a0 ≤ 99 → x ≤ 2) ∧ dgz x a0)) []) 0 0) l 239 0 0 0 0 [some (dI (a0)), none, none, none] [] h 0 0
  refine di_const rfl ?_
  refine di_istore_n (ls2 := [some (dI (a0)), some (dI (1)), none, none]) rfl rfl rfl ?_
  refine dr_iload_n rfl rfl ?_
  refine di_if_lt rfl rfl (by omega) (by omega) (fun c1 => ?_) (fun c1 => ?_)
  · skip
    refine di_bipush rfl (by decide) ?_
    refine di_istore_n (ls2 := [some (dI (a0)), some (dI (1)), some (dI ((-10))), none]) rfl rfl rfl ?_
    refine di_const rfl ?_
    refine di_istore_n (ls2 := [some (dI (a0)), some (dI (1)), some (dI ((-10))), some (dI (1))]) rfl rfl rfl ?_
    have L4 : ∀ (n : Nat) (i2 : Int) (i3 : Int), (10 - i3).toNat < n → -10000000000 ≤ i2 → i2 ≤ -10 → 1 ≤ i3 → i3 ≤ 10 → pw (i3) (i2) → (2 ≤ i3 → a0 ≤ -10) → (3 ≤ i3 → a0 ≤ -100) → dm_W (fun _ _ _ => True) (dm_P (QP h (RI (fun x => 1 ≤ x ∧ x ≤ 11 ∧ (0 ≤ a0 → x ≤ 10) ∧ (a0 < 0 → 2 ≤ x) ∧ (-1 ≤ a0 → a0 ≤ 99 → x ≤ 2) ∧ dgz x a0)) []) 0 0) l 239 0 0 0 16 [some (dI (a0)), some (dI (1)), some (dI (i2)), some (dI (i3))] [] h 0 0 := by
      intro n
      induction n with
      | zero => intro i2 i3 hm; exact absurd hm (Nat.not_lt_zero _)
      | succ n ih =>
        intro i2 i3 hm12 hb5 hb6 hb7 hb8 hx9 hx10 hx11
        have ihL4 := ih
        clear ih
        refine dr_iload_n rfl rfl ?_
        have pb9 := pw_b (i := i3) (p := i2) (by assumption)
        refine di_bipush rfl (by decide) ?_
        refine di_icmp_ge rfl rfl (by omega) (by omega) (by omega) (by omega) (fun c13 => ?_) (fun c13 => ?_)
        · skip
          refine di_bipush rfl (by decide) ?_
          refine dr_iload_n rfl rfl ?_
          refine di_iadd rfl ?_
          exact dr_iret (ty := .int) rfl rfl rfl (by decide) (by decide) ⟨rfl, (10 + 1), ⟨by omega, by omega, by omega, by omega, by omega, dgz_n (i := i3) (p := i2) (by assumption) (by omega) (by omega) (by omega)⟩, by omega, by omega, rfl⟩
        · skip
          refine dr_iload_n rfl rfl ?_
          refine dr_iload_n rfl rfl ?_
          refine di_icmp_le rfl rfl (by omega) (by omega) (by omega) (by omega) (fun c14 => ?_) (fun c14 => ?_)
          · skip
            refine di_bipush rfl (by decide) ?_
            refine dr_iload_n rfl rfl ?_
            refine di_imul rfl ?_
            refine di_istore_n (ls2 := [some (dI (a0)), some (dI (1)), some (dI ((10 * i2))), some (dI (i3))]) rfl rfl rfl ?_
            refine di_iinc (ls2 := [some (dI (a0)), some (dI (1)), some (dI ((10 * i2))), some (dI ((i3 + 1)))]) rfl rfl rfl rfl ?_
            refine dr_goto rfl rfl ?_
            exact ihL4 ((10 * i2)) ((i3 + 1)) (by omega) (by omega) (by omega) (by omega) (by omega) (by first | exact pw_1 | exact pw_s (by assumption) (by omega)) (by omega) (by omega) 
          · skip
            refine dr_iload_n rfl rfl ?_
            refine dr_iload_n rfl rfl ?_
            refine di_iadd rfl ?_
            exact dr_iret (ty := .int) rfl rfl rfl (by decide) (by decide) ⟨rfl, (i3 + 1), ⟨by omega, by omega, by omega, by omega, by omega, dgz_n (i := i3) (p := i2) (by assumption) (by omega) (by omega) (by omega)⟩, by omega, by omega, rfl⟩
    exact L4 _ ((-10)) (1) (Nat.lt_succ_self _) (by omega) (by omega) (by omega) (by omega) (by first | exact pw_1 | exact pw_s (by assumption) (by omega)) (by omega) (by omega) 
  · skip
    refine di_const rfl ?_
    refine di_istore_n (ls2 := [some (dI (a0)), some (dI (0)), none, none]) rfl rfl rfl ?_
    refine dr_iload_n rfl rfl ?_
    refine dn_ineg rfl ?_
    refine di_istore_n (ls2 := [some (dI ((-a0))), some (dI (0)), none, none]) rfl rfl rfl ?_
    refine di_bipush rfl (by decide) ?_
    refine di_istore_n (ls2 := [some (dI ((-a0))), some (dI (0)), some (dI ((-10))), none]) rfl rfl rfl ?_
    refine di_const rfl ?_
    refine di_istore_n (ls2 := [some (dI ((-a0))), some (dI (0)), some (dI ((-10))), some (dI (1))]) rfl rfl rfl ?_
    have L17 : ∀ (n : Nat) (i15 : Int) (i16 : Int), (10 - i16).toNat < n → -10000000000 ≤ i15 → i15 ≤ -10 → 1 ≤ i16 → i16 ≤ 10 → pw (i16) (i15) → (2 ≤ i16 → (-a0) ≤ -10) → (3 ≤ i16 → (-a0) ≤ -100) → dm_W (fun _ _ _ => True) (dm_P (QP h (RI (fun x => 1 ≤ x ∧ x ≤ 11 ∧ (0 ≤ a0 → x ≤ 10) ∧ (a0 < 0 → 2 ≤ x) ∧ (-1 ≤ a0 → a0 ≤ 99 → x ≤ 2) ∧ dgz x a0)) []) 0 0) l 239 0 0 0 16 [some (dI ((-a0))), some (dI (0)), some (dI (i15)), some (dI (i16))] [] h 0 0 := by
      intro n
      induction n with
      | zero => intro i15 i16 hm; exact absurd hm (Nat.not_lt_zero _)
      | succ n ih =>
        intro i15 i16 hm25 hb18 hb19 hb20 hb21 hx22 hx23 hx24
        have ihL17 := ih
        clear ih
        refine dr_iload_n rfl rfl ?_
        have pb9 := pw_b (i := i16) (p := i15) (by assumption)
        refine di_bipush rfl (by decide) ?_
        refine di_icmp_ge rfl rfl (by omega) (by omega) (by omega) (by omega) (fun c26 => ?_) (fun c26 => ?_)
        · skip
          refine di_bipush rfl (by decide) ?_
          refine dr_iload_n rfl rfl ?_
          refine di_iadd rfl ?_
          exact dr_iret (ty := .int) rfl rfl rfl (by decide) (by decide) ⟨rfl, (10 + 0), ⟨by omega, by omega, by omega, by omega, by omega, dgz_p (i := i16) (p := i15) (by assumption) (by omega) (by omega) (by omega)⟩, by omega, by omega, rfl⟩
        · skip
          refine dr_iload_n rfl rfl ?_
          refine dr_iload_n rfl rfl ?_
          refine di_icmp_le rfl rfl (by omega) (by omega) (by omega) (by omega) (fun c27 => ?_) (fun c27 => ?_)
          · skip
            refine di_bipush rfl (by decide) ?_
            refine dr_iload_n rfl rfl ?_
            refine di_imul rfl ?_
            refine di_istore_n (ls2 := [some (dI ((-a0))), some (dI (0)), some (dI ((10 * i15))), some (dI (i16))]) rfl rfl rfl ?_
            refine di_iinc (ls2 := [some (dI ((-a0))), some (dI (0)), some (dI ((10 * i15))), some (dI ((i16 + 1)))]) rfl rfl rfl rfl ?_
            refine dr_goto rfl rfl ?_
            exact ihL17 ((10 * i15)) ((i16 + 1)) (by omega) (by omega) (by omega) (by omega) (by omega) (by first | exact pw_1 | exact pw_s (by assumption) (by omega)) (by omega) (by omega) 
          · skip
            refine dr_iload_n rfl rfl ?_
            refine dr_iload_n rfl rfl ?_
            refine di_iadd rfl ?_
            exact dr_iret (ty := .int) rfl rfl rfl (by decide) (by decide) ⟨rfl, (i16 + 0), ⟨by omega, by omega, by omega, by omega, by omega, dgz_p (i := i16) (p := i15) (by assumption) (by omega) (by omega) (by omega)⟩, by omega, by omega, rfl⟩
    exact L17 _ ((-10)) (1) (Nat.lt_succ_self _) (by omega) (by omega) (by omega) (by omega) (by first | exact pw_1 | exact pw_s (by assumption) (by omega)) (by omega) (by omega) 
