/-- the digits that are left: k of them hold i -/
def dgs (k i : Int) : Prop := i ≤ 0 ∧ ((k = 1 ∧ -10 < i) ∨ (k = 2 ∧ -100 < i) ∨ (k = 3 ∧ -1000 < i) ∨ (k = 4 ∧ -10000 < i) ∨ (k = 5 ∧ -100000 < i) ∨ (k = 6 ∧ -1000000 < i) ∨ (k = 7 ∧ -10000000 < i) ∨ (k = 8 ∧ -100000000 < i) ∨ (k = 9 ∧ -1000000000 < i) ∨ k = 10)
theorem dgs_b {k i : Int} (h : dgs k i) : i ≤ 0 ∧ 1 ≤ k ∧ k ≤ 10 := by
  obtain ⟨h0, h⟩ := h
  rcases h with ⟨rfl, h⟩ | ⟨rfl, h⟩ | ⟨rfl, h⟩ | ⟨rfl, h⟩ | ⟨rfl, h⟩ | ⟨rfl, h⟩ | ⟨rfl, h⟩ | ⟨rfl, h⟩ | ⟨rfl, h⟩ | rfl <;> exact ⟨h0, by omega, by omega⟩
theorem dgs_2 {k i : Int} (h : dgs k i) (hi : i ≤ -10) : 2 ≤ k := by
  obtain ⟨h0, h⟩ := h
  rcases h with ⟨rfl, h⟩ | ⟨rfl, h⟩ | ⟨rfl, h⟩ | ⟨rfl, h⟩ | ⟨rfl, h⟩ | ⟨rfl, h⟩ | ⟨rfl, h⟩ | ⟨rfl, h⟩ | ⟨rfl, h⟩ | rfl <;> omega
theorem dgs_3 {k i : Int} (h : dgs k i) (hi : i ≤ -100) : 3 ≤ k := by
  obtain ⟨h0, h⟩ := h
  rcases h with ⟨rfl, h⟩ | ⟨rfl, h⟩ | ⟨rfl, h⟩ | ⟨rfl, h⟩ | ⟨rfl, h⟩ | ⟨rfl, h⟩ | ⟨rfl, h⟩ | ⟨rfl, h⟩ | ⟨rfl, h⟩ | rfl <;> omega
theorem dgs_s {k i : Int} (h : dgs k i) (hi : i ≤ -100) (hm : -2147483648 ≤ i) : dgs (k - 2) (-((-i) / 100)) := by
  obtain ⟨h0, h⟩ := h
  refine ⟨by omega, ?_⟩
  rcases h with ⟨rfl, h⟩ | ⟨rfl, h⟩ | ⟨rfl, h⟩ | ⟨rfl, h⟩ | ⟨rfl, h⟩ | ⟨rfl, h⟩ | ⟨rfl, h⟩ | ⟨rfl, h⟩ | ⟨rfl, h⟩ | rfl <;> omega
theorem dgs_e {k k2 i : Int} (h : dgs k i) (e : k2 = k) : dgs k2 i := by rw [e]; exact h
/-- sz places hold a, with its sign -/
def dgz (sz a : Int) : Prop := (a < 0 → dgs (sz - 1) a) ∧ (0 ≤ a → dgs sz (-a))
def pw (i p : Int) : Prop := ((i = 1 ∧ p = -10) ∨ (i = 2 ∧ p = -100) ∨ (i = 3 ∧ p = -1000) ∨ (i = 4 ∧ p = -10000) ∨ (i = 5 ∧ p = -100000) ∨ (i = 6 ∧ p = -1000000) ∨ (i = 7 ∧ p = -10000000) ∨ (i = 8 ∧ p = -100000000) ∨ (i = 9 ∧ p = -1000000000) ∨ (i = 10 ∧ p = -10000000000))
theorem pw_1 : pw 1 (-10) := Or.inl ⟨rfl, rfl⟩
theorem pw_s {i p : Int} (h : pw i p) (h9 : i ≤ 9) : pw (i + 1) (10 * p) := by
  rcases h with ⟨rfl, rfl⟩ | ⟨rfl, rfl⟩ | ⟨rfl, rfl⟩ | ⟨rfl, rfl⟩ | ⟨rfl, rfl⟩ | ⟨rfl, rfl⟩ | ⟨rfl, rfl⟩ | ⟨rfl, rfl⟩ | ⟨rfl, rfl⟩ | ⟨rfl, rfl⟩
  · exact (Or.inr (Or.inl ⟨rfl, rfl⟩))
  · exact (Or.inr (Or.inr (Or.inl ⟨rfl, rfl⟩)))
  · exact (Or.inr (Or.inr (Or.inr (Or.inl ⟨rfl, rfl⟩))))
  · exact (Or.inr (Or.inr (Or.inr (Or.inr (Or.inl ⟨rfl, rfl⟩)))))
  · exact (Or.inr (Or.inr (Or.inr (Or.inr (Or.inr (Or.inl ⟨rfl, rfl⟩))))))
  · exact (Or.inr (Or.inr (Or.inr (Or.inr (Or.inr (Or.inr (Or.inl ⟨rfl, rfl⟩)))))))
  · exact (Or.inr (Or.inr (Or.inr (Or.inr (Or.inr (Or.inr (Or.inr (Or.inl ⟨rfl, rfl⟩))))))))
  · exact (Or.inr (Or.inr (Or.inr (Or.inr (Or.inr (Or.inr (Or.inr (Or.inr (Or.inl ⟨rfl, rfl⟩)))))))))
  · exact (Or.inr (Or.inr (Or.inr (Or.inr (Or.inr (Or.inr (Or.inr (Or.inr (Or.inr ⟨rfl, rfl⟩)))))))))
  · exact absurd h9 (by decide)
theorem pw_b {i p : Int} (h : pw i p) : 1 ≤ i ∧ i ≤ 10 ∧ p ≤ -10 ∧ -10000000000 ≤ p ∧ (i ≤ 9 → -1000000000 ≤ p) ∧ (2 ≤ i → p ≤ -100) := by
  rcases h with ⟨rfl, rfl⟩ | ⟨rfl, rfl⟩ | ⟨rfl, rfl⟩ | ⟨rfl, rfl⟩ | ⟨rfl, rfl⟩ | ⟨rfl, rfl⟩ | ⟨rfl, rfl⟩ | ⟨rfl, rfl⟩ | ⟨rfl, rfl⟩ | ⟨rfl, rfl⟩ <;> omega
theorem dgz_n {i p a x : Int} (h : pw i p) (ha : a < 0) (hp : p < a ∨ i = 10) (hx : x = i + 1) : dgz x a := by
  refine ⟨fun _ => ?_, fun h9 => absurd h9 (by omega)⟩
  refine dgs_e (k := i) ⟨by omega, ?_⟩ (by omega)
  rcases h with ⟨rfl, rfl⟩ | ⟨rfl, rfl⟩ | ⟨rfl, rfl⟩ | ⟨rfl, rfl⟩ | ⟨rfl, rfl⟩ | ⟨rfl, rfl⟩ | ⟨rfl, rfl⟩ | ⟨rfl, rfl⟩ | ⟨rfl, rfl⟩ | ⟨rfl, rfl⟩ <;> omega
theorem dgz_p {i p a x : Int} (h : pw i p) (ha : 0 ≤ a) (hp : p < -a ∨ i = 10) (hx : x = i) : dgz x a := by
  refine ⟨fun h9 => absurd h9 (by omega), fun _ => ?_⟩
  refine dgs_e (k := i) ⟨by omega, ?_⟩ hx
  rcases h with ⟨rfl, rfl⟩ | ⟨rfl, rfl⟩ | ⟨rfl, rfl⟩ | ⟨rfl, rfl⟩ | ⟨rfl, rfl⟩ | ⟨rfl, rfl⟩ | ⟨rfl, rfl⟩ | ⟨rfl, rfl⟩ | ⟨rfl, rfl⟩ | ⟨rfl, rfl⟩ <;> omega
set_option maxHeartbeats 4000000 in
set_option maxRecDepth 100000 in
theorem s_J6_getChars_ba4f3 (l : Launch) (hl : l.stackTraces = false) {h : dm_H} {a0 a1 sz : Int} (h0a : -2147483648 ≤ a0) (h0b : a0 ≤ 2147483647) (h1a : 0 ≤ a1) {b : Nat} {v : List Value} (hv : h[b]? = some (21, v)) (hl1 : a1 ≤ v.length) (hl2 : (v.length : Int) ≤ 400) (hs0 : sz ≤ a1) (hz : dgz sz a0) : dm_M l 238 0 0 0 [dI (a0), dI (a1), .ref b] h (QG h b v.length) := by
  refine dm_M_of dk_238 hl rfl (Nat.le_of_ble_eq_true rfl) ?_
  have hbl := App_lt hv
  show dm_W (fun _ _ _ => True) (dm_P (QG h b v.length) 0 0) l 238 0 0 0 0 [some (dI (a0)), some (dI (a1)), some (.ref b), none, none, none, none] [] h 0 0
  refine pg0 hv ?_
  have hu0 : v.length = v.length := rfl
  refine dr_iload_n rfl rfl ?_
  refine di_istore (ls2 := [some (dI (a0)), some (dI (a1)), some (.ref b), none, none, some (dI (a1)), none]) rfl rfl rfl ?_
  refine dr_iload_n rfl rfl ?_
  refine di_if_ge rfl rfl (by omega) (by omega) (fun c1 => ?_) (fun c1 => ?_)
  · skip
    refine di_const rfl ?_
    refine di_istore (ls2 := [some (dI (a0)), some (dI (a1)), some (.ref b), none, none, some (dI (a1)), some (dI (0))]) rfl rfl rfl ?_
    refine dr_iload rfl rfl ?_
    refine di_if_ne rfl rfl (by omega) (by omega) (fun c2 => ?_) (fun c2 => ?_)
    · skip
      exfalso; omega
    · skip
      refine dr_iload_n rfl rfl ?_
      refine dn_ineg rfl ?_
      refine di_istore_n (ls2 := [some (dI ((-a0))), some (dI (a1)), some (.ref b), none, none, some (dI (a1)), some (dI (0))]) rfl rfl rfl ?_
      have L12 : ∀ (n : Nat) (i8 c9 : Int) (uv10 : List Value), (-i8).toNat < n → uv10.length = v.length → c9 ≤ a1 → i8 ≤ 0 → -2147483648 ≤ i8 → 1 ≤ (c9 - (a1 - sz) - 0) → (c9 - (a1 - sz) - 0) ≤ 10 → (i8 ≤ -10 → 2 ≤ (c9 - (a1 - sz) - 0)) → (i8 ≤ -100 → 3 ≤ (c9 - (a1 - sz) - 0)) → dgs ((c9 - (a1 - sz) - 0)) (i8) → dm_W (fun _ _ _ => True) (dm_P (QG h b v.length) 0 0) l 238 0 0 0 22 [some (dI (i8)), some (dI (a1)), some (.ref b), none, none, some (dI (c9)), some (dI (0))] [] (h.set b (21, uv10)) 0 0 := by
        intro n
        induction n with
        | zero => intro i8 c9 uv10 hm; exact absurd hm (Nat.not_lt_zero _)
        | succ n ih =>
          intro i8 c9 uv10 hm hu11 gc g0 g1 g2 g3 g4 g5 gd
          refine dr_iload_n rfl rfl ?_
          refine di_bipush rfl (by decide) ?_
          refine di_icmp_gt rfl rfl (by omega) (by omega) (by omega) (by omega) (fun c13 => ?_) (fun c13 => ?_)
          · skip
            refine di_aload_n rfl rfl ?_
            refine di_iinc (ls2 := [some (dI (i8)), some (dI (a1)), some (.ref b), none, none, some (dI ((c9 + (-1)))), some (dI (0))]) rfl rfl rfl rfl ?_
            refine dr_iload rfl rfl ?_
            refine dr_gets0 rfl (by decide +kernel) ?_
            refine dr_iload_n rfl rfl ?_
            refine dn_ineg rfl ?_
            refine dr_digit rfl (by decide) (by omega) (by omega) (fun x14 x14a x14b => ?_)
            refine pgs rfl hbl (by omega) (by omega) (fun w15 hw16 => ?_)
            have hu17 : w15.length = v.length := hw16.trans hu11
            refine dr_iload_n rfl rfl ?_
            refine di_bipush rfl (by decide) ?_
            refine di_icmp_ge rfl rfl (by omega) (by omega) (by omega) (by omega) (fun c18 => ?_) (fun c18 => ?_)
            · skip
              refine dr_iload rfl rfl ?_
              refine di_if_eq rfl rfl (by omega) (by omega) (fun c19 => ?_) (fun c19 => ?_)
              · skip
                refine dr_iload rfl rfl ?_
                exact dr_iret (ty := .int) rfl rfl rfl (by decide) (by decide) ⟨⟨w15, hu17, rfl⟩, (c9 + (-1)), rfl⟩
              · skip
                refine di_aload_n rfl rfl ?_
                refine di_iinc (ls2 := [some (dI (i8)), some (dI (a1)), some (.ref b), none, none, some (dI (((c9 + (-1)) + (-1)))), some (dI (0))]) rfl rfl rfl rfl ?_
                refine dr_iload rfl rfl ?_
                refine di_bipush rfl (by decide) ?_
                refine pgs rfl hbl (by omega) (by omega) (fun w20 hw21 => ?_)
                have hu22 : w20.length = v.length := hw21.trans hu17
                refine dr_iload rfl rfl ?_
                exact dr_iret (ty := .int) rfl rfl rfl (by decide) (by decide) ⟨⟨w20, hu22, rfl⟩, ((c9 + (-1)) + (-1)), rfl⟩
            · skip
              refine di_aload_n rfl rfl ?_
              refine di_iinc (ls2 := [some (dI (i8)), some (dI (a1)), some (.ref b), none, none, some (dI (((c9 + (-1)) + (-1)))), some (dI (0))]) rfl rfl rfl rfl ?_
              refine dr_iload rfl rfl ?_
              refine dr_gets1 rfl (by decide +kernel) ?_
              refine dr_iload_n rfl rfl ?_
              refine dn_ineg rfl ?_
              refine dr_digit rfl (by decide) (by omega) (by omega) (fun x23 x23a x23b => ?_)
              refine pgs rfl hbl (by omega) (by omega) (fun w24 hw25 => ?_)
              have hu26 : w24.length = v.length := hw25.trans hu17
              refine dr_iload rfl rfl ?_
              refine di_if_eq rfl rfl (by omega) (by omega) (fun c27 => ?_) (fun c27 => ?_)
              · skip
                refine dr_iload rfl rfl ?_
                exact dr_iret (ty := .int) rfl rfl rfl (by decide) (by decide) ⟨⟨w24, hu26, rfl⟩, ((c9 + (-1)) + (-1)), rfl⟩
              · skip
                refine di_aload_n rfl rfl ?_
                refine di_iinc (ls2 := [some (dI (i8)), some (dI (a1)), some (.ref b), none, none, some (dI ((((c9 + (-1)) + (-1)) + (-1)))), some (dI (0))]) rfl rfl rfl rfl ?_
                refine dr_iload rfl rfl ?_
                refine di_bipush rfl (by decide) ?_
                refine pgs rfl hbl (by omega) (by omega) (fun w28 hw29 => ?_)
                have hu30 : w28.length = v.length := hw29.trans hu26
                refine dr_iload rfl rfl ?_
                exact dr_iret (ty := .int) rfl rfl rfl (by decide) (by decide) ⟨⟨w28, hu30, rfl⟩, (((c9 + (-1)) + (-1)) + (-1)), rfl⟩
          · skip
            refine dr_iload_n rfl rfl ?_
            refine di_bipush rfl (by decide) ?_
            refine dn_div rfl (by omega) (by omega) ?_
            refine di_istore_n (ls2 := [some (dI (i8)), some (dI (a1)), some (.ref b), some (dI ((-((-i8) / 100)))), none, some (dI (c9)), some (dI (0))]) rfl rfl rfl ?_
            refine dr_iload_n rfl rfl ?_
            refine di_bipush rfl (by decide) ?_
            refine di_imul rfl ?_
            refine dr_iload_n rfl rfl ?_
            refine di_isub rfl ?_
            refine di_istore (ls2 := [some (dI (i8)), some (dI (a1)), some (.ref b), some (dI ((-((-i8) / 100)))), some (dI ((((-((-i8) / 100)) * 100) - i8))), some (dI (c9)), some (dI (0))]) rfl rfl rfl ?_
            refine dr_iload_n rfl rfl ?_
            refine di_istore_n (ls2 := [some (dI ((-((-i8) / 100)))), some (dI (a1)), some (.ref b), some (dI ((-((-i8) / 100)))), some (dI ((((-((-i8) / 100)) * 100) - i8))), some (dI (c9)), some (dI (0))]) rfl rfl rfl ?_
            refine di_aload_n rfl rfl ?_
            refine di_iinc (ls2 := [some (dI ((-((-i8) / 100)))), some (dI (a1)), some (.ref b), some (dI ((-((-i8) / 100)))), some (dI ((((-((-i8) / 100)) * 100) - i8))), some (dI ((c9 + (-1)))), some (dI (0))]) rfl rfl rfl rfl ?_
            refine dr_iload rfl rfl ?_
            refine dr_gets0 rfl (by decide +kernel) ?_
            refine dr_iload rfl rfl ?_
            refine dr_digit rfl (by decide) (by omega) (by omega) (fun x31 x31a x31b => ?_)
            refine pgs rfl hbl (by omega) (by omega) (fun w32 hw33 => ?_)
            have hu34 : w32.length = v.length := hw33.trans hu11
            refine di_aload_n rfl rfl ?_
            refine di_iinc (ls2 := [some (dI ((-((-i8) / 100)))), some (dI (a1)), some (.ref b), some (dI ((-((-i8) / 100)))), some (dI ((((-((-i8) / 100)) * 100) - i8))), some (dI (((c9 + (-1)) + (-1)))), some (dI (0))]) rfl rfl rfl rfl ?_
            refine dr_iload rfl rfl ?_
            refine dr_gets1 rfl (by decide +kernel) ?_
            refine dr_iload rfl rfl ?_
            refine dr_digit rfl (by decide) (by omega) (by omega) (fun x35 x35a x35b => ?_)
            refine pgs rfl hbl (by omega) (by omega) (fun w36 hw37 => ?_)
            have hu38 : w36.length = v.length := hw37.trans hu34
            refine dr_goto rfl rfl ?_
            refine dm_wk (ls2 := [some (dI ((-((-i8) / 100)))), some (dI (a1)), some (.ref b), none, none, some (dI (((c9 + (-1)) + (-1)))), some (dI (0))]) ⟨Or.inr rfl, Or.inr rfl, Or.inr rfl, Or.inl rfl, Or.inl rfl, Or.inr rfl, Or.inr rfl, trivial⟩ ?_
            have hd39 : dgs (((c9 + (-1)) + (-1)) - (a1 - sz) - 0) ((-((-i8) / 100))) := dgs_e (dgs_s gd (by omega) (by omega)) (by omega)
            obtain ⟨hd39a, hd39b, hd39c⟩ := dgs_b hd39
            exact ih ((-((-i8) / 100))) (((c9 + (-1)) + (-1))) w36 (by omega) hu38 (by omega) hd39a (by omega) hd39b hd39c (fun e => dgs_2 hd39 e) (fun e => dgs_3 hd39 e) hd39
      have hdL12 : dgs (a1 - (a1 - sz) - 0) ((-a0)) := dgs_e (hz.2 (by omega)) (by omega)
      obtain ⟨hdL12a, hdL12b, hdL12c⟩ := dgs_b hdL12
      exact L12 _ ((-a0)) (a1) v (Nat.lt_succ_self _) rfl (by omega) hdL12a (by omega) hdL12b hdL12c (fun e => dgs_2 hdL12 e) (fun e => dgs_3 hdL12 e) hdL12
  · skip
    refine di_const rfl ?_
    refine dr_goto rfl rfl ?_
    refine di_istore (ls2 := [some (dI (a0)), some (dI (a1)), some (.ref b), none, none, some (dI (a1)), some (dI (1))]) rfl rfl rfl ?_
    refine dr_iload rfl rfl ?_
    refine di_if_ne rfl rfl (by omega) (by omega) (fun c40 => ?_) (fun c40 => ?_)
    · skip
      have L45 : ∀ (n : Nat) (i41 c42 : Int) (uv43 : List Value), (-i41).toNat < n → uv43.length = v.length → c42 ≤ a1 → i41 ≤ 0 → -2147483648 ≤ i41 → 1 ≤ (c42 - (a1 - sz) - 1) → (c42 - (a1 - sz) - 1) ≤ 10 → (i41 ≤ -10 → 2 ≤ (c42 - (a1 - sz) - 1)) → (i41 ≤ -100 → 3 ≤ (c42 - (a1 - sz) - 1)) → dgs ((c42 - (a1 - sz) - 1)) (i41) → dm_W (fun _ _ _ => True) (dm_P (QG h b v.length) 0 0) l 238 0 0 0 22 [some (dI (i41)), some (dI (a1)), some (.ref b), none, none, some (dI (c42)), some (dI (1))] [] (h.set b (21, uv43)) 0 0 := by
        intro n
        induction n with
        | zero => intro i41 c42 uv43 hm; exact absurd hm (Nat.not_lt_zero _)
        | succ n ih =>
          intro i41 c42 uv43 hm hu44 gc g0 g1 g2 g3 g4 g5 gd
          refine dr_iload_n rfl rfl ?_
          refine di_bipush rfl (by decide) ?_
          refine di_icmp_gt rfl rfl (by omega) (by omega) (by omega) (by omega) (fun c46 => ?_) (fun c46 => ?_)
          · skip
            refine di_aload_n rfl rfl ?_
            refine di_iinc (ls2 := [some (dI (i41)), some (dI (a1)), some (.ref b), none, none, some (dI ((c42 + (-1)))), some (dI (1))]) rfl rfl rfl rfl ?_
            refine dr_iload rfl rfl ?_
            refine dr_gets0 rfl (by decide +kernel) ?_
            refine dr_iload_n rfl rfl ?_
            refine dn_ineg rfl ?_
            refine dr_digit rfl (by decide) (by omega) (by omega) (fun x47 x47a x47b => ?_)
            refine pgs rfl hbl (by omega) (by omega) (fun w48 hw49 => ?_)
            have hu50 : w48.length = v.length := hw49.trans hu44
            refine dr_iload_n rfl rfl ?_
            refine di_bipush rfl (by decide) ?_
            refine di_icmp_ge rfl rfl (by omega) (by omega) (by omega) (by omega) (fun c51 => ?_) (fun c51 => ?_)
            · skip
              refine dr_iload rfl rfl ?_
              refine di_if_eq rfl rfl (by omega) (by omega) (fun c52 => ?_) (fun c52 => ?_)
              · skip
                refine dr_iload rfl rfl ?_
                exact dr_iret (ty := .int) rfl rfl rfl (by decide) (by decide) ⟨⟨w48, hu50, rfl⟩, (c42 + (-1)), rfl⟩
              · skip
                refine di_aload_n rfl rfl ?_
                refine di_iinc (ls2 := [some (dI (i41)), some (dI (a1)), some (.ref b), none, none, some (dI (((c42 + (-1)) + (-1)))), some (dI (1))]) rfl rfl rfl rfl ?_
                refine dr_iload rfl rfl ?_
                refine di_bipush rfl (by decide) ?_
                refine pgs rfl hbl (by omega) (by omega) (fun w53 hw54 => ?_)
                have hu55 : w53.length = v.length := hw54.trans hu50
                refine dr_iload rfl rfl ?_
                exact dr_iret (ty := .int) rfl rfl rfl (by decide) (by decide) ⟨⟨w53, hu55, rfl⟩, ((c42 + (-1)) + (-1)), rfl⟩
            · skip
              refine di_aload_n rfl rfl ?_
              refine di_iinc (ls2 := [some (dI (i41)), some (dI (a1)), some (.ref b), none, none, some (dI (((c42 + (-1)) + (-1)))), some (dI (1))]) rfl rfl rfl rfl ?_
              refine dr_iload rfl rfl ?_
              refine dr_gets1 rfl (by decide +kernel) ?_
              refine dr_iload_n rfl rfl ?_
              refine dn_ineg rfl ?_
              refine dr_digit rfl (by decide) (by omega) (by omega) (fun x56 x56a x56b => ?_)
              refine pgs rfl hbl (by omega) (by omega) (fun w57 hw58 => ?_)
              have hu59 : w57.length = v.length := hw58.trans hu50
              refine dr_iload rfl rfl ?_
              refine di_if_eq rfl rfl (by omega) (by omega) (fun c60 => ?_) (fun c60 => ?_)
              · skip
                refine dr_iload rfl rfl ?_
                exact dr_iret (ty := .int) rfl rfl rfl (by decide) (by decide) ⟨⟨w57, hu59, rfl⟩, ((c42 + (-1)) + (-1)), rfl⟩
              · skip
                refine di_aload_n rfl rfl ?_
                refine di_iinc (ls2 := [some (dI (i41)), some (dI (a1)), some (.ref b), none, none, some (dI ((((c42 + (-1)) + (-1)) + (-1)))), some (dI (1))]) rfl rfl rfl rfl ?_
                refine dr_iload rfl rfl ?_
                refine di_bipush rfl (by decide) ?_
                refine pgs rfl hbl (by omega) (by omega) (fun w61 hw62 => ?_)
                have hu63 : w61.length = v.length := hw62.trans hu59
                refine dr_iload rfl rfl ?_
                exact dr_iret (ty := .int) rfl rfl rfl (by decide) (by decide) ⟨⟨w61, hu63, rfl⟩, (((c42 + (-1)) + (-1)) + (-1)), rfl⟩
          · skip
            refine dr_iload_n rfl rfl ?_
            refine di_bipush rfl (by decide) ?_
            refine dn_div rfl (by omega) (by omega) ?_
            refine di_istore_n (ls2 := [some (dI (i41)), some (dI (a1)), some (.ref b), some (dI ((-((-i41) / 100)))), none, some (dI (c42)), some (dI (1))]) rfl rfl rfl ?_
            refine dr_iload_n rfl rfl ?_
            refine di_bipush rfl (by decide) ?_
            refine di_imul rfl ?_
            refine dr_iload_n rfl rfl ?_
            refine di_isub rfl ?_
            refine di_istore (ls2 := [some (dI (i41)), some (dI (a1)), some (.ref b), some (dI ((-((-i41) / 100)))), some (dI ((((-((-i41) / 100)) * 100) - i41))), some (dI (c42)), some (dI (1))]) rfl rfl rfl ?_
            refine dr_iload_n rfl rfl ?_
            refine di_istore_n (ls2 := [some (dI ((-((-i41) / 100)))), some (dI (a1)), some (.ref b), some (dI ((-((-i41) / 100)))), some (dI ((((-((-i41) / 100)) * 100) - i41))), some (dI (c42)), some (dI (1))]) rfl rfl rfl ?_
            refine di_aload_n rfl rfl ?_
            refine di_iinc (ls2 := [some (dI ((-((-i41) / 100)))), some (dI (a1)), some (.ref b), some (dI ((-((-i41) / 100)))), some (dI ((((-((-i41) / 100)) * 100) - i41))), some (dI ((c42 + (-1)))), some (dI (1))]) rfl rfl rfl rfl ?_
            refine dr_iload rfl rfl ?_
            refine dr_gets0 rfl (by decide +kernel) ?_
            refine dr_iload rfl rfl ?_
            refine dr_digit rfl (by decide) (by omega) (by omega) (fun x64 x64a x64b => ?_)
            refine pgs rfl hbl (by omega) (by omega) (fun w65 hw66 => ?_)
            have hu67 : w65.length = v.length := hw66.trans hu44
            refine di_aload_n rfl rfl ?_
            refine di_iinc (ls2 := [some (dI ((-((-i41) / 100)))), some (dI (a1)), some (.ref b), some (dI ((-((-i41) / 100)))), some (dI ((((-((-i41) / 100)) * 100) - i41))), some (dI (((c42 + (-1)) + (-1)))), some (dI (1))]) rfl rfl rfl rfl ?_
            refine dr_iload rfl rfl ?_
            refine dr_gets1 rfl (by decide +kernel) ?_
            refine dr_iload rfl rfl ?_
            refine dr_digit rfl (by decide) (by omega) (by omega) (fun x68 x68a x68b => ?_)
            refine pgs rfl hbl (by omega) (by omega) (fun w69 hw70 => ?_)
            have hu71 : w69.length = v.length := hw70.trans hu67
            refine dr_goto rfl rfl ?_
            refine dm_wk (ls2 := [some (dI ((-((-i41) / 100)))), some (dI (a1)), some (.ref b), none, none, some (dI (((c42 + (-1)) + (-1)))), some (dI (1))]) ⟨Or.inr rfl, Or.inr rfl, Or.inr rfl, Or.inl rfl, Or.inl rfl, Or.inr rfl, Or.inr rfl, trivial⟩ ?_
            have hd72 : dgs (((c42 + (-1)) + (-1)) - (a1 - sz) - 1) ((-((-i41) / 100))) := dgs_e (dgs_s gd (by omega) (by omega)) (by omega)
            obtain ⟨hd72a, hd72b, hd72c⟩ := dgs_b hd72
            exact ih ((-((-i41) / 100))) (((c42 + (-1)) + (-1))) w69 (by omega) hu71 (by omega) hd72a (by omega) hd72b hd72c (fun e => dgs_2 hd72 e) (fun e => dgs_3 hd72 e) hd72
      have hdL45 : dgs (a1 - (a1 - sz) - 1) (a0) := dgs_e (hz.1 (by omega)) (by omega)
      obtain ⟨hdL45a, hdL45b, hdL45c⟩ := dgs_b hdL45
      exact L45 _ (a0) (a1) v (Nat.lt_succ_self _) rfl (by omega) hdL45a (by omega) hdL45b hdL45c (fun e => dgs_2 hdL45 e) (fun e => dgs_3 hdL45 e) hdL45
    · skip
      refine dr_iload_n rfl rfl ?_
      refine dn_ineg rfl ?_
      refine di_istore_n (ls2 := [some (dI ((-a0))), some (dI (a1)), some (.ref b), none, none, some (dI (a1)), some (dI (1))]) rfl rfl rfl ?_
      exfalso; omega
set_option maxHeartbeats 4000000 in
set_option maxRecDepth 100000 in
/-- java/lang/AbstractStringBuilder.isLatin1 -/
theorem s_J5_isLatin1_aae02 (l : Launch) (hl : l.stackTraces = false) {h0 h : dm_H} (hA : App h0 h) {q b : Nat} {n : Int} {vs : List Value} (hq : h0.length ≤ q) (hb : h0.length ≤ b) (hqb : b ≠ q) (hc : h[q]? = some (1, [.ref b, dI 0, dI 0, dI (n)])) (hv : h[b]? = some (21, vs)) (hn0 : 0 ≤ n) (hnl : n ≤ vs.length) (hnc : (vs.length : Int) ≤ 400) : dm_M l 235 0 0 0 [.ref q] h (QP h (RI (fun x => 1 ≤ x ∧ x ≤ 1)) []) := by
  refine dm_M_of dk_235 hl rfl (Nat.le_of_ble_eq_true rfl) ?_
  show dm_W (fun _ _ _ => True) (dm_P (QP h (RI (fun x => 1 ≤ x ∧ x ≤ 1)) []) 0 0) l 235 0 0 0 0 [some (.ref q)] [] h 0 0
  refine dr_getsC rfl (by decide +kernel) ?_
  refine di_if_eq rfl rfl (by omega) (by omega) (fun c1 => ?_) (fun c1 => ?_)
  · skip
    refine di_const rfl ?_
    exact dr_iret (ty := .boolean) rfl rfl (nar_z (by omega) (by omega)) (by decide) (by decide) ⟨rfl, 0, (show 1 ≤ (0) ∧ (0) ≤ 1 by omega), by omega, by omega, rfl⟩
  · skip
    refine di_aload_n rfl rfl ?_
    refine dr_getf rfl hc rfl ?_
    refine di_if_ne rfl rfl (by omega) (by omega) (fun c2 => ?_) (fun c2 => ?_)
    · skip
      refine di_const rfl ?_
      exact dr_iret (ty := .boolean) rfl rfl (nar_z (by omega) (by omega)) (by decide) (by decide) ⟨rfl, 0, (show 1 ≤ (0) ∧ (0) ≤ 1 by omega), by omega, by omega, rfl⟩
    · skip
      refine di_const rfl ?_
      refine dr_goto rfl rfl ?_
      exact dr_iret (ty := .boolean) rfl rfl (nar_z (by omega) (by omega)) (by decide) (by decide) ⟨rfl, 1, (show 1 ≤ (1) ∧ (1) ≤ 1 by omega), by omega, by omega, rfl⟩
set_option maxHeartbeats 4000000 in
set_option maxRecDepth 100000 in
/-- java/lang/StringLatin1.canEncode -/
theorem s_J1_canEncode_fc78d (l : Launch) (hl : l.stackTraces = false) {h0 h : dm_H} (hA : App h0 h) {a0 : Int} (h0a : 0 ≤ a0) (h0b : a0 ≤ 255) : dm_M l 257 0 0 0 [dI (a0)] h (QP h (RI (fun x => 1 ≤ x ∧ x ≤ 1)) []) := by
  refine dm_M_of dk_257 hl rfl (Nat.le_of_ble_eq_true rfl) ?_
  show dm_W (fun _ _ _ => True) (dm_P (QP h (RI (fun x => 1 ≤ x ∧ x ≤ 1)) []) 0 0) l 257 0 0 0 0 [some (dI (a0))] [] h 0 0
  refine dr_iload_n rfl rfl ?_
  refine di_sipush rfl (by decide) ?_
  refine di_icmp_gt rfl rfl (by omega) (by omega) (by omega) (by omega) (fun c1 => ?_) (fun c1 => ?_)
  · skip
    refine di_const rfl ?_
    exact dr_iret (ty := .boolean) rfl rfl (nar_z (by omega) (by omega)) (by decide) (by decide) ⟨rfl, 0, (show 1 ≤ (0) ∧ (0) ≤ 1 by omega), by omega, by omega, rfl⟩
  · skip
    refine di_const rfl ?_
    refine dr_goto rfl rfl ?_
    exact dr_iret (ty := .boolean) rfl rfl (nar_z (by omega) (by omega)) (by decide) (by decide) ⟨rfl, 1, (show 1 ≤ (1) ∧ (1) ≤ 1 by omega), by omega, by omega, rfl⟩
set_option maxHeartbeats 4000000 in
set_option maxRecDepth 100000 in
/-- java/lang/AbstractStringBuilder.length -/
theorem s_J5_length_8abf5 (l : Launch) (hl : l.stackTraces = false) {h0 h : dm_H} (hA : App h0 h) {q b : Nat} {n : Int} {vs : List Value} (hq : h0.length ≤ q) (hb : h0.length ≤ b) (hqb : b ≠ q) (hc : h[q]? = some (1, [.ref b, dI 0, dI 0, dI (n)])) (hv : h[b]? = some (21, vs)) (hn0 : 0 ≤ n) (hnl : n ≤ vs.length) (hnc : (vs.length : Int) ≤ 400) : dm_M l 226 0 0 0 [.ref q] h (QP h (RI (fun x => -2147483648 ≤ x ∧ x ≤ 2147483647 ∧ x = n)) []) := by
  refine dm_M_of dk_226 hl rfl (Nat.le_of_ble_eq_true rfl) ?_
  show dm_W (fun _ _ _ => True) (dm_P (QP h (RI (fun x => -2147483648 ≤ x ∧ x ≤ 2147483647 ∧ x = n)) []) 0 0) l 226 0 0 0 0 [some (.ref q)] [] h 0 0
  refine di_aload_n rfl rfl ?_
  refine dr_getf rfl hc rfl ?_
  exact dr_iret (ty := .int) rfl rfl rfl (by decide) (by decide) ⟨rfl, n, (show -2147483648 ≤ (n) ∧ (n) ≤ 2147483647 ∧ (n) = n by omega), by omega, by omega, rfl⟩
set_option maxHeartbeats 4000000 in
set_option maxRecDepth 100000 in
/-- jdk/internal/util/ArraysSupport.newLength -/
theorem s_J8_newLength_cabcc (l : Launch) (hl : l.stackTraces = false) {h0 h : dm_H} (hA : App h0 h) {a0 : Int} (h0a : 0 ≤ a0) (h0b : a0 ≤ 400) {a1 : Int} (h1a : 0 ≤ a1) (h1b : a1 ≤ 400) {a2 : Int} (h2a : 0 ≤ a2) (h2b : a2 ≤ 500) (hp0 : 1 ≤ a2) : dm_M l 279 1 0 0 [dI (a0), dI (a1), dI (a2)] h (QP h (RI (fun x => 0 ≤ x ∧ x ≤ 900 ∧ a0 + a1 ≤ x ∧ a0 + a2 ≤ x ∧ (x = a0 + a1 ∨ x = a0 + a2))) []) := by
  refine dm_M_of dk_279 hl rfl (Nat.le_of_ble_eq_true rfl) ?_
  show dm_W (fun _ _ _ => True) (dm_P (QP h (RI (fun x => 0 ≤ x ∧ x ≤ 900 ∧ a0 + a1 ≤ x ∧ a0 + a2 ≤ x ∧ (x = a0 + a1 ∨ x = a0 + a2))) []) 0 0) l 279 1 0 0 0 [some (dI (a0)), some (dI (a1)), some (dI (a2)), none] [] h 0 0
  refine dr_iload_n rfl rfl ?_
  refine dr_iload_n rfl rfl ?_
  refine dr_iload_n rfl rfl ?_
  refine dr_maxE rfl (by omega) (by omega) (by omega) (by omega) (by decide) (by omega) (by omega) (Nat.le_of_ble_eq_true rfl) (fun q1 q1e => ?_)
  refine di_iadd rfl ?_
  refine di_istore_n (ls2 := [some (dI (a0)), some (dI (a1)), some (dI (a2)), some (dI ((a0 + q1)))]) rfl rfl rfl ?_
  refine di_const rfl ?_
  refine dr_iload_n rfl rfl ?_
  refine di_icmp_ge rfl rfl (by omega) (by omega) (by omega) (by omega) (fun c2 => ?_) (fun c2 => ?_)
  · skip
    refine dr_iload_n rfl rfl ?_
    refine dr_iload_n rfl rfl ?_
    exfalso; omega
  · skip
    refine dr_iload_n rfl rfl ?_
    refine dr_ldcI rfl ?_
    refine di_icmp_gt rfl rfl (by omega) (by omega) (by omega) (by omega) (fun c3 => ?_) (fun c3 => ?_)
    · skip
      refine dr_iload_n rfl rfl ?_
      refine dr_iload_n rfl rfl ?_
      exfalso; omega
    · skip
      refine dr_iload_n rfl rfl ?_
      exact dr_iret (ty := .int) rfl rfl rfl (by decide) (by decide) ⟨rfl, (a0 + q1), (show 0 ≤ ((a0 + q1)) ∧ ((a0 + q1)) ≤ 900 ∧ a0 + a1 ≤ ((a0 + q1)) ∧ a0 + a2 ≤ ((a0 + q1)) ∧ (((a0 + q1)) = a0 + a1 ∨ ((a0 + q1)) = a0 + a2) by omega), by omega, by omega, rfl⟩
set_option maxHeartbeats 4000000 in
set_option maxRecDepth 100000 in
/-- java/lang/AbstractStringBuilder.newCapacity -/
theorem s_J5_newCapacity_0f7a4 (l : Launch) (hl : l.stackTraces = false) {h0 h : dm_H} (hA : App h0 h) {q b : Nat} {n : Int} {vs : List Value} (hq : h0.length ≤ q) (hb : h0.length ≤ b) (hqb : b ≠ q) (hc : h[q]? = some (1, [.ref b, dI 0, dI 0, dI (n)])) (hv : h[b]? = some (21, vs)) (hn0 : 0 ≤ n) (hnl : n ≤ vs.length) (hnc : (vs.length : Int) ≤ 400) {a1 : Int} (h1a : 1 ≤ a1) (h1b : a1 ≤ 190) (hp0 : (vs.length : Int) < a1) : dm_M l 228 2 0 0 [.ref q, dI (a1)] h (QP h (RI (fun x => 1 ≤ x ∧ x ≤ 400 ∧ a1 ≤ x)) []) := by
  refine dm_M_of dk_228 hl rfl (Nat.le_of_ble_eq_true rfl) ?_
  show dm_W (fun _ _ _ => True) (dm_P (QP h (RI (fun x => 1 ≤ x ∧ x ≤ 400 ∧ a1 ≤ x)) []) 0 0) l 228 2 0 0 0 [some (.ref q), some (dI (a1)), none, none, none, none] [] h 0 0
  refine di_aload_n rfl rfl ?_
  refine dr_getf rfl hc rfl ?_
  refine di_alen (n := List.length vs) rfl hv (Or.inr (Or.inl rfl)) rfl ?_
  refine di_istore_n (ls2 := [some (.ref q), some (dI (a1)), some (dI ((List.length vs : Int))), none, none, none]) rfl rfl rfl ?_
  refine dr_iload_n rfl rfl ?_
  refine di_aload_n rfl rfl ?_
  refine dr_getf rfl hc rfl ?_
  refine dn_shl0 rfl ?_
  refine di_istore_n (ls2 := [some (.ref q), some (dI (a1)), some (dI ((List.length vs : Int))), some (dI (a1)), none, none]) rfl rfl rfl ?_
  refine dr_iload_n rfl rfl ?_
  refine dr_iload_n rfl rfl ?_
  refine di_isub rfl ?_
  refine di_istore (ls2 := [some (.ref q), some (dI (a1)), some (dI ((List.length vs : Int))), some (dI (a1)), some (dI ((a1 - (List.length vs : Int)))), none]) rfl rfl rfl ?_
  refine dr_iload_n rfl rfl ?_
  refine dr_iload rfl rfl ?_
  refine dr_iload_n rfl rfl ?_
  refine di_const rfl ?_
  refine di_aload_n rfl rfl ?_
  refine dr_getf rfl hc rfl ?_
  refine dn_shl0 rfl ?_
  refine di_iadd rfl ?_
  have lt1 := App_lt hc
  have lt2 := App_lt hv
  have le3 := hA.1
  refine dr_stat rfl rfl rfl rfl (s_J8_newLength_cabcc l hl hA (a0 := (List.length vs : Int)) (by omega) (by omega) (a1 := (a1 - (List.length vs : Int))) (by omega) (by omega) (a2 := ((List.length vs : Int) + 2)) (by omega) (by omega) (by omega)) (by decide) (by omega) (by omega) (Nat.le_of_ble_eq_true rfl) (fun Y h9 q9 => absurd q9 (kNP0 Y h9)) (kIP (fun y4 y4f y4a y4b => ?_))
  have y4g : 0 ≤ y4 ∧ y4 ≤ 900 ∧ ((List.length vs : Int)) + ((a1 - (List.length vs : Int))) ≤ y4 ∧ ((List.length vs : Int)) + (((List.length vs : Int) + 2)) ≤ y4 ∧ (y4 = ((List.length vs : Int)) + ((a1 - (List.length vs : Int))) ∨ y4 = ((List.length vs : Int)) + (((List.length vs : Int) + 2))) := y4f
  refine di_istore (ls2 := [some (.ref q), some (dI (a1)), some (dI ((List.length vs : Int))), some (dI (a1)), some (dI ((a1 - (List.length vs : Int)))), some (dI (y4))]) rfl rfl rfl ?_
  refine dr_iload rfl rfl ?_
  refine dr_ldcI rfl ?_
  refine di_icmp_ne rfl rfl (by omega) (by omega) (by omega) (by omega) (fun c5 => ?_) (fun c5 => ?_)
  · skip
    refine dr_iload rfl rfl ?_
    refine di_aload_n rfl rfl ?_
    refine dr_getf rfl hc rfl ?_
    refine dn_shr0 rfl ?_
    exact dr_iret (ty := .int) rfl rfl rfl (by decide) (by decide) ⟨rfl, y4, (show 1 ≤ (y4) ∧ (y4) ≤ 400 ∧ a1 ≤ (y4) by omega), by omega, by omega, rfl⟩
  · skip
    exfalso; omega
set_option maxHeartbeats 4000000 in
set_option maxRecDepth 100000 in
/-- java/util/Arrays.copyOf -/
theorem s_J7_copyOf_9075b (l : Launch) (hl : l.stackTraces = false) {h0 h : dm_H} (hA : App h0 h) {b0 : Nat} {v0 : List Value} (hv0 : h[b0]? = some (21, v0)) (hl0 : (v0.length : Int) ≤ 400) {a1 : Int} (h1a : 0 ≤ a1) (h1b : a1 ≤ 400) (hp0 : (v0.length : Int) < a1) : dm_M l 275 1 1 400 [.ref b0, dI (a1)] h (QB h0 (a1)) := by
  refine dm_M_of dk_275 hl rfl (Nat.le_of_ble_eq_true rfl) ?_
  show dm_W (fun _ _ _ => True) (dm_P (QB h0 (a1)) 1 400) l 275 1 1 400 0 [some (.ref b0), some (dI (a1)), none] [] h 0 0
  refine dr_iload_n rfl rfl ?_
  refine di_aload_n rfl rfl ?_
  refine di_alen (n := List.length v0) rfl hv0 (Or.inr (Or.inl rfl)) rfl ?_
  refine di_icmp_ne rfl rfl (by omega) (by omega) (by omega) (by omega) (fun c1 => ?_) (fun c1 => ?_)
  · skip
    refine dr_iload_n rfl rfl ?_
    obtain ⟨n2, hn2⟩ := Int.eq_ofNat_of_zero_le (show 0 ≤ (a1 : Int) by omega)
    have n2b : n2 ≤ 400 := by omega
    have lt9 := App_lt hv0
    have le10 := hA.1
    refine pnb rfl hn2 (by omega) (by omega) (by omega) (fun h3 hA4 lt8 vs5 hl6 hc7 => ?_)
    refine dm_cew (ce2 := 1) (sl2 := 400) (by omega) (by omega) ?_
    have hc11 := App_at hA4 hv0
    have hA12 := App_tr hA hA4
    refine di_astore_n (ls2 := [some (.ref b0), some (dI (a1)), some (.ref ((List.length h)))]) rfl rfl rfl ?_
    refine di_aload_n rfl rfl ?_
    refine di_const rfl ?_
    refine di_aload_n rfl rfl ?_
    refine di_const rfl ?_
    refine di_aload_n rfl rfl ?_
    refine di_alen (n := List.length v0) rfl hc11 (Or.inr (Or.inl rfl)) rfl ?_
    refine dr_iload_n rfl rfl ?_
    refine dr_minE rfl (by omega) (by omega) (by omega) (by omega) (by decide) (by omega) (by omega) (Nat.le_of_ble_eq_true rfl) (fun q13 q13e => ?_)
    refine pcs rfl (by decide +kernel) hc11 hc7 (by omega) (by omega) (by omega) (by omega) (by omega) (by decide) (Nat.le_of_ble_eq_true rfl) (by omega) hA12 (fun h14 hA15 le16 us17 hu18 hc19 hk20 => ?_)
    have hc21 := (hk20 b0 (by omega)).trans hc11
    refine di_aload_n rfl rfl ?_
    exact dr_aret rfl rfl (Or.inr ⟨_, rfl⟩) (Or.inl ⟨_, rfl⟩) (by omega) (by omega) ⟨hA15, _, us17, by omega, hc19, by omega, rfl⟩
  · skip
    refine di_aload_n rfl rfl ?_
    exfalso; omega
set_option maxHeartbeats 4000000 in
set_option maxRecDepth 100000 in
/-- java/lang/AbstractStringBuilder.ensureCapacityInternal -/
theorem s_J5_ensureCapacityInternal_d00df (l : Launch) (hl : l.stackTraces = false) {h0 h : dm_H} (hA : App h0 h) {q b : Nat} {n : Int} {vs : List Value} (hq : h0.length ≤ q) (hb : h0.length ≤ b) (hqb : b ≠ q) (hc : h[q]? = some (1, [.ref b, dI 0, dI 0, dI (n)])) (hv : h[b]? = some (21, vs)) (hn0 : 0 ≤ n) (hnl : n ≤ vs.length) (hnc : (vs.length : Int) ≤ 400) {a1 : Int} (h1a : 1 ≤ a1) (h1b : a1 ≤ 190) : dm_M l 227 3 1 400 [.ref q, dI (a1)] h (QT h0 h q (n) (a1) (fun v => v = none)) := by
  refine dm_M_of dk_227 hl rfl (Nat.le_of_ble_eq_true rfl) ?_
  show dm_W (fun _ _ _ => True) (dm_P (QT h0 h q (n) (a1) (fun v => v = none)) 1 400) l 227 3 1 400 0 [some (.ref q), some (dI (a1)), none] [] h 0 0
  refine di_aload_n rfl rfl ?_
  refine dr_getf rfl hc rfl ?_
  refine di_alen (n := List.length vs) rfl hv (Or.inr (Or.inl rfl)) rfl ?_
  refine di_aload_n rfl rfl ?_
  refine dr_getf rfl hc rfl ?_
  refine dn_shr0 rfl ?_
  refine di_istore_n (ls2 := [some (.ref q), some (dI (a1)), some (dI ((List.length vs : Int)))]) rfl rfl rfl ?_
  refine dr_iload_n rfl rfl ?_
  refine dr_iload_n rfl rfl ?_
  refine di_isub rfl ?_
  refine di_if_le rfl rfl (by omega) (by omega) (fun c1 => ?_) (fun c1 => ?_)
  · skip
    have lt2 := App_lt hc
    have lt3 := App_lt hv
    have le4 := hA.1
    exact dr_vret rfl rfl (by omega) (by omega) ⟨hA, by omega, ⟨_, vs, by omega, by omega, hc, hv, by omega, by omega, by omega⟩, rfl⟩
  · skip
    refine di_aload_n rfl rfl ?_
    refine di_aload_n rfl rfl ?_
    refine dr_getf rfl hc rfl ?_
    refine di_aload_n rfl rfl ?_
    refine dr_iload_n rfl rfl ?_
    have lt5 := App_lt hc
    have lt6 := App_lt hv
    have le7 := hA.1
    refine dr_up rfl (by decide +kernel) (by decide +kernel) rfl rfl rfl hc (s_J5_newCapacity_0f7a4 l hl hA (q := q) (b := b) (n := n) (vs := vs) (by omega) (by omega) (by omega) hc hv (by omega) (by omega) (by omega) (a1 := a1) (by omega) (by omega) (by omega)) kNP0 (by decide) (by omega) (by omega) (Nat.le_of_ble_eq_true rfl) (kIP (fun y8 y8f y8a y8b => ?_))
    have y8g : 1 ≤ y8 ∧ y8 ≤ 400 ∧ (a1) ≤ y8 := y8f
    refine di_aload_n rfl rfl ?_
    refine dr_getf rfl hc rfl ?_
    refine dn_shl0 rfl ?_
    have lt9 := App_lt hc
    have lt10 := App_lt hv
    have le11 := hA.1
    refine dr_stat rfl rfl rfl rfl (s_J7_copyOf_9075b l hl App_rf (b0 := b) (v0 := vs) hv (by omega) (a1 := y8) (by omega) (by omega) (by omega)) (by decide) (by omega) (by omega) (Nat.le_of_ble_eq_true rfl) (fun Y h9 q9 => absurd q9 (kQBn Y h9)) (kQB (fun h12 hA13 b14 vs15 hb16 hc17 hn18 => ?_))
    have hn18 : (List.length vs15 : Int) = (y8) := hn18
    have hc19 := App_at hA13 hc
    have hc20 := App_at hA13 hv
    have hA21 := App_tr hA hA13
    refine pfs rfl hc19 (Nat.le_of_ble_eq_true rfl) rfl (by omega) hA21 (fun h22 hA23 le26 hc24 hk25 => ?_)
    have hc27 := (hk25 b (by omega)).trans hc20
    have hc28 := (hk25 b14 (by omega)).trans hc17
    have lt29 := App_lt hc27
    have lt30 := App_lt hc28
    have lt31 := App_lt hc24
    have le32 := hA23.1
    exact dr_vret rfl rfl (by omega) (by omega) ⟨hA23, by omega, ⟨_, vs15, by omega, by omega, hc24, hc28, by omega, by omega, by omega⟩, rfl⟩
set_option maxHeartbeats 4000000 in
set_option maxRecDepth 100000 in
/-- java/lang/AbstractStringBuilder.append -/
theorem s_J5_append_3fe6f (l : Launch) (hl : l.stackTraces = false) {h0 h : dm_H} (hA : App h0 h) {q b : Nat} {n : Int} {vs : List Value} (hq : h0.length ≤ q) (hb : h0.length ≤ b) (hqb : b ≠ q) (hc : h[q]? = some (1, [.ref b, dI 0, dI 0, dI (n)])) (hv : h[b]? = some (21, vs)) (hn0 : 0 ≤ n) (hnl : n ≤ vs.length) (hnc : (vs.length : Int) ≤ 400) {a1 : Int} (h1a : 0 ≤ a1) (h1b : a1 ≤ 255) (hp0 : n ≤ 180) : dm_M l 232 4 1 400 [.ref q, dI (a1)] h (QT h0 h q (n + 1) (n + 1) (fun v => v = some (.ref q))) := by
  refine dm_M_of dk_232 hl rfl (Nat.le_of_ble_eq_true rfl) ?_
  show dm_W (fun _ _ _ => True) (dm_P (QT h0 h q (n + 1) (n + 1) (fun v => v = some (.ref q))) 1 400) l 232 4 1 400 0 [some (.ref q), some (dI (a1))] [] h 0 0
  refine di_aload_n rfl rfl ?_
  refine di_aload_n rfl rfl ?_
  refine dr_getf rfl hc rfl ?_
  refine di_const rfl ?_
  refine di_iadd rfl ?_
  have lt1 := App_lt hc
  have lt2 := App_lt hv
  have le3 := hA.1
  refine dr_up rfl (by decide +kernel) (by decide +kernel) rfl rfl rfl hc (s_J5_ensureCapacityInternal_d00df l hl hA (q := q) (b := b) (n := n) (vs := vs) (by omega) (by omega) (by omega) hc hv (by omega) (by omega) (by omega) (a1 := (n + 1)) (by omega) (by omega)) kQTn (by decide) (by omega) (by omega) (Nat.le_of_ble_eq_true rfl) (kQT0 (fun h4 hA5 le6 b7 vs8 ht9 ht10 ht11 ht12 ht13 ht14 ht15 => ?_))
  have ht14 : ((n + 1)) ≤ (List.length vs8 : Int) := ht14
  refine di_aload_n rfl rfl ?_
  have lt16 := App_lt ht11
  have lt17 := App_lt ht12
  have le18 := hA5.1
  refine dr_up rfl (by decide +kernel) (by decide +kernel) rfl rfl rfl ht11 (s_J5_isLatin1_aae02 l hl hA5 (q := q) (b := b7) (n := (n)) (vs := vs8) (by omega) (by omega) (by omega) ht11 ht12 (by omega) (by omega) (by omega)) kNP0 (by decide) (by omega) (by omega) (Nat.le_of_ble_eq_true rfl) (kIP (fun y19 y19f y19a y19b => ?_))
  have y19g : 1 ≤ y19 ∧ y19 ≤ 1 := y19f
  refine di_if_eq rfl rfl (by omega) (by omega) (fun c20 => ?_) (fun c20 => ?_)
  · skip
    refine di_aload_n rfl rfl ?_
    have lt21 := App_lt ht11
    have lt22 := App_lt ht12
    have le23 := hA5.1
    refine dr_up rfl (by decide +kernel) (by decide +kernel) rfl rfl rfl ht11 (s_J5_isLatin1_aae02 l hl hA5 (q := q) (b := b7) (n := (n)) (vs := vs8) (by omega) (by omega) (by omega) ht11 ht12 (by omega) (by omega) (by omega)) kNP0 (by decide) (by omega) (by omega) (Nat.le_of_ble_eq_true rfl) (kIP (fun y24 y24f y24a y24b => ?_))
    have y24g : 1 ≤ y24 ∧ y24 ≤ 1 := y24f
    refine di_if_eq rfl rfl (by omega) (by omega) (fun c25 => ?_) (fun c25 => ?_)
    · skip
      refine di_aload_n rfl rfl ?_
      refine dr_getf rfl ht11 rfl ?_
      refine di_aload_n rfl rfl ?_
      refine dr_dup rfl rfl ?_
      refine dr_getf rfl ht11 rfl ?_
      refine dr_dup_x1 rfl rfl rfl ?_
      refine di_const rfl ?_
      refine di_iadd rfl ?_
      refine pfs rfl ht11 (Nat.le_of_ble_eq_true rfl) rfl (by omega) hA5 (fun h26 hA27 le30 hc28 hk29 => ?_)
      have hc31 := (hk29 b7 (by omega)).trans ht12
      refine dr_iload_n rfl rfl ?_
      exfalso; omega
    · skip
      refine di_aload_n rfl rfl ?_
      exfalso; omega
  · skip
    refine dr_iload_n rfl rfl ?_
    have lt32 := App_lt ht11
    have lt33 := App_lt ht12
    have le34 := hA5.1
    refine dr_stat rfl rfl rfl rfl (s_J1_canEncode_fc78d l hl hA5 (a0 := a1) (by omega) (by omega)) (by decide) (by omega) (by omega) (Nat.le_of_ble_eq_true rfl) (fun Y h9 q9 => absurd q9 (kNP0 Y h9)) (kIP (fun y35 y35f y35a y35b => ?_))
    have y35g : 1 ≤ y35 ∧ y35 ≤ 1 := y35f
    refine di_if_eq rfl rfl (by omega) (by omega) (fun c36 => ?_) (fun c36 => ?_)
    · skip
      refine di_aload_n rfl rfl ?_
      have lt37 := App_lt ht11
      have lt38 := App_lt ht12
      have le39 := hA5.1
      refine dr_up rfl (by decide +kernel) (by decide +kernel) rfl rfl rfl ht11 (s_J5_isLatin1_aae02 l hl hA5 (q := q) (b := b7) (n := (n)) (vs := vs8) (by omega) (by omega) (by omega) ht11 ht12 (by omega) (by omega) (by omega)) kNP0 (by decide) (by omega) (by omega) (Nat.le_of_ble_eq_true rfl) (kIP (fun y40 y40f y40a y40b => ?_))
      have y40g : 1 ≤ y40 ∧ y40 ≤ 1 := y40f
      refine di_if_eq rfl rfl (by omega) (by omega) (fun c41 => ?_) (fun c41 => ?_)
      · skip
        refine di_aload_n rfl rfl ?_
        refine dr_getf rfl ht11 rfl ?_
        refine di_aload_n rfl rfl ?_
        refine dr_dup rfl rfl ?_
        refine dr_getf rfl ht11 rfl ?_
        refine dr_dup_x1 rfl rfl rfl ?_
        refine di_const rfl ?_
        refine di_iadd rfl ?_
        refine pfs rfl ht11 (Nat.le_of_ble_eq_true rfl) rfl (by omega) hA5 (fun h42 hA43 le46 hc44 hk45 => ?_)
        have hc47 := (hk45 b7 (by omega)).trans ht12
        refine dr_iload_n rfl rfl ?_
        exfalso; omega
      · skip
        refine di_aload_n rfl rfl ?_
        exfalso; omega
    · skip
      refine di_aload_n rfl rfl ?_
      refine dr_getf rfl ht11 rfl ?_
      refine di_aload_n rfl rfl ?_
      refine dr_dup rfl rfl ?_
      refine dr_getf rfl ht11 rfl ?_
      refine dr_dup_x1 rfl rfl rfl ?_
      refine di_const rfl ?_
      refine di_iadd rfl ?_
      refine pfs rfl ht11 (Nat.le_of_ble_eq_true rfl) rfl (by omega) hA5 (fun h48 hA49 le52 hc50 hk51 => ?_)
      have hc53 := (hk51 b7 (by omega)).trans ht12
      refine dr_iload_n rfl rfl ?_
      refine dn_i2b rfl (fun x54 x54a x54b => ?_)
      refine pbs rfl hc53 (by omega) (by omega) (by omega) hA49 (fun h55 hA56 le61 us57 hu58 hc59 hk60 => ?_)
      have hc62 := (hk60 q (by omega)).trans hc50
      refine dr_goto rfl rfl ?_
      refine di_aload_n rfl rfl ?_
      have lt63 := App_lt hc62
      have lt64 := App_lt hc59
      have le65 := hA56.1
      exact dr_aret rfl rfl (Or.inl ⟨_, rfl⟩) (Or.inl ⟨_, rfl⟩) (by omega) (by omega) ⟨hA56, by omega, ⟨_, us57, by omega, by omega, hc62, hc59, by omega, by omega, by omega⟩, rfl⟩
set_option maxHeartbeats 4000000 in
set_option maxRecDepth 100000 in
/-- java/lang/StringBuilder.append -/
theorem s_J4_append_cf468 (l : Launch) (hl : l.stackTraces = false) {h0 h : dm_H} (hA : App h0 h) {q b : Nat} {n : Int} {vs : List Value} (hq : h0.length ≤ q) (hb : h0.length ≤ b) (hqb : b ≠ q) (hc : h[q]? = some (1, [.ref b, dI 0, dI 0, dI (n)])) (hv : h[b]? = some (21, vs)) (hn0 : 0 ≤ n) (hnl : n ≤ vs.length) (hnc : (vs.length : Int) ≤ 400) {a1 : Int} (h1a : 0 ≤ a1) (h1b : a1 ≤ 255) (hp0 : n ≤ 180) : dm_M l 253 5 1 400 [.ref q, dI (a1)] h (QT h0 h q (n + 1) (n + 1) (fun v => v = some (.ref q))) := by
  refine dm_M_of dk_253 hl rfl (Nat.le_of_ble_eq_true rfl) ?_
  show dm_W (fun _ _ _ => True) (dm_P (QT h0 h q (n + 1) (n + 1) (fun v => v = some (.ref q))) 1 400) l 253 5 1 400 0 [some (.ref q), some (dI (a1))] [] h 0 0
  refine di_aload_n rfl rfl ?_
  refine dr_iload_n rfl rfl ?_
  have lt1 := App_lt hc
  have lt2 := App_lt hv
  have le3 := hA.1
  refine dr_sup (wS := 4104) rfl (by decide +kernel) rfl (by decide +kernel) (by decide) rfl rfl rfl hc (s_J5_append_3fe6f l hl hA (q := q) (b := b) (n := n) (vs := vs) (by omega) (by omega) (by omega) hc hv (by omega) (by omega) (by omega) (a1 := a1) (by omega) (by omega) (by omega)) kQTn (by decide) (by omega) (by omega) (Nat.le_of_ble_eq_true rfl) (kQT1 (fun h4 hA5 le6 b7 vs8 ht9 ht10 ht11 ht12 ht13 ht14 ht15 => ?_))
  have ht14 : (n) + 1 ≤ (List.length vs8 : Int) := ht14
  refine dr_pop rfl rfl ?_
  refine di_aload_n rfl rfl ?_
  have lt16 := App_lt ht11
  have lt17 := App_lt ht12
  have le18 := hA5.1
  exact dr_aret rfl rfl (Or.inl ⟨_, rfl⟩) (Or.inl ⟨_, rfl⟩) (by omega) (by omega) ⟨hA5, by omega, ⟨_, vs8, by omega, by omega, ht11, ht12, by omega, by omega, by omega⟩, rfl⟩
set_option maxHeartbeats 4000000 in
set_option maxRecDepth 100000 in
/-- java/lang/Integer.stringSize -/
theorem s_J6_stringSize_0f7a4 (l : Launch) (hl : l.stackTraces = false) {h0 h : dm_H} (hA : App h0 h) {a0 : Int} (h0a : -2147483648 ≤ a0) (h0b : a0 ≤ 2147483647) : dm_M l 239 0 0 0 [dI (a0)] h (QP h (RI (fun x => 1 ≤ x ∧ x ≤ 11 ∧ (0 ≤ a0 → x ≤ 10) ∧ (a0 < 0 → 2 ≤ x) ∧ (-1 ≤ a0 → a0 ≤ 99 → x ≤ 2) ∧ dgz x a0)) []) := by
  refine dm_M_of dk_239 hl rfl (Nat.le_of_ble_eq_true rfl) ?_
  show dm_W (fun _ _ _ => True) (dm_P (QP h (RI (fun x => 1 ≤ x ∧ x ≤ 11 ∧ (0 ≤ a0 → x ≤ 10) ∧ (a0 < 0 → 2 ≤ x) ∧ (-1 ≤ a0 → a0 ≤ 99 → x ≤ 2) ∧ dgz x a0)) []) 0 0) l 239 0 0 0 0 [some (dI (a0)), none, none, none] [] h 0 0
  refine di_const rfl ?_
  refine di_istore_n (ls2 := [some (dI (a0)), some (dI (1)), none, none]) rfl rfl rfl ?_
  refine dr_iload_n rfl rfl ?_
  refine di_if_lt rfl rfl (by omega) (by omega) (fun c1 => ?_) (fun c1 => ?_)
  · skip
    refine di_bipush rfl (by decide) ?_
    refine di_istore_n (ls2 := [some (dI (a0)), some (dI (1)), some (dI ((-10))), none]) rfl rfl rfl ?_
    refine di_const rfl ?_
    refine di_istore_n (ls2 := [some (dI (a0)), some (dI (1)), some (dI ((-10))), some (dI (1))]) rfl rfl rfl ?_
    have L4 : ∀ (n : Nat) (i2 : Int) (i3 : Int), (10 - i3).toNat < n → -10000000000 ≤ i2 → i2 ≤ -10 → 1 ≤ i3 → i3 ≤ 10 → pw (i3) (i2) → (2 ≤ i3 → a0 ≤ -10) → (3 ≤ i3 → a0 ≤ -100) → dm_W (fun _ _ _ => True) (dm_P (QP h (RI (fun x => 1 ≤ x ∧ x ≤ 11 ∧ (0 ≤ a0 → x ≤ 10) ∧ (a0 < 0 → 2 ≤ x) ∧ (-1 ≤ a0 → a0 ≤ 99 → x ≤ 2) ∧ dgz x a0)) []) 0 0) l 239 0 0 0 16 [some (dI (a0)), some (dI (1)), some (dI (i2)), some (dI (i3))] [] h 0 0 := by
      intro n
      induction n with
      | zero => intro i2 i3 hm; exact absurd hm (Nat.not_lt_zero _)
      | succ n ih =>
        intro i2 i3 hm12 hb5 hb6 hb7 hb8 hx9 hx10 hx11
        have ihL4 := ih
        clear ih
        refine dr_iload_n rfl rfl ?_
        have pb9 := pw_b (i := i3) (p := i2) (by assumption)
        refine di_bipush rfl (by decide) ?_
        refine di_icmp_ge rfl rfl (by omega) (by omega) (by omega) (by omega) (fun c13 => ?_) (fun c13 => ?_)
        · skip
          refine di_bipush rfl (by decide) ?_
          refine dr_iload_n rfl rfl ?_
          refine di_iadd rfl ?_
          exact dr_iret (ty := .int) rfl rfl rfl (by decide) (by decide) ⟨rfl, (10 + 1), ⟨by omega, by omega, by omega, by omega, by omega, dgz_n (i := i3) (p := i2) (by assumption) (by omega) (by omega) (by omega)⟩, by omega, by omega, rfl⟩
        · skip
          refine dr_iload_n rfl rfl ?_
          refine dr_iload_n rfl rfl ?_
          refine di_icmp_le rfl rfl (by omega) (by omega) (by omega) (by omega) (fun c14 => ?_) (fun c14 => ?_)
          · skip
            refine di_bipush rfl (by decide) ?_
            refine dr_iload_n rfl rfl ?_
            refine di_imul rfl ?_
            refine di_istore_n (ls2 := [some (dI (a0)), some (dI (1)), some (dI ((10 * i2))), some (dI (i3))]) rfl rfl rfl ?_
            refine di_iinc (ls2 := [some (dI (a0)), some (dI (1)), some (dI ((10 * i2))), some (dI ((i3 + 1)))]) rfl rfl rfl rfl ?_
            refine dr_goto rfl rfl ?_
            exact ihL4 ((10 * i2)) ((i3 + 1)) (by omega) (by omega) (by omega) (by omega) (by omega) (by first | exact pw_1 | exact pw_s (by assumption) (by omega)) (by omega) (by omega) 
          · skip
            refine dr_iload_n rfl rfl ?_
            refine dr_iload_n rfl rfl ?_
            refine di_iadd rfl ?_
            exact dr_iret (ty := .int) rfl rfl rfl (by decide) (by decide) ⟨rfl, (i3 + 1), ⟨by omega, by omega, by omega, by omega, by omega, dgz_n (i := i3) (p := i2) (by assumption) (by omega) (by omega) (by omega)⟩, by omega, by omega, rfl⟩
    exact L4 _ ((-10)) (1) (Nat.lt_succ_self _) (by omega) (by omega) (by omega) (by omega) (by first | exact pw_1 | exact pw_s (by assumption) (by omega)) (by omega) (by omega) 
  · skip
    refine di_const rfl ?_
    refine di_istore_n (ls2 := [some (dI (a0)), some (dI (0)), none, none]) rfl rfl rfl ?_
    refine dr_iload_n rfl rfl ?_
    refine dn_ineg rfl ?_
    refine di_istore_n (ls2 := [some (dI ((-a0))), some (dI (0)), none, none]) rfl rfl rfl ?_
    refine di_bipush rfl (by decide) ?_
    refine di_istore_n (ls2 := [some (dI ((-a0))), some (dI (0)), some (dI ((-10))), none]) rfl rfl rfl ?_
    refine di_const rfl ?_
    refine di_istore_n (ls2 := [some (dI ((-a0))), some (dI (0)), some (dI ((-10))), some (dI (1))]) rfl rfl rfl ?_
    have L17 : ∀ (n : Nat) (i15 : Int) (i16 : Int), (10 - i16).toNat < n → -10000000000 ≤ i15 → i15 ≤ -10 → 1 ≤ i16 → i16 ≤ 10 → pw (i16) (i15) → (2 ≤ i16 → (-a0) ≤ -10) → (3 ≤ i16 → (-a0) ≤ -100) → dm_W (fun _ _ _ => True) (dm_P (QP h (RI (fun x => 1 ≤ x ∧ x ≤ 11 ∧ (0 ≤ a0 → x ≤ 10) ∧ (a0 < 0 → 2 ≤ x) ∧ (-1 ≤ a0 → a0 ≤ 99 → x ≤ 2) ∧ dgz x a0)) []) 0 0) l 239 0 0 0 16 [some (dI ((-a0))), some (dI (0)), some (dI (i15)), some (dI (i16))] [] h 0 0 := by
      intro n
      induction n with
      | zero => intro i15 i16 hm; exact absurd hm (Nat.not_lt_zero _)
      | succ n ih =>
        intro i15 i16 hm25 hb18 hb19 hb20 hb21 hx22 hx23 hx24
        have ihL17 := ih
        clear ih
        refine dr_iload_n rfl rfl ?_
        have pb9 := pw_b (i := i16) (p := i15) (by assumption)
        refine di_bipush rfl (by decide) ?_
        refine di_icmp_ge rfl rfl (by omega) (by omega) (by omega) (by omega) (fun c26 => ?_) (fun c26 => ?_)
        · skip
          refine di_bipush rfl (by decide) ?_
          refine dr_iload_n rfl rfl ?_
          refine di_iadd rfl ?_
          exact dr_iret (ty := .int) rfl rfl rfl (by decide) (by decide) ⟨rfl, (10 + 0), ⟨by omega, by omega, by omega, by omega, by omega, dgz_p (i := i16) (p := i15) (by assumption) (by omega) (by omega) (by omega)⟩, by omega, by omega, rfl⟩
        · skip
          refine dr_iload_n rfl rfl ?_
          refine dr_iload_n rfl rfl ?_
          refine di_icmp_le rfl rfl (by omega) (by omega) (by omega) (by omega) (fun c27 => ?_) (fun c27 => ?_)
          · skip
            refine di_bipush rfl (by decide) ?_
            refine dr_iload_n rfl rfl ?_
            refine di_imul rfl ?_
            refine di_istore_n (ls2 := [some (dI ((-a0))), some (dI (0)), some (dI ((10 * i15))), some (dI (i16))]) rfl rfl rfl ?_
            refine di_iinc (ls2 := [some (dI ((-a0))), some (dI (0)), some (dI ((10 * i15))), some (dI ((i16 + 1)))]) rfl rfl rfl rfl ?_
            refine dr_goto rfl rfl ?_
            exact ihL17 ((10 * i15)) ((i16 + 1)) (by omega) (by omega) (by omega) (by omega) (by omega) (by first | exact pw_1 | exact pw_s (by assumption) (by omega)) (by omega) (by omega) 
          · skip
            refine dr_iload_n rfl rfl ?_
            refine dr_iload_n rfl rfl ?_
            refine di_iadd rfl ?_
            exact dr_iret (ty := .int) rfl rfl rfl (by decide) (by decide) ⟨rfl, (i16 + 0), ⟨by omega, by omega, by omega, by omega, by omega, dgz_p (i := i16) (p := i15) (by assumption) (by omega) (by omega) (by omega)⟩, by omega, by omega, rfl⟩
    exact L17 _ ((-10)) (1) (Nat.lt_succ_self _) (by omega) (by omega) (by omega) (by omega) (by first | exact pw_1 | exact pw_s (by assumption) (by omega)) (by omega) (by omega) 
set_option maxHeartbeats 4000000 in
set_option maxRecDepth 100000 in
/-- java/lang/AbstractStringBuilder.append -/
theorem s_J5_append_c97b9 (l : Launch) (hl : l.stackTraces = false) {h0 h : dm_H} (hA : App h0 h) {q b : Nat} {n : Int} {vs : List Value} (hq : h0.length ≤ q) (hb : h0.length ≤ b) (hqb : b ≠ q) (hc : h[q]? = some (1, [.ref b, dI 0, dI 0, dI (n)])) (hv : h[b]? = some (21, vs)) (hn0 : 0 ≤ n) (hnl : n ≤ vs.length) (hnc : (vs.length : Int) ≤ 400) {a1 : Int} (h1a : -2147483648 ≤ a1) (h1b : a1 ≤ 2147483647) (hp0 : n ≤ 170) : dm_M l 233 4 1 400 [.ref q, dI (a1)] h (QTi h0 h q n a1 (fun v => v = some (.ref q))) := by
  refine dm_M_of dk_233 hl rfl (Nat.le_of_ble_eq_true rfl) ?_
  show dm_W (fun _ _ _ => True) (dm_P (QTi h0 h q n a1 (fun v => v = some (.ref q))) 1 400) l 233 4 1 400 0 [some (.ref q), some (dI (a1)), none, none] [] h 0 0
  refine di_aload_n rfl rfl ?_
  refine dr_getf rfl hc rfl ?_
  refine di_istore_n (ls2 := [some (.ref q), some (dI (a1)), some (dI (n)), none]) rfl rfl rfl ?_
  refine dr_iload_n rfl rfl ?_
  refine dr_iload_n rfl rfl ?_
  have lt1 := App_lt hc
  have lt2 := App_lt hv
  have le3 := hA.1
  refine dr_stat rfl rfl rfl rfl (s_J6_stringSize_0f7a4 l hl hA (a0 := a1) (by omega) (by omega)) (by decide) (by omega) (by omega) (Nat.le_of_ble_eq_true rfl) (fun Y h9 q9 => absurd q9 (kNP0 Y h9)) (kIP (fun y4 y4f y4a y4b => ?_))
  have y4g : 1 ≤ y4 ∧ y4 ≤ 11 ∧ (0 ≤ (a1) → y4 ≤ 10) ∧ ((a1) < 0 → 2 ≤ y4) ∧ (-1 ≤ (a1) → (a1) ≤ 99 → y4 ≤ 2) ∧ dgz y4 (a1) := y4f
  refine di_iadd rfl ?_
  refine di_istore_n (ls2 := [some (.ref q), some (dI (a1)), some (dI (n)), some (dI ((n + y4)))]) rfl rfl rfl ?_
  refine di_aload_n rfl rfl ?_
  refine dr_iload_n rfl rfl ?_
  have lt5 := App_lt hc
  have lt6 := App_lt hv
  have le7 := hA.1
  refine dr_up rfl (by decide +kernel) (by decide +kernel) rfl rfl rfl hc (s_J5_ensureCapacityInternal_d00df l hl hA (q := q) (b := b) (n := n) (vs := vs) (by omega) (by omega) (by omega) hc hv (by omega) (by omega) (by omega) (a1 := (n + y4)) (by omega) (by omega)) kQTn (by decide) (by omega) (by omega) (Nat.le_of_ble_eq_true rfl) (kQT0 (fun h8 hA9 le10 b11 vs12 ht13 ht14 ht15 ht16 ht17 ht18 ht19 => ?_))
  have ht18 : ((n + y4)) ≤ (List.length vs12 : Int) := ht18
  refine di_aload_n rfl rfl ?_
  have lt20 := App_lt ht15
  have lt21 := App_lt ht16
  have le22 := hA9.1
  refine dr_up rfl (by decide +kernel) (by decide +kernel) rfl rfl rfl ht15 (s_J5_isLatin1_aae02 l hl hA9 (q := q) (b := b11) (n := (n)) (vs := vs12) (by omega) (by omega) (by omega) ht15 ht16 (by omega) (by omega) (by omega)) kNP0 (by decide) (by omega) (by omega) (Nat.le_of_ble_eq_true rfl) (kIP (fun y23 y23f y23a y23b => ?_))
  have y23g : 1 ≤ y23 ∧ y23 ≤ 1 := y23f
  refine di_if_eq rfl rfl (by omega) (by omega) (fun c24 => ?_) (fun c24 => ?_)
  · skip
    refine dr_iload_n rfl rfl ?_
    refine dr_iload_n rfl rfl ?_
    refine dr_iload_n rfl rfl ?_
    refine di_aload_n rfl rfl ?_
    refine dr_getf rfl ht15 rfl ?_
    exfalso; omega
  · skip
    refine dr_iload_n rfl rfl ?_
    refine dr_iload_n rfl rfl ?_
    refine di_aload_n rfl rfl ?_
    refine dr_getf rfl ht15 rfl ?_
    have lt28 := App_lt ht15
    have lt29 := App_lt ht16
    have le30 := hA9.1
    refine dr_stat rfl rfl rfl rfl (s_J6_getChars_ba4f3 l hl (a0 := a1) (a1 := (n + y4)) (sz := y4) (by omega) (by omega) (by omega) ht16 (by omega) (by omega) (by omega) y4g.2.2.2.2.2) (by decide) (by omega) (by omega) (Nat.le_of_ble_eq_true rfl) kQGN (kQG (fun us25 hu26 x27 => ?_))
    have hA31 : App h0 (h8.set b11 (21, us25)) := ⟨by rw [List.length_set]; exact hA9.1, fun j hj => by rw [List.getElem?_set, if_neg (by omega)]; exact hA9.2 j hj⟩
    have ln32 : (List.length (h8.set b11 (21, us25))) = List.length h8 := List.length_set
    have hc33 := (show (h8.set b11 (21, us25))[q]? = h8[q]? from by rw [List.getElem?_set, if_neg (by omega)]).trans ht15
    have hc34 := st_at (x := (21, us25)) ht16
    refine dr_pop rfl rfl ?_
    refine dr_goto rfl rfl ?_
    refine di_aload_n rfl rfl ?_
    refine dr_iload_n rfl rfl ?_
    refine pfs rfl hc33 (Nat.le_of_ble_eq_true rfl) rfl (by omega) hA31 (fun h35 hA36 le39 hc37 hk38 => ?_)
    have hc40 := (hk38 b11 (by omega)).trans hc34
    refine di_aload_n rfl rfl ?_
    have lt41 := App_lt hc40
    have lt42 := App_lt hc37
    have le43 := hA36.1
    exact dr_aret rfl rfl (Or.inl ⟨_, rfl⟩) (Or.inl ⟨_, rfl⟩) (by omega) (by omega) ⟨(n + y4), by omega, by omega, by omega, hA36, by omega, ⟨_, us25, by omega, by omega, hc37, hc40, by omega, by omega, by omega⟩, rfl⟩
set_option maxHeartbeats 4000000 in
set_option maxRecDepth 100000 in
/-- java/lang/StringBuilder.append -/
theorem s_J4_append_bf812 (l : Launch) (hl : l.stackTraces = false) {h0 h : dm_H} (hA : App h0 h) {q b : Nat} {n : Int} {vs : List Value} (hq : h0.length ≤ q) (hb : h0.length ≤ b) (hqb : b ≠ q) (hc : h[q]? = some (1, [.ref b, dI 0, dI 0, dI (n)])) (hv : h[b]? = some (21, vs)) (hn0 : 0 ≤ n) (hnl : n ≤ vs.length) (hnc : (vs.length : Int) ≤ 400) {a1 : Int} (h1a : -2147483648 ≤ a1) (h1b : a1 ≤ 2147483647) (hp0 : n ≤ 170) : dm_M l 254 5 1 400 [.ref q, dI (a1)] h (QTi h0 h q n a1 (fun v => v = some (.ref q))) := by
  refine dm_M_of dk_254 hl rfl (Nat.le_of_ble_eq_true rfl) ?_
  show dm_W (fun _ _ _ => True) (dm_P (QTi h0 h q n a1 (fun v => v = some (.ref q))) 1 400) l 254 5 1 400 0 [some (.ref q), some (dI (a1))] [] h 0 0
  refine di_aload_n rfl rfl ?_
  refine dr_iload_n rfl rfl ?_
  have lt1 := App_lt hc
  have lt2 := App_lt hv
  have le3 := hA.1
  refine dr_sup (wS := 4104) rfl (by decide +kernel) rfl (by decide +kernel) (by decide) rfl rfl rfl hc (s_J5_append_c97b9 l hl hA (q := q) (b := b) (n := n) (vs := vs) (by omega) (by omega) (by omega) hc hv (by omega) (by omega) (by omega) (a1 := a1) (by omega) (by omega) (by omega)) kQTin (by decide) (by omega) (by omega) (Nat.le_of_ble_eq_true rfl) (kQTi (fun n4 hn5 hn6 hn7 h8 hA9 le10 b11 vs12 ht13 ht14 ht15 ht16 ht17 ht18 ht19 => ?_))
  refine dr_pop rfl rfl ?_
  refine di_aload_n rfl rfl ?_
  have lt20 := App_lt ht15
  have lt21 := App_lt ht16
  have le22 := hA9.1
  exact dr_aret rfl rfl (Or.inl ⟨_, rfl⟩) (Or.inl ⟨_, rfl⟩) (by omega) (by omega) ⟨n4, by omega, by omega, by omega, hA9, by omega, ⟨_, vs12, by omega, by omega, ht15, ht16, by omega, by omega, by omega⟩, rfl⟩
/-! ===== on a StringBuilder, what its superclass declares and it answers itself ===== -/
section DPO
variable {E : dm_Ex} {P : dm_Po} {l : Launch} {z d MC MS pc ce sl : Nat} {ls : List (Option Value)} {st : List Value} {h : dm_H}
theorem dr_ov {idx z2 z3 w1 w2 w3 w4 w5 w6 w7 wS wI wi wc d2 mc2 ms2 n k k3 i : Nat} {av rest vs : List Value} {Q2 : dm_Rs} (hi : dm_at z pc = some (.invokevirtual idx, 3, [z2, 9, w1, w2, w3, w4, w5, w6, w7])) (hR : dp_y z z2 idx w1 w2 w4 w5 w6 = true) (hsel : dm_g wS (.selects "java/lang/StringBuilder" (dm_m z2).1 (dm_m z3).1) = true) (hin : dm_g wI (.instanceMethod (dm_m z3).1) = true) (hY : dm_okY z3 wi wc = true)
    (hnr : dm_nr[z2]? = some (n, k)) (hnr3 : dm_nr[z3]? = some (n, k3)) (hh2 : (dm_m z2).2.2.2.2 = []) (hh3 : (dm_m z3).2.2.2.2 = []) (hsp : dm_split n st [] = some (av, .ref i :: rest)) (hob : h[i]? = some (1, vs)) (hM : dm_M l z3 d2 mc2 ms2 (.ref i :: av) h Q2) (hno : ∀ X h', ¬ Q2 (.inr X) h')
    (hd2 : d2 < d) (hc : ce + mc2 ≤ MC) (hs : sl + ms2 ≤ MS) (hr : dm_sum rest ≤ 8)
    (kk : ∀ (v : Option Value) (h' : dm_H), Q2 (.inl v) h' → dm_W E P l z d MC MS (pc + 3) ls (v.toList ++ rest) h' (ce + mc2) (sl + ms2)) : dm_W E P l z d MC MS pc ls st h ce sl := by
  intro p e s m args below meth c D g tys L0 L ws A H locs lsC stC hK hw hls hst
  obtain ⟨hok, hst9, hx, hb, hre, hml, hown, hts, hS9, hlk, htb, hnm, hA, hE⟩ := id hK
  obtain ⟨hle, hKK, hP, hD, hS, hh0⟩ := id hw
  obtain ⟨hd, -⟩ := dm_ok_at hok hi
  unfold dp_y at hR
  simp only [Bool.and_eq_true] at hR
  obtain ⟨⟨⟨r1, r2⟩, r3⟩, r4⟩ := hR
  obtain ⟨y1, y2, y3, y4, y5, y6⟩ := dm_okY_use hts r4 hnr
  obtain ⟨x1, x2, x3, x4, x5, x6⟩ := dm_okY_use hts hY hnr3
  obtain ⟨avC, restC0, rfl, ha, hrs0, hlen⟩ := dm_args hsp hst
  obtain ⟨y9, restC, rfl, ⟨a, hia, rfl⟩, hrs⟩ := dm_st_cons hrs0
  have hsz : lsC.size = (dm_m z).2.2.1 := by obtain ⟨lv, k1, -, -⟩ := hls; exact k1.1
  rw [dm_cw0 hh2] at y2
  rw [dm_cw0 hh3] at x2
  obtain ⟨a', fs, g1, g2, g3, g4⟩ := dm_obj hh0 hob (by decide)
  cases hia.symm.trans g1
  obtain ⟨cb, b1, b2, b3⟩ := va_recv hKK hP (ci := 1) rfl g2
  have hdecl : va_Decl s ⟨(dm_m z2).1.cls, (dm_m z2).1.name, (dm_m z2).1.desc⟩ := va_Decl.of (hts _ (dm_g_mem r3)) (hts _ y2)
  have base : ((dm_R d2 mc2 ms2).cells = mc2 ∧ (dm_R d2 mc2 ms2).slots = ms2 ∧ (dm_R d2 mc2 ms2).frames + 1 ≤ (dm_R d MC MS).frames ∧ 8 + ((dm_m z3).2.2.1 + 11) + (dm_R d2 mc2 ms2).locals ≤ (dm_R d MC MS).locals ∧ (∀ w ∈ dm_ws z3, ∀ (a' : Array Value) (U : State), s.WarmedH U.vm → w.before a' U = true) ∧ Cond.code (dm_m z3).1 (dm_m z3).2.1 (dm_m z3).2.2.1 (dm_m z3).2.2.2.1 ∈ dm_ws z3) :=
    ⟨rfl, rfl, by show 4 * d2 + 368 + 1 ≤ 4 * d + 368; omega, by show 8 + ((dm_m z3).2.2.1 + 11) + 200 * d2 ≤ 200 * d; omega, x6, by rw [dm_ws, dm_cw0 hh3]; exact List.mem_cons_self⟩
  exact dm_fin (dm_ofMet (va_runU (As := avC) (bytes := (dm_m z3).2.1) (maxL := (dm_m z3).2.2.1) (ret := (dm_m z3).2.2.2.1) (C := "java/lang/StringBuilder") ⟨hx, hb, hml, hown, hts⟩ (dm_met hM hno hh0 (avC := .ref a :: avC) ⟨⟨a, hia, rfl⟩, ha⟩)
    ⟨base, hts _ x2, x1, y3, y5, hts _ (dm_g_mem r1), hts _ (dm_g_mem r2), hdecl, hts _ (dm_g_mem hsel), hts _ (dm_g_mem hin)⟩
    ⟨dm_blind, ⟨cb, b1, b2, b3⟩, dm_pre hS9 hKK hP hD hS hA (.ref a :: avC)⟩ rfl hlen hsz rfl (lv_room (by rw [dm_st_sum hrs]; exact hr)) hd ⟨hc, hs⟩)) hK hw hls hrs (fun X h' q => absurd q (hno X h')) kk
end DPO
set_option maxHeartbeats 4000000 in
set_option maxRecDepth 100000 in
/-- java/lang/StringBuilder.length -/
theorem s_J4_length_8abf5 (l : Launch) (hl : l.stackTraces = false) {h0 h : dm_H} (hA : App h0 h) {q b : Nat} {n : Int} {vs : List Value} (hq : h0.length ≤ q) (hb : h0.length ≤ b) (hqb : b ≠ q) (hc : h[q]? = some (1, [.ref b, dI 0, dI 0, dI (n)])) (hv : h[b]? = some (21, vs)) (hn0 : 0 ≤ n) (hnl : n ≤ vs.length) (hnc : (vs.length : Int) ≤ 400) : dm_M l 256 1 0 0 [.ref q] h (QP h (RI (fun x => -2147483648 ≤ x ∧ x ≤ 2147483647 ∧ x = n)) []) := by
  refine dm_M_of dk_256 hl rfl (Nat.le_of_ble_eq_true rfl) ?_
  show dm_W (fun _ _ _ => True) (dm_P (QP h (RI (fun x => -2147483648 ≤ x ∧ x ≤ 2147483647 ∧ x = n)) []) 0 0) l 256 1 0 0 0 [some (.ref q)] [] h 0 0
  refine di_aload_n rfl rfl ?_
  have lt1 := App_lt hc
  have lt2 := App_lt hv
  have le3 := hA.1
  refine dr_sup (wS := 4104) rfl (by decide +kernel) rfl (by decide +kernel) (by decide) rfl rfl rfl hc (s_J5_length_8abf5 l hl hA (q := q) (b := b) (n := n) (vs := vs) (by omega) (by omega) (by omega) hc hv (by omega) (by omega) (by omega)) kNP0 (by decide) (by omega) (by omega) (Nat.le_of_ble_eq_true rfl) (kIP (fun y4 y4f y4a y4b => ?_))
  have y4g : -2147483648 ≤ y4 ∧ y4 ≤ 2147483647 ∧ y4 = (n) := y4f
  exact dr_iret (ty := .int) rfl rfl rfl (by decide) (by decide) ⟨rfl, y4, (show -2147483648 ≤ (y4) ∧ (y4) ≤ 2147483647 ∧ (y4) = n by omega), by omega, by omega, rfl⟩
set_option maxHeartbeats 4000000 in
set_option maxRecDepth 100000 in
/-- java/util/Arrays.checkLength -/
theorem s_J7_checkLength_df160 (l : Launch) (hl : l.stackTraces = false) {h0 h : dm_H} (hA : App h0 h) {a0 : Int} (h0a : 0 ≤ a0) (h0b : a0 ≤ 0) {a1 : Int} (h1a : 0 ≤ a1) (h1b : a1 ≤ 400) : dm_M l 276 0 0 0 [dI (a0), dI (a1)] h (QP h RV []) := by
  refine dm_M_of dk_276 hl rfl (Nat.le_of_ble_eq_true rfl) ?_
  show dm_W (fun _ _ _ => True) (dm_P (QP h RV []) 0 0) l 276 0 0 0 0 [some (dI (a0)), some (dI (a1))] [] h 0 0
  refine dr_iload_n rfl rfl ?_
  refine dr_iload_n rfl rfl ?_
  refine di_icmp_ge rfl rfl (by omega) (by omega) (by omega) (by omega) (fun c1 => ?_) (fun c1 => ?_)
  · skip
    exact dr_vret rfl rfl (by decide) (by decide) ⟨rfl, rfl⟩
  · skip
    exfalso; omega
set_option maxHeartbeats 4000000 in
set_option maxRecDepth 100000 in
/-- java/util/Arrays.copyOfRangeByte -/
theorem s_J7_copyOfRangeByte_39247 (l : Launch) (hl : l.stackTraces = false) {h0 h : dm_H} (hA : App h0 h) {b0 : Nat} {v0 : List Value} (hv0 : h[b0]? = some (21, v0)) (hl0 : (v0.length : Int) ≤ 400) {a1 : Int} (h1a : 0 ≤ a1) (h1b : a1 ≤ 0) {a2 : Int} (h2a : 0 ≤ a2) (h2b : a2 ≤ 400) (hp0 : a2 ≤ (v0.length : Int)) : dm_M l 278 2 1 400 [.ref b0, dI (a1), dI (a2)] h (QB h0 (a2)) := by
  refine dm_M_of dk_278 hl rfl (Nat.le_of_ble_eq_true rfl) ?_
  show dm_W (fun _ _ _ => True) (dm_P (QB h0 (a2)) 1 400) l 278 2 1 400 0 [some (.ref b0), some (dI (a1)), some (dI (a2)), none, none] [] h 0 0
  refine dr_iload_n rfl rfl ?_
  refine dr_iload_n rfl rfl ?_
  have lt1 := App_lt hv0
  have le2 := hA.1
  refine dr_stat rfl rfl rfl rfl (s_J7_checkLength_df160 l hl hA (a0 := a1) (by omega) (by omega) (a1 := a2) (by omega) (by omega)) (by decide) (by omega) (by omega) (Nat.le_of_ble_eq_true rfl) (fun Y h9 q9 => absurd q9 (kNP0 Y h9)) (kVP ?_)
  refine dr_iload_n rfl rfl ?_
  refine dr_iload_n rfl rfl ?_
  refine di_isub rfl ?_
  refine di_istore_n (ls2 := [some (.ref b0), some (dI (a1)), some (dI (a2)), some (dI ((a2 - a1))), none]) rfl rfl rfl ?_
  refine dr_iload_n rfl rfl ?_
  obtain ⟨n3, hn3⟩ := Int.eq_ofNat_of_zero_le (show 0 ≤ ((a2 - a1) : Int) by omega)
  have n3b : n3 ≤ 400 := by omega
  have lt10 := App_lt hv0
  have le11 := hA.1
  refine pnb rfl hn3 (by omega) (by omega) (by omega) (fun h4 hA5 lt9 vs6 hl7 hc8 => ?_)
  refine dm_cew (ce2 := 1) (sl2 := 400) (by omega) (by omega) ?_
  have hc12 := App_at hA5 hv0
  have hA13 := App_tr hA hA5
  refine di_astore (ls2 := [some (.ref b0), some (dI (a1)), some (dI (a2)), some (dI ((a2 - a1))), some (.ref ((List.length h)))]) rfl rfl rfl ?_
  refine di_aload_n rfl rfl ?_
  refine dr_iload_n rfl rfl ?_
  refine di_aload rfl rfl ?_
  refine di_const rfl ?_
  refine di_aload_n rfl rfl ?_
  refine di_alen (n := List.length v0) rfl hc12 (Or.inr (Or.inl rfl)) rfl ?_
  refine dr_iload_n rfl rfl ?_
  refine di_isub rfl ?_
  refine dr_iload_n rfl rfl ?_
  refine dr_minE rfl (by omega) (by omega) (by omega) (by omega) (by decide) (by omega) (by omega) (Nat.le_of_ble_eq_true rfl) (fun q14 q14e => ?_)
  refine pcs rfl (by decide +kernel) hc12 hc8 (by omega) (by omega) (by omega) (by omega) (by omega) (by decide) (Nat.le_of_ble_eq_true rfl) (by omega) hA13 (fun h15 hA16 le17 us18 hu19 hc20 hk21 => ?_)
  have hc22 := (hk21 b0 (by omega)).trans hc12
  refine di_aload rfl rfl ?_
  exact dr_aret rfl rfl (Or.inr ⟨_, rfl⟩) (Or.inl ⟨_, rfl⟩) (by omega) (by omega) ⟨hA16, _, us18, by omega, hc20, by omega, rfl⟩
set_option maxHeartbeats 4000000 in
set_option maxRecDepth 100000 in
/-- java/util/Arrays.copyOfRange -/
theorem s_J7_copyOfRange_39247 (l : Launch) (hl : l.stackTraces = false) {h0 h : dm_H} (hA : App h0 h) {b0 : Nat} {v0 : List Value} (hv0 : h[b0]? = some (21, v0)) (hl0 : (v0.length : Int) ≤ 400) {a1 : Int} (h1a : 0 ≤ a1) (h1b : a1 ≤ 0) {a2 : Int} (h2a : 0 ≤ a2) (h2b : a2 ≤ 400) (hp0 : a2 ≤ (v0.length : Int)) : dm_M l 277 3 1 400 [.ref b0, dI (a1), dI (a2)] h (QB h0 (a2)) := by
  refine dm_M_of dk_277 hl rfl (Nat.le_of_ble_eq_true rfl) ?_
  show dm_W (fun _ _ _ => True) (dm_P (QB h0 (a2)) 1 400) l 277 3 1 400 0 [some (.ref b0), some (dI (a1)), some (dI (a2))] [] h 0 0
  refine dr_iload_n rfl rfl ?_
  refine di_if_ne rfl rfl (by omega) (by omega) (fun c1 => ?_) (fun c1 => ?_)
  · skip
    refine di_aload_n rfl rfl ?_
    refine dr_iload_n rfl rfl ?_
    refine dr_iload_n rfl rfl ?_
    have lt2 := App_lt hv0
    have le3 := hA.1
    refine dr_stat rfl rfl rfl rfl (s_J7_copyOfRangeByte_39247 l hl App_rf (b0 := b0) (v0 := v0) hv0 (by omega) (a1 := a1) (by omega) (by omega) (a2 := a2) (by omega) (by omega) (by omega)) (by decide) (by omega) (by omega) (Nat.le_of_ble_eq_true rfl) (fun Y h9 q9 => absurd q9 (kQBn Y h9)) (kQB (fun h4 hA5 b6 vs7 hb8 hc9 hn10 => ?_))
    have hn10 : (List.length vs7 : Int) = (a2) := hn10
    have hc11 := App_at hA5 hv0
    have hA12 := App_tr hA hA5
    exact dr_aret rfl rfl (Or.inr ⟨_, rfl⟩) (Or.inl ⟨_, rfl⟩) (by omega) (by omega) ⟨hA12, _, vs7, by omega, hc9, by omega, rfl⟩
  · skip
    refine dr_iload_n rfl rfl ?_
    refine di_aload_n rfl rfl ?_
    refine di_alen (n := List.length v0) rfl hv0 (Or.inr (Or.inl rfl)) rfl ?_
    refine di_icmp_eq rfl rfl (by omega) (by omega) (by omega) (by omega) (fun c13 => ?_) (fun c13 => ?_)
    · skip
      refine di_aload_n rfl rfl ?_
      have lt18 := App_lt hv0
      have le19 := hA.1
      refine pcl rfl (by decide +kernel) hv0 (by decide) (Nat.le_of_ble_eq_true rfl) (by omega) (by omega) (fun h14 hA15 lt16 hc17 => ?_)
      refine dm_cew (ce2 := 1) (sl2 := 400) (by omega) (by omega) ?_
      have hc20 := App_at hA15 hv0
      have hA21 := App_tr hA hA15
      refine dr_castB (w := 4138) rfl (by decide +kernel) hc17 ?_
      exact dr_aret rfl rfl (Or.inr ⟨_, rfl⟩) (Or.inl ⟨_, rfl⟩) (by omega) (by omega) ⟨hA21, _, v0, by omega, hc17, by omega, rfl⟩
    · skip
      refine di_aload_n rfl rfl ?_
      refine dr_iload_n rfl rfl ?_
      refine dr_iload_n rfl rfl ?_
      have lt22 := App_lt hv0
      have le23 := hA.1
      refine dr_stat rfl rfl rfl rfl (s_J7_copyOfRangeByte_39247 l hl App_rf (b0 := b0) (v0 := v0) hv0 (by omega) (a1 := a1) (by omega) (by omega) (a2 := a2) (by omega) (by omega) (by omega)) (by decide) (by omega) (by omega) (Nat.le_of_ble_eq_true rfl) (fun Y h9 q9 => absurd q9 (kQBn Y h9)) (kQB (fun h24 hA25 b26 vs27 hb28 hc29 hn30 => ?_))
      have hn30 : (List.length vs27 : Int) = (a2) := hn30
      have hc31 := App_at hA25 hv0
      have hA32 := App_tr hA hA25
      exact dr_aret rfl rfl (Or.inr ⟨_, rfl⟩) (Or.inl ⟨_, rfl⟩) (by omega) (by omega) ⟨hA32, _, vs27, by omega, hc29, by omega, rfl⟩
set_option maxHeartbeats 4000000 in
set_option maxRecDepth 100000 in
/-- java/lang/AbstractStringBuilder.getValue -/
theorem s_J5_getValue_6d5f1 (l : Launch) (hl : l.stackTraces = false) {h0 h : dm_H} (hA : App h0 h) {q b : Nat} {n : Int} {vs : List Value} (hq : h0.length ≤ q) (hb : h0.length ≤ b) (hqb : b ≠ q) (hc : h[q]? = some (1, [.ref b, dI 0, dI 0, dI (n)])) (hv : h[b]? = some (21, vs)) (hn0 : 0 ≤ n) (hnl : n ≤ vs.length) (hnc : (vs.length : Int) ≤ 400) : dm_M l 234 0 0 0 [.ref q] h (QP h (fun v => v = some (.ref b)) []) := by
  refine dm_M_of dk_234 hl rfl (Nat.le_of_ble_eq_true rfl) ?_
  show dm_W (fun _ _ _ => True) (dm_P (QP h (fun v => v = some (.ref b)) []) 0 0) l 234 0 0 0 0 [some (.ref q)] [] h 0 0
  refine di_aload_n rfl rfl ?_
  refine dr_getf rfl hc rfl ?_
  exact dr_aret rfl rfl (by first | exact Or.inl ⟨_, rfl⟩ | exact Or.inr ⟨_, rfl⟩) (Or.inl ⟨_, rfl⟩) (by omega) (by omega) ⟨rfl, rfl⟩
set_option maxHeartbeats 4000000 in
set_option maxRecDepth 100000 in
/-- java/lang/String.<init> -/
theorem s_J0_init_db425 (l : Launch) (hl : l.stackTraces = false) {h0 h : dm_H} (hA : App h0 h) {q b : Nat} {n : Int} {vs : List Value} (hq : h0.length ≤ q) (hb : h0.length ≤ b) (hqb : b ≠ q) (hc : h[q]? = some (1, [.ref b, dI 0, dI 0, dI (n)])) (hv : h[b]? = some (21, vs)) (hn0 : 0 ≤ n) (hnl : n ≤ vs.length) (hnc : (vs.length : Int) ≤ 400) {p9 : Nat} (hp9 : h0.length ≤ p9) (hpq : p9 ≠ q) (hpb : p9 ≠ b) (hs9 : h[p9]? = some (0, [.null, dI 0, dI 0, dI 0])) : dm_M l 246 4 1 400 [.ref p9, .ref q, .null] h (QN0 h0 h) := by
  refine dm_M_of dk_246 hl rfl (Nat.le_of_ble_eq_true rfl) ?_
  show dm_W (fun _ _ _ => True) (dm_P (QN0 h0 h) 1 400) l 246 4 1 400 0 [some (.ref p9), some (.ref q), some (.null), none, none] [] h 0 0
  refine di_aload_n rfl rfl ?_
  refine dr_oinit rfl (by decide) (Nat.le_of_ble_eq_true rfl) ?_
  refine di_aload_n rfl rfl ?_
  have lt1 := App_lt hs9
  have lt2 := App_lt hc
  have lt3 := App_lt hv
  have le4 := hA.1
  refine dr_up rfl (by decide +kernel) (by decide +kernel) rfl rfl rfl hc (s_J5_getValue_6d5f1 l hl hA (q := q) (b := b) (n := n) (vs := vs) (by omega) (by omega) (by omega) hc hv (by omega) (by omega) (by omega)) kNP0 (by decide) (by omega) (by omega) (Nat.le_of_ble_eq_true rfl) (kQV ?_)
  refine di_astore_n (ls2 := [some (.ref p9), some (.ref q), some (.null), some (.ref b), none]) rfl rfl rfl ?_
  refine di_aload_n rfl rfl ?_
  have lt5 := App_lt hs9
  have lt6 := App_lt hc
  have lt7 := App_lt hv
  have le8 := hA.1
  refine dr_ov (z3 := 256) (wS := 5014) (wI := 5015) (wi := 1017) (wc := 5016) rfl (by decide +kernel) (by decide +kernel) (by decide +kernel) (by decide +kernel) rfl rfl rfl rfl rfl hc (s_J4_length_8abf5 l hl hA (q := q) (b := b) (n := n) (vs := vs) (by omega) (by omega) (by omega) hc hv (by omega) (by omega) (by omega)) kNP0 (by decide) (by omega) (by omega) (Nat.le_of_ble_eq_true rfl) (kIP (fun y9 y9f y9a y9b => ?_))
  have y9g : -2147483648 ≤ y9 ∧ y9 ≤ 2147483647 ∧ y9 = (n) := y9f
  refine di_istore (ls2 := [some (.ref p9), some (.ref q), some (.null), some (.ref b), some (dI (y9))]) rfl rfl rfl ?_
  refine di_aload_n rfl rfl ?_
  have lt10 := App_lt hs9
  have lt11 := App_lt hc
  have lt12 := App_lt hv
  have le13 := hA.1
  refine dr_up rfl (by decide +kernel) (by decide +kernel) rfl rfl rfl hc (s_J5_isLatin1_aae02 l hl hA (q := q) (b := b) (n := n) (vs := vs) (by omega) (by omega) (by omega) hc hv (by omega) (by omega) (by omega)) kNP0 (by decide) (by omega) (by omega) (Nat.le_of_ble_eq_true rfl) (kIP (fun y14 y14f y14a y14b => ?_))
  have y14g : 1 ≤ y14 ∧ y14 ≤ 1 := y14f
  refine di_if_eq rfl rfl (by omega) (by omega) (fun c15 => ?_) (fun c15 => ?_)
  · skip
    refine dr_getsC rfl (by decide +kernel) ?_
    refine di_if_eq rfl rfl (by omega) (by omega) (fun c16 => ?_) (fun c16 => ?_)
    · skip
      refine di_aload_n rfl rfl ?_
      refine di_const rfl ?_
      refine pfs rfl hs9 (Nat.le_of_ble_eq_true rfl) rfl (by omega) hA (fun h17 hA18 le21 hc19 hk20 => ?_)
      have hc22 := (hk20 q (by omega)).trans hc
      have hc23 := (hk20 b (by omega)).trans hv
      refine di_aload_n rfl rfl ?_
      refine di_aload_n rfl rfl ?_
      refine di_const rfl ?_
      refine dr_iload rfl rfl ?_
      refine di_const rfl ?_
      refine du_ishl rfl (fun u24 u24a u24b => ?_)
      have lt25 := App_lt hc22
      have lt26 := App_lt hc23
      have lt27 := App_lt hc19
      have le28 := hA18.1
      refine dr_stat rfl rfl rfl rfl (s_J7_copyOfRange_39247 l hl App_rf (b0 := b) (v0 := vs) hc23 (by omega) (a1 := 0) (by omega) (by omega) (a2 := u24) (by omega) (by omega) (by omega)) (by decide) (by omega) (by omega) (Nat.le_of_ble_eq_true rfl) (fun Y h9 q9 => absurd q9 (kQBn Y h9)) (kQB (fun h29 hA30 b31 vs32 hb33 hc34 hn35 => ?_))
      have hn35 : (List.length vs32 : Int) = (u24) := hn35
      have hc36 := App_at hA30 hc22
      have hc37 := App_at hA30 hc23
      have hc38 := App_at hA30 hc19
      have hA39 := App_tr hA18 hA30
      refine pfs rfl hc38 (Nat.le_of_ble_eq_true rfl) rfl (by omega) hA39 (fun h40 hA41 le44 hc42 hk43 => ?_)
      have hc45 := (hk43 q (by omega)).trans hc36
      have hc46 := (hk43 b (by omega)).trans hc37
      have hc47 := (hk43 b31 (by omega)).trans hc34
      have lt48 := App_lt hc45
      have lt49 := App_lt hc46
      have lt50 := App_lt hc47
      have lt51 := App_lt hc42
      have le52 := hA41.1
      exact dr_vret rfl rfl (by omega) (by omega) ⟨hA41, by omega, rfl⟩
    · skip
      refine di_aload_n rfl rfl ?_
      refine dr_getf rfl hc rfl ?_
      refine di_if_eq rfl rfl (by omega) (by omega) (fun c53 => ?_) (fun c53 => ?_)
      · skip
        refine di_aload_n rfl rfl ?_
        refine di_const rfl ?_
        refine pfs rfl hs9 (Nat.le_of_ble_eq_true rfl) rfl (by omega) hA (fun h54 hA55 le58 hc56 hk57 => ?_)
        have hc59 := (hk57 q (by omega)).trans hc
        have hc60 := (hk57 b (by omega)).trans hv
        refine di_aload_n rfl rfl ?_
        refine di_aload_n rfl rfl ?_
        refine di_const rfl ?_
        refine dr_iload rfl rfl ?_
        refine di_const rfl ?_
        refine du_ishl rfl (fun u61 u61a u61b => ?_)
        have lt62 := App_lt hc59
        have lt63 := App_lt hc60
        have lt64 := App_lt hc56
        have le65 := hA55.1
        refine dr_stat rfl rfl rfl rfl (s_J7_copyOfRange_39247 l hl App_rf (b0 := b) (v0 := vs) hc60 (by omega) (a1 := 0) (by omega) (by omega) (a2 := u61) (by omega) (by omega) (by omega)) (by decide) (by omega) (by omega) (Nat.le_of_ble_eq_true rfl) (fun Y h9 q9 => absurd q9 (kQBn Y h9)) (kQB (fun h66 hA67 b68 vs69 hb70 hc71 hn72 => ?_))
        have hn72 : (List.length vs69 : Int) = (u61) := hn72
        have hc73 := App_at hA67 hc59
        have hc74 := App_at hA67 hc60
        have hc75 := App_at hA67 hc56
        have hA76 := App_tr hA55 hA67
        refine pfs rfl hc75 (Nat.le_of_ble_eq_true rfl) rfl (by omega) hA76 (fun h77 hA78 le81 hc79 hk80 => ?_)
        have hc82 := (hk80 q (by omega)).trans hc73
        have hc83 := (hk80 b (by omega)).trans hc74
        have hc84 := (hk80 b68 (by omega)).trans hc71
        have lt85 := App_lt hc82
        have lt86 := App_lt hc83
        have lt87 := App_lt hc84
        have lt88 := App_lt hc79
        have le89 := hA78.1
        exact dr_vret rfl rfl (by omega) (by omega) ⟨hA78, by omega, rfl⟩
      · skip
        refine di_aload_n rfl rfl ?_
        refine di_aload_n rfl rfl ?_
        refine di_const rfl ?_
        refine dr_iload rfl rfl ?_
        exfalso; omega
  · skip
    refine di_aload_n rfl rfl ?_
    refine di_const rfl ?_
    refine pfs rfl hs9 (Nat.le_of_ble_eq_true rfl) rfl (by omega) hA (fun h90 hA91 le94 hc92 hk93 => ?_)
    have hc95 := (hk93 q (by omega)).trans hc
    have hc96 := (hk93 b (by omega)).trans hv
    refine di_aload_n rfl rfl ?_
    refine di_aload_n rfl rfl ?_
    refine di_const rfl ?_
    refine dr_iload rfl rfl ?_
    have lt97 := App_lt hc95
    have lt98 := App_lt hc96
    have lt99 := App_lt hc92
    have le100 := hA91.1
    refine dr_stat rfl rfl rfl rfl (s_J7_copyOfRange_39247 l hl App_rf (b0 := b) (v0 := vs) hc96 (by omega) (a1 := 0) (by omega) (by omega) (a2 := y9) (by omega) (by omega) (by omega)) (by decide) (by omega) (by omega) (Nat.le_of_ble_eq_true rfl) (fun Y h9 q9 => absurd q9 (kQBn Y h9)) (kQB (fun h101 hA102 b103 vs104 hb105 hc106 hn107 => ?_))
    have hn107 : (List.length vs104 : Int) = (y9) := hn107
    have hc108 := App_at hA102 hc95
    have hc109 := App_at hA102 hc96
    have hc110 := App_at hA102 hc92
    have hA111 := App_tr hA91 hA102
    refine pfs rfl hc110 (Nat.le_of_ble_eq_true rfl) rfl (by omega) hA111 (fun h112 hA113 le116 hc114 hk115 => ?_)
    have hc117 := (hk115 q (by omega)).trans hc108
    have hc118 := (hk115 b (by omega)).trans hc109
    have hc119 := (hk115 b103 (by omega)).trans hc106
    refine dr_goto rfl rfl ?_
    have lt120 := App_lt hc117
    have lt121 := App_lt hc118
    have lt122 := App_lt hc119
    have lt123 := App_lt hc114
    have le124 := hA113.1
    exact dr_vret rfl rfl (by omega) (by omega) ⟨hA113, by omega, rfl⟩
set_option maxHeartbeats 4000000 in
set_option maxRecDepth 100000 in
/-- java/lang/String.<init> -/
theorem s_J0_init_81219 (l : Launch) (hl : l.stackTraces = false) {h0 h : dm_H} (hA : App h0 h) {q b : Nat} {n : Int} {vs : List Value} (hq : h0.length ≤ q) (hb : h0.length ≤ b) (hqb : b ≠ q) (hc : h[q]? = some (1, [.ref b, dI 0, dI 0, dI (n)])) (hv : h[b]? = some (21, vs)) (hn0 : 0 ≤ n) (hnl : n ≤ vs.length) (hnc : (vs.length : Int) ≤ 400) {p9 : Nat} (hp9 : h0.length ≤ p9) (hpq : p9 ≠ q) (hpb : p9 ≠ b) (hs9 : h[p9]? = some (0, [.null, dI 0, dI 0, dI 0])) : dm_M l 243 5 1 400 [.ref p9, .ref q] h (QN0 h0 h) := by
  refine dm_M_of dk_243 hl rfl (Nat.le_of_ble_eq_true rfl) ?_
  show dm_W (fun _ _ _ => True) (dm_P (QN0 h0 h) 1 400) l 243 5 1 400 0 [some (.ref p9), some (.ref q)] [] h 0 0
  refine di_aload_n rfl rfl ?_
  refine di_aload_n rfl rfl ?_
  refine dr_null rfl ?_
  have lt1 := App_lt hs9
  have lt2 := App_lt hc
  have lt3 := App_lt hv
  have le4 := hA.1
  refine dr_init rfl rfl rfl rfl rfl (s_J0_init_db425 l hl hA (q := q) (b := b) (n := n) (vs := vs) (by omega) (by omega) (by omega) hc hv (by omega) (by omega) (by omega) (p9 := p9) (by omega) (by omega) (by omega) hs9) kQNn (by decide) (by omega) (by omega) (Nat.le_of_ble_eq_true rfl) (kQN (fun h5 hA6 le7 => ?_))
  have le8 := hA6.1
  exact dr_vret rfl rfl (by omega) (by omega) ⟨hA6, by omega, rfl⟩
set_option maxHeartbeats 4000000 in
set_option maxRecDepth 100000 in
/-- java/lang/StringBuilder.toString -/
theorem s_J4_toString_0e30d (l : Launch) (hl : l.stackTraces = false) {h0 h : dm_H} (hA : App h0 h) {q b : Nat} {n : Int} {vs : List Value} (hq : h0.length ≤ q) (hb : h0.length ≤ b) (hqb : b ≠ q) (hc : h[q]? = some (1, [.ref b, dI 0, dI 0, dI (n)])) (hv : h[b]? = some (21, vs)) (hn0 : 0 ≤ n) (hnl : n ≤ vs.length) (hnc : (vs.length : Int) ≤ 400) : dm_M l 255 6 2 404 [.ref q] h (QR h0 h) := by
  refine dm_M_of dk_255 hl rfl (Nat.le_of_ble_eq_true rfl) ?_
  show dm_W (fun _ _ _ => True) (dm_P (QR h0 h) 2 404) l 255 6 2 404 0 [some (.ref q)] [] h 0 0
  have lt5 := App_lt hc
  have lt6 := App_lt hv
  have le7 := hA.1
  refine pno (fs := [.null, dI 0, dI 0, dI 0]) rfl rfl (by omega) (by show _ + 4 ≤ _; omega) (fun h1 hA2 lt3 hc4 => ?_)
  refine dm_cew (ce2 := 1) (sl2 := 4) (by omega) (by show _ + 4 ≤ _; omega) ?_
  have hc8 := App_at hA2 hc
  have hc9 := App_at hA2 hv
  have hA10 := App_tr hA hA2
  refine dr_dup rfl rfl ?_
  refine di_aload_n rfl rfl ?_
  have lt11 := App_lt hc8
  have lt12 := App_lt hc9
  have lt13 := App_lt hc4
  have le14 := hA10.1
  refine dr_init rfl rfl rfl rfl rfl (s_J0_init_81219 l hl hA10 (q := q) (b := b) (n := n) (vs := vs) (by omega) (by omega) (by omega) hc8 hc9 (by omega) (by omega) (by omega) (p9 := (List.length h)) (by omega) (by omega) (by omega) hc4) kQNn (by decide) (by omega) (by omega) (Nat.le_of_ble_eq_true rfl) (kQN (fun h15 hA16 le17 => ?_))
  have le18 := hA16.1
  exact dr_aret rfl rfl (Or.inl ⟨_, rfl⟩) (Or.inl ⟨_, rfl⟩) (by omega) (by omega) ⟨hA16, by omega, _, by omega, rfl⟩
set_option maxHeartbeats 4000000 in
set_option maxRecDepth 100000 in
/-- java/lang/AbstractStringBuilder.<init> -/
theorem s_J5_init_d00df (l : Launch) (hl : l.stackTraces = false) {h0 h : dm_H} (hA : App h0 h) {q : Nat} (hq : h0.length ≤ q) (hc : h[q]? = some (1, [.null, dI 0, dI 0, dI 0])) {a1 : Int} (h1a : 16 ≤ a1) (h1b : a1 ≤ 16) : dm_M l 225 1 1 16 [.ref q, dI (a1)] h (QT h0 h q (0) (0) (fun v => v = none)) := by
  refine dm_M_of dk_225 hl rfl (Nat.le_of_ble_eq_true rfl) ?_
  show dm_W (fun _ _ _ => True) (dm_P (QT h0 h q (0) (0) (fun v => v = none)) 1 16) l 225 1 1 16 0 [some (.ref q), some (dI (a1))] [] h 0 0
  refine di_aload_n rfl rfl ?_
  refine dr_oinit rfl (by decide) (Nat.le_of_ble_eq_true rfl) ?_
  refine dr_getsC rfl (by decide +kernel) ?_
  refine di_if_eq rfl rfl (by omega) (by omega) (fun c1 => ?_) (fun c1 => ?_)
  · skip
    refine di_aload_n rfl rfl ?_
    refine dr_iload_n rfl rfl ?_
    exfalso; omega
  · skip
    refine di_aload_n rfl rfl ?_
    refine dr_iload_n rfl rfl ?_
    obtain ⟨n2, hn2⟩ := Int.eq_ofNat_of_zero_le (show 0 ≤ (a1 : Int) by omega)
    have n2b : n2 ≤ 16 := by omega
    have lt9 := App_lt hc
    have le10 := hA.1
    refine pnb rfl hn2 (by omega) (by omega) (by omega) (fun h3 hA4 lt8 vs5 hl6 hc7 => ?_)
    refine dm_cew (ce2 := 1) (sl2 := 16) (by omega) (by omega) ?_
    have hc11 := App_at hA4 hc
    have hA12 := App_tr hA hA4
    refine pfs rfl hc11 (Nat.le_of_ble_eq_true rfl) rfl (by omega) hA12 (fun h13 hA14 le17 hc15 hk16 => ?_)
    have hc18 := (hk16 (List.length h) (by omega)).trans hc7
    refine di_aload_n rfl rfl ?_
    refine di_const rfl ?_
    refine pfs rfl hc15 (Nat.le_of_ble_eq_true rfl) rfl (by omega) hA14 (fun h19 hA20 le23 hc21 hk22 => ?_)
    have hc24 := (hk22 (List.length h) (by omega)).trans hc18
    refine dr_goto rfl rfl ?_
    have lt25 := App_lt hc24
    have lt26 := App_lt hc21
    have le27 := hA20.1
    exact dr_vret rfl rfl (by omega) (by omega) ⟨hA20, by omega, ⟨_, vs5, by omega, by omega, hc21, hc24, by omega, by omega, by omega⟩, rfl⟩
set_option maxHeartbeats 4000000 in
set_option maxRecDepth 100000 in
/-- java/lang/StringBuilder.<init> -/
theorem s_J4_init_da8c8 (l : Launch) (hl : l.stackTraces = false) {h0 h : dm_H} (hA : App h0 h) {q : Nat} (hq : h0.length ≤ q) (hc : h[q]? = some (1, [.null, dI 0, dI 0, dI 0])) : dm_M l 251 2 1 16 [.ref q] h (QT h0 h q (0) (0) (fun v => v = none)) := by
  refine dm_M_of dk_251 hl rfl (Nat.le_of_ble_eq_true rfl) ?_
  show dm_W (fun _ _ _ => True) (dm_P (QT h0 h q (0) (0) (fun v => v = none)) 1 16) l 251 2 1 16 0 [some (.ref q)] [] h 0 0
  refine di_aload_n rfl rfl ?_
  refine di_bipush rfl (by decide) ?_
  have lt1 := App_lt hc
  have le2 := hA.1
  refine dr_init rfl rfl rfl rfl rfl (s_J5_init_d00df l hl hA (q := q) (by omega) hc (a1 := 16) (by omega) (by omega)) kQTn (by decide) (by omega) (by omega) (Nat.le_of_ble_eq_true rfl) (kQT0 (fun h3 hA4 le5 b6 vs7 ht8 ht9 ht10 ht11 ht12 ht13 ht14 => ?_))
  have ht13 : 0 ≤ (List.length vs7 : Int) := ht13
  have lt15 := App_lt ht10
  have lt16 := App_lt ht11
  have le17 := hA4.1
  exact dr_vret rfl rfl (by omega) (by omega) ⟨hA4, by omega, ⟨_, vs7, by omega, by omega, ht10, ht11, by omega, by omega, by omega⟩, rfl⟩
