/-- the digits that are left: k of them hold i -/
def dgs (k i : Int) : Prop := i ≤ 0 ∧ ((k = 1 ∧ -10 < i) ∨ (k = 2 ∧ -100 < i) ∨ (k = 3 ∧ -1000 < i) ∨ (k = 4 ∧ -10000 < i) ∨ (k = 5 ∧ -100000 < i) ∨ (k = 6 ∧ -1000000 < i) ∨ (k = 7 ∧ -10000000 < i) ∨ (k = 8 ∧ -100000000 < i) ∨ (k = 9 ∧ -1000000000 < i) ∨ k = 10)
theorem dgs_b {k i : Int} (h : dgs k i) : i ≤ 0 ∧ 1 ≤ k ∧ k ≤ 10 := by
  obtain ⟨h0, h⟩ := h
  rcases h with ⟨rfl, h⟩ | ⟨rfl, h⟩ | ⟨rfl, h⟩ | ⟨rfl, h⟩ | ⟨rfl, h⟩ | ⟨rfl, h⟩ | ⟨rfl, h⟩ | ⟨rfl, h⟩ | ⟨rfl, h⟩ | rfl <;> exact ⟨h0, by omega, by omega⟩
theorem dgs_2 {k i : Int} (h : dgs k i) (hi : i ≤ -10) : 2 ≤ k := by
  obtain ⟨h0, h⟩ := h
  rcases h with ⟨rfl, h⟩ | ⟨rfl, h⟩ | ⟨rfl, h⟩ | ⟨rfl, h⟩ | ⟨rfl, h⟩ | ⟨rfl, h⟩ | ⟨rfl, h⟩ | ⟨rfl, h⟩ | ⟨rfl, h⟩ | rfl <;> omega
theorem dgs_3 {k i : Int} (h : dgs k i) (hi : i ≤ -100) : 3 ≤ k := by
  obtain ⟨h0, h⟩ := h
  rcases h with ⟨rfl, h⟩ | ⟨rfl, h⟩ | ⟨rfl, h⟩ | ⟨rfl, h⟩ | ⟨rfl, h⟩ | ⟨rfl, h⟩ | ⟨rfl, h⟩ | ⟨rfl, h⟩ | ⟨rfl, h⟩ | rfl <;> omega
theorem dgs_s {k i : Int} (h : dgs k i) (hi : i ≤ -100) (hm : -2147483648 ≤ i) : dgs (k - 2) (-((-i) / 100)) := by
  obtain ⟨h0, h⟩ := h
  refine ⟨by omega, ?_⟩
  rcases h with ⟨rfl, h⟩ | ⟨rfl, h⟩ | ⟨rfl, h⟩ | ⟨rfl, h⟩ | ⟨rfl, h⟩ | ⟨rfl, h⟩ | ⟨rfl, h⟩ | ⟨rfl, h⟩ | ⟨rfl, h⟩ | rfl <;> omega
theorem dgs_e {k k2 i : Int} (h : dgs k i) (e : k2 = k) : dgs k2 i := by rw [e]; exact h
/-- sz places hold a, with its sign -/
def dgz (sz a : Int) : Prop := (a < 0 → dgs (sz - 1) a) ∧ (0 ≤ a → dgs sz (-a))
def pw (i p : Int) : Prop := ((i = 1 ∧ p = -10) ∨ (i = 2 ∧ p = -100) ∨ (i = 3 ∧ p = -1000) ∨ (i = 4 ∧ p = -10000) ∨ (i = 5 ∧ p = -100000) ∨ (i = 6 ∧ p = -1000000) ∨ (i = 7 ∧ p = -10000000) ∨ (i = 8 ∧ p = -100000000) ∨ (i = 9 ∧ p = -1000000000) ∨ (i = 10 ∧ p = -10000000000))
theorem pw_1 : pw 1 (-10) := Or.inl ⟨rfl, rfl⟩
theorem pw_s {i p : Int} (h : pw i p) (h9 : i ≤ 9) : pw (i + 1) (10 * p) := by
  rcases h with ⟨rfl, rfl⟩ | ⟨rfl, rfl⟩ | ⟨rfl, rfl⟩ | ⟨rfl, rfl⟩ | ⟨rfl, rfl⟩ | ⟨rfl, rfl⟩ | ⟨rfl, rfl⟩ | ⟨rfl, rfl⟩ | ⟨rfl, rfl⟩ | ⟨rfl, rfl⟩
  · exact (Or.inr (Or.inl ⟨rfl, rfl⟩))
  · exact (Or.inr (Or.inr (Or.inl ⟨rfl, rfl⟩)))
  · exact (Or.inr (Or.inr (Or.inr (Or.inl ⟨rfl, rfl⟩))))
  · exact (Or.inr (Or.inr (Or.inr (Or.inr (Or.inl ⟨rfl, rfl⟩)))))
  · exact (Or.inr (Or.inr (Or.inr (Or.inr (Or.inr (Or.inl ⟨rfl, rfl⟩))))))
  · exact (Or.inr (Or.inr (Or.inr (Or.inr (Or.inr (Or.inr (Or.inl ⟨rfl, rfl⟩)))))))
  · exact (Or.inr (Or.inr (Or.inr (Or.inr (Or.inr (Or.inr (Or.inr (Or.inl ⟨rfl, rfl⟩))))))))
  · exact (Or.inr (Or.inr (Or.inr (Or.inr (Or.inr (Or.inr (Or.inr (Or.inr (Or.inl ⟨rfl, rfl⟩)))))))))
  · exact (Or.inr (Or.inr (Or.inr (Or.inr (Or.inr (Or.inr (Or.inr (Or.inr (Or.inr ⟨rfl, rfl⟩)))))))))
  · exact absurd h9 (by decide)
theorem pw_b {i p : Int} (h : pw i p) : 1 ≤ i ∧ i ≤ 10 ∧ p ≤ -10 ∧ -10000000000 ≤ p ∧ (i ≤ 9 → -1000000000 ≤ p) ∧ (2 ≤ i → p ≤ -100) := by
  rcases h with ⟨rfl, rfl⟩ | ⟨rfl, rfl⟩ | ⟨rfl, rfl⟩ | ⟨rfl, rfl⟩ | ⟨rfl, rfl⟩ | ⟨rfl, rfl⟩ | ⟨rfl, rfl⟩ | ⟨rfl, rfl⟩ | ⟨rfl, rfl⟩ | ⟨rfl, rfl⟩ <;> omega
theorem dgz_n {i p a x : Int} (h : pw i p) (ha : a < 0) (hp : p < a ∨ i = 10) (hx : x = i + 1) : dgz x a := by
  refine ⟨fun _ => ?_, fun h9 => absurd h9 (by omega)⟩
  refine dgs_e (k := i) ⟨by omega, ?_⟩ (by omega)
  rcases h with ⟨rfl, rfl⟩ | ⟨rfl, rfl⟩ | ⟨rfl, rfl⟩ | ⟨rfl, rfl⟩ | ⟨rfl, rfl⟩ | ⟨rfl, rfl⟩ | ⟨rfl, rfl⟩ | ⟨rfl, rfl⟩ | ⟨rfl, rfl⟩ | ⟨rfl, rfl⟩ <;> omega
theorem dgz_p {i p a x : Int} (h : pw i p) (ha : 0 ≤ a) (hp : p < -a ∨ i = 10) (hx : x = i) : dgz x a := by
  refine ⟨fun h9 => absurd h9 (by omega), fun _ => ?_⟩
  refine dgs_e (k := i) ⟨by omega, ?_⟩ hx
  rcases h with ⟨rfl, rfl⟩ | ⟨rfl, rfl⟩ | ⟨rfl, rfl⟩ | ⟨rfl, rfl⟩ | ⟨rfl, rfl⟩ | ⟨rfl, rfl⟩ | ⟨rfl, rfl⟩ | ⟨rfl, rfl⟩ | ⟨rfl, rfl⟩ | ⟨rfl, rfl⟩ <;> omega
set_option maxHeartbeats 4000000 in
set_option maxRecDepth 100000 in
theorem s_J6_getChars_ba4f3 (l : Launch) (hl : l.stackTraces = false) {h : dm_H} {a0 a1 sz : Int} (h0a : -2147483648 ≤ a0) (h0b : a0 ≤ 2147483647) (h1a : 0 ≤ a1) {b : Nat} {v : List Value} (hv : h[b]? = some (21, v)) (hl1 : a1 ≤ v.length) (hl2 : (v.length : Int) ≤ 400) (hs0 : sz ≤ a1) (hz : dgz sz a0) : dm_M l 238 0 0 0 [dI (a0), dI (a1), .ref b] h (QG h b v.length) := by
  refine dm_M_of dk_238 hl rfl (Nat.le_of_ble_eq_true rfl) ?_
  have hbl := App_lt hv
  show dm_W (fun _ _ _ => True) (dm_P (QG h b v.length) 0 0) l 238 0 0 0 0 [some (dI (a0)), some (dI (a1)), some (.ref b), none, none, none, none] [] h 0 0
  refine pg0 hv ?_
  have hu0 : v.length = v.length := rfl
  refine dr_iload_n rfl rfl ?_
  refine di_istore (ls2 := [some (dI (a0)), some (dI (a1)), some (.ref b), none, none, some (dI (a1)), none]) rfl rfl rfl ?_
  refine dr_iload_n rfl rfl ?_
  refine di_if_ge rfl rfl (by omega) (by omega) (fun c1 => ?_) (fun c1 => ?_)
  · skip
    refine di_const rfl ?_
    refine di_istore (ls2 := [some (dI (a0)), some (dI (a1)), some (.ref b), none, none, some (dI (a1)), some (dI (0))]) rfl rfl rfl ?_
    refine dr_iload rfl rfl ?_
    refine di_if_ne rfl rfl (by omega) (by omega) (fun c2 => ?_) (fun c2 => ?_)
    · skip
      exfalso; omega
    · skip
      refine dr_iload_n rfl rfl ?_
      refine dn_ineg rfl ?_
      refine di_istore_n (ls2 := [some (dI ((-a0))), some (dI (a1)), some (.ref b), none, none, some (dI (a1)), some (dI (0))]) rfl rfl rfl ?_
      have L12 : ∀ (n : Nat) (i8 c9 : Int) (uv10 : List Value), (-i8).toNat < n → uv10.length = v.length → c9 ≤ a1 → i8 ≤ 0 → -2147483648 ≤ i8 → 1 ≤ (c9 - (a1 - sz) - 0) → (c9 - (a1 - sz) - 0) ≤ 10 → (i8 ≤ -10 → 2 ≤ (c9 - (a1 - sz) - 0)) → (i8 ≤ -100 → 3 ≤ (c9 - (a1 - sz) - 0)) → dgs ((c9 - (a1 - sz) - 0)) (i8) → dm_W (fun _ _ _ => True) (dm_P (QG h b v.length) 0 0) l 238 0 0 0 22 [some (dI (i8)), some (dI (a1)), some (.ref b), none, none, some (dI (c9)), some (dI (0))] [] (h.set b (21, uv10)) 0 0 := by
        intro n
        induction n with
        | zero => intro i8 c9 uv10 hm; exact absurd hm (Nat.not_lt_zero _)
        | succ n ih =>
          intro i8 c9 uv10 hm hu11 gc g0 g1 g2 g3 g4 g5 gd
          refine dr_iload_n rfl rfl ?_
          refine di_bipush rfl (by decide) ?_
          refine di_icmp_gt rfl rfl (by omega) (by omega) (by omega) (by omega) (fun c13 => ?_) (fun c13 => ?_)
          · skip
            refine di_aload_n rfl rfl ?_
            refine di_iinc (ls2 := [some (dI (i8)), some (dI (a1)), some (.ref b), none, none, some (dI ((c9 + (-1)))), some (dI (0))]) rfl rfl rfl rfl ?_
            refine dr_iload rfl rfl ?_
            refine dr_gets0 rfl (by decide +kernel) ?_
            refine dr_iload_n rfl rfl ?_
            refine dn_ineg rfl ?_
            refine dr_digit rfl (by decide) (by omega) (by omega) (fun x14 x14a x14b => ?_)
            refine pgs rfl hbl (by omega) (by omega) (fun w15 hw16 => ?_)
            have hu17 : w15.length = v.length := hw16.trans hu11
            refine dr_iload_n rfl rfl ?_
            refine di_bipush rfl (by decide) ?_
            refine di_icmp_ge rfl rfl (by omega) (by omega) (by omega) (by omega) (fun c18 => ?_) (fun c18 => ?_)
            · skip
              refine dr_iload rfl rfl ?_
              refine di_if_eq rfl rfl (by omega) (by omega) (fun c19 => ?_) (fun c19 => ?_)
              · skip
                refine dr_iload rfl rfl ?_
                exact dr_iret (ty := .int) rfl rfl rfl (by decide) (by decide) ⟨⟨w15, hu17, rfl⟩, (c9 + (-1)), rfl⟩
              · skip
                refine di_aload_n rfl rfl ?_
                refine di_iinc (ls2 := [some (dI (i8)), some (dI (a1)), some (.ref b), none, none, some (dI (((c9 + (-1)) + (-1)))), some (dI (0))]) rfl rfl rfl rfl ?_
                refine dr_iload rfl rfl ?_
                refine di_bipush rfl (by decide) ?_
                refine pgs rfl hbl (by omega) (by omega) (fun w20 hw21 => ?_)
                have hu22 : w20.length = v.length := hw21.trans hu17
                refine dr_iload rfl rfl ?_
                exact dr_iret (ty := .int) rfl rfl rfl (by decide) (by decide) ⟨⟨w20, hu22, rfl⟩, ((c9 + (-1)) + (-1)), rfl⟩
            · skip
              refine di_aload_n rfl rfl ?_
              refine di_iinc (ls2 := [some (dI (i8)), some (dI (a1)), some (.ref b), none, none, some (dI (((c9 + (-1)) + (-1)))), some (dI (0))]) rfl rfl rfl rfl ?_
              refine dr_iload rfl rfl ?_
              refine dr_gets1 rfl (by decide +kernel) ?_
              refine dr_iload_n rfl rfl ?_
              refine dn_ineg rfl ?_
              refine dr_digit rfl (by decide) (by omega) (by omega) (fun x23 x23a x23b => ?_)
              refine pgs rfl hbl (by omega) (by omega) (fun w24 hw25 => ?_)
              have hu26 : w24.length = v.length := hw25.trans hu17
              refine dr_iload rfl rfl ?_
              refine di_if_eq rfl rfl (by omega) (by omega) (fun c27 => ?_) (fun c27 => ?_)
              · skip
                refine dr_iload rfl rfl ?_
                exact dr_iret (ty := .int) rfl rfl rfl (by decide) (by decide) ⟨⟨w24, hu26, rfl⟩, ((c9 + (-1)) + (-1)), rfl⟩
              · skip
                refine di_aload_n rfl rfl ?_
                refine di_iinc (ls2 := [some (dI (i8)), some (dI (a1)), some (.ref b), none, none, some (dI ((((c9 + (-1)) + (-1)) + (-1)))), some (dI (0))]) rfl rfl rfl rfl ?_
                refine dr_iload rfl rfl ?_
                refine di_bipush rfl (by decide) ?_
                refine pgs rfl hbl (by omega) (by omega) (fun w28 hw29 => ?_)
                have hu30 : w28.length = v.length := hw29.trans hu26
                refine dr_iload rfl rfl ?_
                exact dr_iret (ty := .int) rfl rfl rfl (by decide) (by decide) ⟨⟨w28, hu30, rfl⟩, (((c9 + (-1)) + (-1)) + (-1)), rfl⟩
          · skip
            refine dr_iload_n rfl rfl ?_
            refine di_bipush rfl (by decide) ?_
            refine dn_div rfl (by omega) (by omega) ?_
            refine di_istore_n (ls2 := [some (dI (i8)), some (dI (a1)), some (.ref b), some (dI ((-((-i8) / 100)))), none, some (dI (c9)), some (dI (0))]) rfl rfl rfl ?_
            refine dr_iload_n rfl rfl ?_
            refine di_bipush rfl (by decide) ?_
            refine di_imul rfl ?_
            refine dr_iload_n rfl rfl ?_
            refine di_isub rfl ?_
            refine di_istore (ls2 := [some (dI (i8)), some (dI (a1)), some (.ref b), some (dI ((-((-i8) / 100)))), some (dI ((((-((-i8) / 100)) * 100) - i8))), some (dI (c9)), some (dI (0))]) rfl rfl rfl ?_
            refine dr_iload_n rfl rfl ?_
            refine di_istore_n (ls2 := [some (dI ((-((-i8) / 100)))), some (dI (a1)), some (.ref b), some (dI ((-((-i8) / 100)))), some (dI ((((-((-i8) / 100)) * 100) - i8))), some (dI (c9)), some (dI (0))]) rfl rfl rfl ?_
            refine di_aload_n rfl rfl ?_
            refine di_iinc (ls2 := [some (dI ((-((-i8) / 100)))), some (dI (a1)), some (.ref b), some (dI ((-((-i8) / 100)))), some (dI ((((-((-i8) / 100)) * 100) - i8))), some (dI ((c9 + (-1)))), some (dI (0))]) rfl rfl rfl rfl ?_
            refine dr_iload rfl rfl ?_
            refine dr_gets0 rfl (by decide +kernel) ?_
            refine dr_iload rfl rfl ?_
            refine dr_digit rfl (by decide) (by omega) (by omega) (fun x31 x31a x31b => ?_)
            refine pgs rfl hbl (by omega) (by omega) (fun w32 hw33 => ?_)
            have hu34 : w32.length = v.length := hw33.trans hu11
            refine di_aload_n rfl rfl ?_
            refine di_iinc (ls2 := [some (dI ((-((-i8) / 100)))), some (dI (a1)), some (.ref b), some (dI ((-((-i8) / 100)))), some (dI ((((-((-i8) / 100)) * 100) - i8))), some (dI (((c9 + (-1)) + (-1)))), some (dI (0))]) rfl rfl rfl rfl ?_
            refine dr_iload rfl rfl ?_
            refine dr_gets1 rfl (by decide +kernel) ?_
            refine dr_iload rfl rfl ?_
            refine dr_digit rfl (by decide) (by omega) (by omega) (fun x35 x35a x35b => ?_)
            refine pgs rfl hbl (by omega) (by omega) (fun w36 hw37 => ?_)
            have hu38 : w36.length = v.length := hw37.trans hu34
            refine dr_goto rfl rfl ?_
            refine dm_wk (ls2 := [some (dI ((-((-i8) / 100)))), some (dI (a1)), some (.ref b), none, none, some (dI (((c9 + (-1)) + (-1)))), some (dI (0))]) ⟨Or.inr rfl, Or.inr rfl, Or.inr rfl, Or.inl rfl, Or.inl rfl, Or.inr rfl, Or.inr rfl, trivial⟩ ?_
            have hd39 : dgs (((c9 + (-1)) + (-1)) - (a1 - sz) - 0) ((-((-i8) / 100))) := dgs_e (dgs_s gd (by omega) (by omega)) (by omega)
            obtain ⟨hd39a, hd39b, hd39c⟩ := dgs_b hd39
            exact ih ((-((-i8) / 100))) (((c9 + (-1)) + (-1))) w36 (by omega) hu38 (by omega) hd39a (by omega) hd39b hd39c (fun e => dgs_2 hd39 e) (fun e => dgs_3 hd39 e) hd39
      have hdL12 : dgs (a1 - (a1 - sz) - 0) ((-a0)) := dgs_e (hz.2 (by omega)) (by omega)
      obtain ⟨hdL12a, hdL12b, hdL12c⟩ := dgs_b hdL12
      exact L12 _ ((-a0)) (a1) v (Nat.lt_succ_self _) rfl (by omega) hdL12a (by omega) hdL12b hdL12c (fun e => dgs_2 hdL12 e) (fun e => dgs_3 hdL12 e) hdL12
  · skip
    refine di_const rfl ?_
    refine dr_goto rfl rfl ?_
    refine di_istore (ls2 := [some (dI (a0)), some (dI (a1)), some (.ref b), none, none, some (dI (a1)), some (dI (1))]) rfl rfl rfl ?_
    refine dr_iload rfl rfl ?_
    refine di_if_ne rfl rfl (by omega) (by omega) (fun c40 => ?_) (fun c40 => ?_)
    · skip
      have L45 : ∀ (n : Nat) (i41 c42 : Int) (uv43 : List Value), (-i41).toNat < n → uv43.length = v.length → c42 ≤ a1 → i41 ≤ 0 → -2147483648 ≤ i41 → 1 ≤ (c42 - (a1 - sz) - 1) → (c42 - (a1 - sz) - 1) ≤ 10 → (i41 ≤ -10 → 2 ≤ (c42 - (a1 - sz) - 1)) → (i41 ≤ -100 → 3 ≤ (c42 - (a1 - sz) - 1)) → dgs ((c42 - (a1 - sz) - 1)) (i41) → dm_W (fun _ _ _ => True) (dm_P (QG h b v.length) 0 0) l 238 0 0 0 22 [some (dI (i41)), some (dI (a1)), some (.ref b), none, none, some (dI (c42)), some (dI (1))] [] (h.set b (21, uv43)) 0 0 := by
        intro n
        induction n with
        | zero => intro i41 c42 uv43 hm; exact absurd hm (Nat.not_lt_zero _)
        | succ n ih =>
          intro i41 c42 uv43 hm hu44 gc g0 g1 g2 g3 g4 g5 gd
          refine dr_iload_n rfl rfl ?_
          refine di_bipush rfl (by decide) ?_
          refine di_icmp_gt rfl rfl (by omega) (by omega) (by omega) (by omega) (fun c46 => ?_) (fun c46 => ?_)
          · skip
            refine di_aload_n rfl rfl ?_
            refine di_iinc (ls2 := [some (dI (i41)), some (dI (a1)), some (.ref b), none, none, some (dI ((c42 + (-1)))), some (dI (1))]) rfl rfl rfl rfl ?_
            refine dr_iload rfl rfl ?_
            refine dr_gets0 rfl (by decide +kernel) ?_
            refine dr_iload_n rfl rfl ?_
            refine dn_ineg rfl ?_
            refine dr_digit rfl (by decide) (by omega) (by omega) (fun x47 x47a x47b => ?_)
            refine pgs rfl hbl (by omega) (by omega) (fun w48 hw49 => ?_)
            have hu50 : w48.length = v.length := hw49.trans hu44
            refine dr_iload_n rfl rfl ?_
            refine di_bipush rfl (by decide) ?_
            refine di_icmp_ge rfl rfl (by omega) (by omega) (by omega) (by omega) (fun c51 => ?_) (fun c51 => ?_)
            · skip
              refine dr_iload rfl rfl ?_
              refine di_if_eq rfl rfl (by omega) (by omega) (fun c52 => ?_) (fun c52 => ?_)
              · skip
                refine dr_iload rfl rfl ?_
                exact dr_iret (ty := .int) rfl rfl rfl (by decide) (by decide) ⟨⟨w48, hu50, rfl⟩, (c42 + (-1)), rfl⟩
              · skip
                refine di_aload_n rfl rfl ?_
                refine di_iinc (ls2 := [some (dI (i41)), some (dI (a1)), some (.ref b), none, none, some (dI (((c42 + (-1)) + (-1)))), some (dI (1))]) rfl rfl rfl rfl ?_
                refine dr_iload rfl rfl ?_
                refine di_bipush rfl (by decide) ?_
                refine pgs rfl hbl (by omega) (by omega) (fun w53 hw54 => ?_)
                have hu55 : w53.length = v.length := hw54.trans hu50
                refine dr_iload rfl rfl ?_
                exact dr_iret (ty := .int) rfl rfl rfl (by decide) (by decide) ⟨⟨w53, hu55, rfl⟩, ((c42 + (-1)) + (-1)), rfl⟩
            · skip
              refine di_aload_n rfl rfl ?_
              refine di_iinc (ls2 := [some (dI (i41)), some (dI (a1)), some (.ref b), none, none, some (dI (((c42 + (-1)) + (-1)))), some (dI (1))]) rfl rfl rfl rfl ?_
              refine dr_iload rfl rfl ?_
              refine dr_gets1 rfl (by decide +kernel) ?_
              refine dr_iload_n rfl rfl ?_
              refine dn_ineg rfl ?_
              refine dr_digit rfl (by decide) (by omega) (by omega) (fun x56 x56a x56b => ?_)
              refine pgs rfl hbl (by omega) (by omega) (fun w57 hw58 => ?_)
              have hu59 : w57.length = v.length := hw58.trans hu50
              refine dr_iload rfl rfl ?_
              refine di_if_eq rfl rfl (by omega) (by omega) (fun c60 => ?_) (fun c60 => ?_)
              · skip
                refine dr_iload rfl rfl ?_
                exact dr_iret (ty := .int) rfl rfl rfl (by decide) (by decide) ⟨⟨w57, hu59, rfl⟩, ((c42 + (-1)) + (-1)), rfl⟩
              · skip
                refine di_aload_n rfl rfl ?_
                refine di_iinc (ls2 := [some (dI (i41)), some (dI (a1)), some (.ref b), none, none, some (dI ((((c42 + (-1)) + (-1)) + (-1)))), some (dI (1))]) rfl rfl rfl rfl ?_
                refine dr_iload rfl rfl ?_
                refine di_bipush rfl (by decide) ?_
                refine pgs rfl hbl (by omega) (by omega) (fun w61 hw62 => ?_)
                have hu63 : w61.length = v.length := hw62.trans hu59
                refine dr_iload rfl rfl ?_
                exact dr_iret (ty := .int) rfl rfl rfl (by decide) (by decide) ⟨⟨w61, hu63, rfl⟩, (((c42 + (-1)) + (-1)) + (-1)), rfl⟩
          · skip
            refine dr_iload_n rfl rfl ?_
            refine di_bipush rfl (by decide) ?_
            refine dn_div rfl (by omega) (by omega) ?_
            refine di_istore_n (ls2 := [some (dI (i41)), some (dI (a1)), some (.ref b), some (dI ((-((-i41) / 100)))), none, some (dI (c42)), some (dI (1))]) rfl rfl rfl ?_
            refine dr_iload_n rfl rfl ?_
            refine di_bipush rfl (by decide) ?_
            refine di_imul rfl ?_
            refine dr_iload_n rfl rfl ?_
            refine di_isub rfl ?_
            refine di_istore (ls2 := [some (dI (i41)), some (dI (a1)), some (.ref b), some (dI ((-((-i41) / 100)))), some (dI ((((-((-i41) / 100)) * 100) - i41))), some (dI (c42)), some (dI (1))]) rfl rfl rfl ?_
            refine dr_iload_n rfl rfl ?_
            refine di_istore_n (ls2 := [some (dI ((-((-i41) / 100)))), some (dI (a1)), some (.ref b), some (dI ((-((-i41) / 100)))), some (dI ((((-((-i41) / 100)) * 100) - i41))), some (dI (c42)), some (dI (1))]) rfl rfl rfl ?_
            refine di_aload_n rfl rfl ?_
            refine di_iinc (ls2 := [some (dI ((-((-i41) / 100)))), some (dI (a1)), some (.ref b), some (dI ((-((-i41) / 100)))), some (dI ((((-((-i41) / 100)) * 100) - i41))), some (dI ((c42 + (-1)))), some (dI (1))]) rfl rfl rfl rfl ?_
            refine dr_iload rfl rfl ?_
            refine dr_gets0 rfl (by decide +kernel) ?_
            refine dr_iload rfl rfl ?_
            refine dr_digit rfl (by decide) (by omega) (by omega) (fun x64 x64a x64b => ?_)
            refine pgs rfl hbl (by omega) (by omega) (fun w65 hw66 => ?_)
            have hu67 : w65.length = v.length := hw66.trans hu44
            refine di_aload_n rfl rfl ?_
            refine di_iinc (ls2 := [some (dI ((-((-i41) / 100)))), some (dI (a1)), some (.ref b), some (dI ((-((-i41) / 100)))), some (dI ((((-((-i41) / 100)) * 100) - i41))), some (dI (((c42 + (-1)) + (-1)))), some (dI (1))]) rfl rfl rfl rfl ?_
            refine dr_iload rfl rfl ?_
            refine dr_gets1 rfl (by decide +kernel) ?_
            refine dr_iload rfl rfl ?_
            refine dr_digit rfl (by decide) (by omega) (by omega) (fun x68 x68a x68b => ?_)
            refine pgs rfl hbl (by omega) (by omega) (fun w69 hw70 => ?_)
            have hu71 : w69.length = v.length := hw70.trans hu67
            refine dr_goto rfl rfl ?_
            refine dm_wk (ls2 := [some (dI ((-((-i41) / 100)))), some (dI (a1)), some (.ref b), none, none, some (dI (((c42 + (-1)) + (-1)))), some (dI (1))]) ⟨Or.inr rfl, Or.inr rfl, Or.inr rfl, Or.inl rfl, Or.inl rfl, Or.inr rfl, Or.inr rfl, trivial⟩ ?_
            have hd72 : dgs (((c42 + (-1)) + (-1)) - (a1 - sz) - 1) ((-((-i41) / 100))) := dgs_e (dgs_s gd (by omega) (by omega)) (by omega)
            obtain ⟨hd72a, hd72b, hd72c⟩ := dgs_b hd72
            exact ih ((-((-i41) / 100))) (((c42 + (-1)) + (-1))) w69 (by omega) hu71 (by omega) hd72a (by omega) hd72b hd72c (fun e => dgs_2 hd72 e) (fun e => dgs_3 hd72 e) hd72
      have hdL45 : dgs (a1 - (a1 - sz) - 1) (a0) := dgs_e (hz.1 (by omega)) (by omega)
      obtain ⟨hdL45a, hdL45b, hdL45c⟩ := dgs_b hdL45
      exact L45 _ (a0) (a1) v (Nat.lt_succ_self _) rfl (by omega) hdL45a (by omega) hdL45b hdL45c (fun e => dgs_2 hdL45 e) (fun e => dgs_3 hdL45 e) hdL45
    · skip
      refine dr_iload_n rfl rfl ?_
      refine dn_ineg rfl ?_
      refine di_istore_n (ls2 := [some (dI ((-a0))), some (dI (a1)), some (.ref b), none, none, some (dI (a1)), some (dI (1))]) rfl rfl rfl ?_
      exfalso; omega
