/-- the digits that are left: k of them hold i -/
def dgs (k i : Int) : Prop := i ≤ 0 ∧ 1 ≤ k ∧ k ≤ 10 ∧ (k = 1 → -10 < i) ∧ (k = 2 → -100 < i) ∧ (k = 3 → -1000 < i) ∧ (k = 4 → -10000 < i) ∧ (k = 5 → -100000 < i) ∧ (k = 6 → -1000000 < i) ∧ (k = 7 → -10000000 < i) ∧ (k = 8 → -100000000 < i) ∧ (k = 9 → -1000000000 < i)
set_option maxHeartbeats 4000000 in
set_option maxRecDepth 100000 in
theorem s_J6_getChars_ba4f3 (l : Launch) (hl : l.stackTraces = false) {h : dm_H} {a0 a1 sz : Int} (h0a : -2147483648 ≤ a0) (h0b : a0 ≤ 2147483647) (h1a : 0 ≤ a1) {b : Nat} {v : List Value} (hv : h[b]? = some (21, v)) (hl1 : a1 ≤ v.length) (hl2 : (v.length : Int) ≤ 400) (hs0 : sz ≤ a1) (hsN : a0 < 0 → dgs (sz - 1) a0) (hsP : 0 ≤ a0 → dgs sz (-a0)) : dm_M l 238 0 0 0 [dI (a0), dI (a1), .ref b] h (QG h b v.length) := by
  refine dm_M_of dk_238 hl rfl (Nat.le_of_ble_eq_true rfl) ?_
  have hbl := App_lt hv
  unfold dgs at hsN hsP
  show dm_W (fun _ _ _ => True) (dm_P (QG h b v.length) 0 0) l 238 0 0 0 0 [some (dI (a0)), some (dI (a1)), some (.ref b), none, none, none, none] [] h 0 0
  refine pg0 hv ?_
  have hu0 : v.length = v.length := rfl
  refine dr_iload_n rfl rfl ?_
  refine di_istore (ls2 := [some (dI (a0)), some (dI (a1)), some (.ref b), none, none, some (dI (a1)), none]) rfl rfl rfl ?_
  refine dr_iload_n rfl rfl ?_
  refine di_if_ge rfl rfl (by omega) (by omega) (fun c1 => ?_) (fun c1 => ?_)
  · skip
    refine di_const rfl ?_
    refine di_istore (ls2 := [some (dI (a0)), some (dI (a1)), some (.ref b), none, none, some (dI (a1)), some (dI (0))]) rfl rfl rfl ?_
    refine dr_iload rfl rfl ?_
    refine di_if_ne rfl rfl (by omega) (by omega) (fun c2 => ?_) (fun c2 => ?_)
    · skip
      have L7 : ∀ (n : Nat) (i3 c4 : Int) (uv5 : List Value), (-i3).toNat < n → uv5.length = v.length → c4 ≤ a1 → i3 ≤ 0 → -2147483648 ≤ i3 → 1 ≤ (c4 - (a1 - sz) - 0) → (c4 - (a1 - sz) - 0) ≤ 10 → ((c4 - (a1 - sz) - 0) = 1 → -10 < i3) → ((c4 - (a1 - sz) - 0) = 2 → -100 < i3) → ((c4 - (a1 - sz) - 0) = 3 → -1000 < i3) → ((c4 - (a1 - sz) - 0) = 4 → -10000 < i3) → ((c4 - (a1 - sz) - 0) = 5 → -100000 < i3) → ((c4 - (a1 - sz) - 0) = 6 → -1000000 < i3) → ((c4 - (a1 - sz) - 0) = 7 → -10000000 < i3) → ((c4 - (a1 - sz) - 0) = 8 → -100000000 < i3) → ((c4 - (a1 - sz) - 0) = 9 → -1000000000 < i3) → dm_W (fun _ _ _ => True) (dm_P (QG h b v.length) 0 0) l 238 0 0 0 22 [some (dI (i3)), some (dI (a1)), some (.ref b), none, none, some (dI (c4)), some (dI (0))] [] (h.set b (21, uv5)) 0 0 := by
        intro n
        induction n with
        | zero => intro i3 c4 uv5 hm; exact absurd hm (Nat.not_lt_zero _)
        | succ n ih =>
          intro i3 c4 uv5 hm hu6 gc g0 g1 g2 g3 g4 g5 g6 g7 g8 g9 g10 g11 g12
          refine dr_iload_n rfl rfl ?_
          refine di_bipush rfl (by decide) ?_
          refine di_icmp_gt rfl rfl (by omega) (by omega) (by omega) (by omega) (fun c8 => ?_) (fun c8 => ?_)
          · skip
            refine di_aload_n rfl rfl ?_
            refine di_iinc (ls2 := [some (dI (i3)), some (dI (a1)), some (.ref b), none, none, some (dI ((c4 + (-1)))), some (dI (0))]) rfl rfl rfl rfl ?_
            refine dr_iload rfl rfl ?_
            refine dr_gets0 rfl (by decide +kernel) ?_
            refine dr_iload_n rfl rfl ?_
            refine dn_ineg rfl ?_
            refine dr_digit rfl (by decide) (by omega) (by omega) (fun x9 x9a x9b => ?_)
            refine pgs rfl hbl (by omega) (by omega) (fun w10 hw11 => ?_)
            have hu12 : w10.length = v.length := hw11.trans hu6
            refine dr_iload_n rfl rfl ?_
            refine di_bipush rfl (by decide) ?_
            refine di_icmp_ge rfl rfl (by omega) (by omega) (by omega) (by omega) (fun c13 => ?_) (fun c13 => ?_)
            · skip
              refine dr_iload rfl rfl ?_
              refine di_if_eq rfl rfl (by omega) (by omega) (fun c14 => ?_) (fun c14 => ?_)
              · skip
                refine dr_iload rfl rfl ?_
                exact dr_iret (ty := .int) rfl rfl rfl (by decide) (by decide) ⟨⟨w10, hu12, rfl⟩, (c4 + (-1)), rfl⟩
              · skip
                refine di_aload_n rfl rfl ?_
                refine di_iinc (ls2 := [some (dI (i3)), some (dI (a1)), some (.ref b), none, none, some (dI (((c4 + (-1)) + (-1)))), some (dI (0))]) rfl rfl rfl rfl ?_
                refine dr_iload rfl rfl ?_
                refine di_bipush rfl (by decide) ?_
                refine pgs rfl hbl (by omega) (by omega) (fun w15 hw16 => ?_)
                have hu17 : w15.length = v.length := hw16.trans hu12
                refine dr_iload rfl rfl ?_
                exact dr_iret (ty := .int) rfl rfl rfl (by decide) (by decide) ⟨⟨w15, hu17, rfl⟩, ((c4 + (-1)) + (-1)), rfl⟩
            · skip
              refine di_aload_n rfl rfl ?_
              refine di_iinc (ls2 := [some (dI (i3)), some (dI (a1)), some (.ref b), none, none, some (dI (((c4 + (-1)) + (-1)))), some (dI (0))]) rfl rfl rfl rfl ?_
              refine dr_iload rfl rfl ?_
              refine dr_gets1 rfl (by decide +kernel) ?_
              refine dr_iload_n rfl rfl ?_
              refine dn_ineg rfl ?_
              refine dr_digit rfl (by decide) (by omega) (by omega) (fun x18 x18a x18b => ?_)
              refine pgs rfl hbl (by omega) (by omega) (fun w19 hw20 => ?_)
              have hu21 : w19.length = v.length := hw20.trans hu12
              refine dr_iload rfl rfl ?_
              refine di_if_eq rfl rfl (by omega) (by omega) (fun c22 => ?_) (fun c22 => ?_)
              · skip
                refine dr_iload rfl rfl ?_
                exact dr_iret (ty := .int) rfl rfl rfl (by decide) (by decide) ⟨⟨w19, hu21, rfl⟩, ((c4 + (-1)) + (-1)), rfl⟩
              · skip
                refine di_aload_n rfl rfl ?_
                refine di_iinc (ls2 := [some (dI (i3)), some (dI (a1)), some (.ref b), none, none, some (dI ((((c4 + (-1)) + (-1)) + (-1)))), some (dI (0))]) rfl rfl rfl rfl ?_
                refine dr_iload rfl rfl ?_
                refine di_bipush rfl (by decide) ?_
                refine pgs rfl hbl (by omega) (by omega) (fun w23 hw24 => ?_)
                have hu25 : w23.length = v.length := hw24.trans hu21
                refine dr_iload rfl rfl ?_
                exact dr_iret (ty := .int) rfl rfl rfl (by decide) (by decide) ⟨⟨w23, hu25, rfl⟩, (((c4 + (-1)) + (-1)) + (-1)), rfl⟩
          · skip
            refine dr_iload_n rfl rfl ?_
            refine di_bipush rfl (by decide) ?_
            refine dn_div rfl (by omega) (by omega) ?_
            refine di_istore_n (ls2 := [some (dI (i3)), some (dI (a1)), some (.ref b), some (dI ((-((-i3) / 100)))), none, some (dI (c4)), some (dI (0))]) rfl rfl rfl ?_
            refine dr_iload_n rfl rfl ?_
            refine di_bipush rfl (by decide) ?_
            refine di_imul rfl ?_
            refine dr_iload_n rfl rfl ?_
            refine di_isub rfl ?_
            refine di_istore (ls2 := [some (dI (i3)), some (dI (a1)), some (.ref b), some (dI ((-((-i3) / 100)))), some (dI ((((-((-i3) / 100)) * 100) - i3))), some (dI (c4)), some (dI (0))]) rfl rfl rfl ?_
            refine dr_iload_n rfl rfl ?_
            refine di_istore_n (ls2 := [some (dI ((-((-i3) / 100)))), some (dI (a1)), some (.ref b), some (dI ((-((-i3) / 100)))), some (dI ((((-((-i3) / 100)) * 100) - i3))), some (dI (c4)), some (dI (0))]) rfl rfl rfl ?_
            refine di_aload_n rfl rfl ?_
            refine di_iinc (ls2 := [some (dI ((-((-i3) / 100)))), some (dI (a1)), some (.ref b), some (dI ((-((-i3) / 100)))), some (dI ((((-((-i3) / 100)) * 100) - i3))), some (dI ((c4 + (-1)))), some (dI (0))]) rfl rfl rfl rfl ?_
            refine dr_iload rfl rfl ?_
            refine dr_gets0 rfl (by decide +kernel) ?_
            refine dr_iload rfl rfl ?_
            refine dr_digit rfl (by decide) (by omega) (by omega) (fun x26 x26a x26b => ?_)
            refine pgs rfl hbl (by omega) (by omega) (fun w27 hw28 => ?_)
            have hu29 : w27.length = v.length := hw28.trans hu6
            refine di_aload_n rfl rfl ?_
            refine di_iinc (ls2 := [some (dI ((-((-i3) / 100)))), some (dI (a1)), some (.ref b), some (dI ((-((-i3) / 100)))), some (dI ((((-((-i3) / 100)) * 100) - i3))), some (dI (((c4 + (-1)) + (-1)))), some (dI (0))]) rfl rfl rfl rfl ?_
            refine dr_iload rfl rfl ?_
            refine dr_gets1 rfl (by decide +kernel) ?_
            refine dr_iload rfl rfl ?_
            refine dr_digit rfl (by decide) (by omega) (by omega) (fun x30 x30a x30b => ?_)
            refine pgs rfl hbl (by omega) (by omega) (fun w31 hw32 => ?_)
            have hu33 : w31.length = v.length := hw32.trans hu29
            refine dr_goto rfl rfl ?_
            refine dm_wk (ls2 := [some (dI ((-((-i3) / 100)))), some (dI (a1)), some (.ref b), none, none, some (dI (((c4 + (-1)) + (-1)))), some (dI (0))]) ⟨Or.inr rfl, Or.inr rfl, Or.inr rfl, Or.inl rfl, Or.inl rfl, Or.inr rfl, Or.inr rfl, trivial⟩ ?_
            exact ih ((-((-i3) / 100))) (((c4 + (-1)) + (-1))) w31 (by omega) hu33 (by omega) (by omega) (by omega) (by omega) (by omega) (by omega) (by omega) (by omega) (by omega) (by omega) (by omega) (by omega) (by omega) (by omega) 
      exact L7 _ (a0) (a1) v (Nat.lt_succ_self _) rfl (by omega) (by omega) (by omega) (by omega) (by omega) (by omega) (by omega) (by omega) (by omega) (by omega) (by omega) (by omega) (by omega) (by omega) 
    · skip
      refine dr_iload_n rfl rfl ?_
      refine dn_ineg rfl ?_
      refine di_istore_n (ls2 := [some (dI ((-a0))), some (dI (a1)), some (.ref b), none, none, some (dI (a1)), some (dI (0))]) rfl rfl rfl ?_
      have L38 : ∀ (n : Nat) (i34 c35 : Int) (uv36 : List Value), (-i34).toNat < n → uv36.length = v.length → c35 ≤ a1 → i34 ≤ 0 → -2147483648 ≤ i34 → 1 ≤ (c35 - (a1 - sz) - 0) → (c35 - (a1 - sz) - 0) ≤ 10 → ((c35 - (a1 - sz) - 0) = 1 → -10 < i34) → ((c35 - (a1 - sz) - 0) = 2 → -100 < i34) → ((c35 - (a1 - sz) - 0) = 3 → -1000 < i34) → ((c35 - (a1 - sz) - 0) = 4 → -10000 < i34) → ((c35 - (a1 - sz) - 0) = 5 → -100000 < i34) → ((c35 - (a1 - sz) - 0) = 6 → -1000000 < i34) → ((c35 - (a1 - sz) - 0) = 7 → -10000000 < i34) → ((c35 - (a1 - sz) - 0) = 8 → -100000000 < i34) → ((c35 - (a1 - sz) - 0) = 9 → -1000000000 < i34) → dm_W (fun _ _ _ => True) (dm_P (QG h b v.length) 0 0) l 238 0 0 0 22 [some (dI (i34)), some (dI (a1)), some (.ref b), none, none, some (dI (c35)), some (dI (0))] [] (h.set b (21, uv36)) 0 0 := by
        intro n
        induction n with
        | zero => intro i34 c35 uv36 hm; exact absurd hm (Nat.not_lt_zero _)
        | succ n ih =>
          intro i34 c35 uv36 hm hu37 gc g0 g1 g2 g3 g4 g5 g6 g7 g8 g9 g10 g11 g12
          refine dr_iload_n rfl rfl ?_
          refine di_bipush rfl (by decide) ?_
          refine di_icmp_gt rfl rfl (by omega) (by omega) (by omega) (by omega) (fun c39 => ?_) (fun c39 => ?_)
          · skip
            refine di_aload_n rfl rfl ?_
            refine di_iinc (ls2 := [some (dI (i34)), some (dI (a1)), some (.ref b), none, none, some (dI ((c35 + (-1)))), some (dI (0))]) rfl rfl rfl rfl ?_
            refine dr_iload rfl rfl ?_
            refine dr_gets0 rfl (by decide +kernel) ?_
            refine dr_iload_n rfl rfl ?_
            refine dn_ineg rfl ?_
            refine dr_digit rfl (by decide) (by omega) (by omega) (fun x40 x40a x40b => ?_)
            refine pgs rfl hbl (by omega) (by omega) (fun w41 hw42 => ?_)
            have hu43 : w41.length = v.length := hw42.trans hu37
            refine dr_iload_n rfl rfl ?_
            refine di_bipush rfl (by decide) ?_
            refine di_icmp_ge rfl rfl (by omega) (by omega) (by omega) (by omega) (fun c44 => ?_) (fun c44 => ?_)
            · skip
              refine dr_iload rfl rfl ?_
              refine di_if_eq rfl rfl (by omega) (by omega) (fun c45 => ?_) (fun c45 => ?_)
              · skip
                refine dr_iload rfl rfl ?_
                exact dr_iret (ty := .int) rfl rfl rfl (by decide) (by decide) ⟨⟨w41, hu43, rfl⟩, (c35 + (-1)), rfl⟩
              · skip
                refine di_aload_n rfl rfl ?_
                refine di_iinc (ls2 := [some (dI (i34)), some (dI (a1)), some (.ref b), none, none, some (dI (((c35 + (-1)) + (-1)))), some (dI (0))]) rfl rfl rfl rfl ?_
                refine dr_iload rfl rfl ?_
                refine di_bipush rfl (by decide) ?_
                refine pgs rfl hbl (by omega) (by omega) (fun w46 hw47 => ?_)
                have hu48 : w46.length = v.length := hw47.trans hu43
                refine dr_iload rfl rfl ?_
                exact dr_iret (ty := .int) rfl rfl rfl (by decide) (by decide) ⟨⟨w46, hu48, rfl⟩, ((c35 + (-1)) + (-1)), rfl⟩
            · skip
              refine di_aload_n rfl rfl ?_
              refine di_iinc (ls2 := [some (dI (i34)), some (dI (a1)), some (.ref b), none, none, some (dI (((c35 + (-1)) + (-1)))), some (dI (0))]) rfl rfl rfl rfl ?_
              refine dr_iload rfl rfl ?_
              refine dr_gets1 rfl (by decide +kernel) ?_
              refine dr_iload_n rfl rfl ?_
              refine dn_ineg rfl ?_
              refine dr_digit rfl (by decide) (by omega) (by omega) (fun x49 x49a x49b => ?_)
              refine pgs rfl hbl (by omega) (by omega) (fun w50 hw51 => ?_)
              have hu52 : w50.length = v.length := hw51.trans hu43
              refine dr_iload rfl rfl ?_
              refine di_if_eq rfl rfl (by omega) (by omega) (fun c53 => ?_) (fun c53 => ?_)
              · skip
                refine dr_iload rfl rfl ?_
                exact dr_iret (ty := .int) rfl rfl rfl (by decide) (by decide) ⟨⟨w50, hu52, rfl⟩, ((c35 + (-1)) + (-1)), rfl⟩
              · skip
                refine di_aload_n rfl rfl ?_
                refine di_iinc (ls2 := [some (dI (i34)), some (dI (a1)), some (.ref b), none, none, some (dI ((((c35 + (-1)) + (-1)) + (-1)))), some (dI (0))]) rfl rfl rfl rfl ?_
                refine dr_iload rfl rfl ?_
                refine di_bipush rfl (by decide) ?_
                refine pgs rfl hbl (by omega) (by omega) (fun w54 hw55 => ?_)
                have hu56 : w54.length = v.length := hw55.trans hu52
                refine dr_iload rfl rfl ?_
                exact dr_iret (ty := .int) rfl rfl rfl (by decide) (by decide) ⟨⟨w54, hu56, rfl⟩, (((c35 + (-1)) + (-1)) + (-1)), rfl⟩
          · skip
            refine dr_iload_n rfl rfl ?_
            refine di_bipush rfl (by decide) ?_
            refine dn_div rfl (by omega) (by omega) ?_
            refine di_istore_n (ls2 := [some (dI (i34)), some (dI (a1)), some (.ref b), some (dI ((-((-i34) / 100)))), none, some (dI (c35)), some (dI (0))]) rfl rfl rfl ?_
            refine dr_iload_n rfl rfl ?_
            refine di_bipush rfl (by decide) ?_
            refine di_imul rfl ?_
            refine dr_iload_n rfl rfl ?_
            refine di_isub rfl ?_
            refine di_istore (ls2 := [some (dI (i34)), some (dI (a1)), some (.ref b), some (dI ((-((-i34) / 100)))), some (dI ((((-((-i34) / 100)) * 100) - i34))), some (dI (c35)), some (dI (0))]) rfl rfl rfl ?_
            refine dr_iload_n rfl rfl ?_
            refine di_istore_n (ls2 := [some (dI ((-((-i34) / 100)))), some (dI (a1)), some (.ref b), some (dI ((-((-i34) / 100)))), some (dI ((((-((-i34) / 100)) * 100) - i34))), some (dI (c35)), some (dI (0))]) rfl rfl rfl ?_
            refine di_aload_n rfl rfl ?_
            refine di_iinc (ls2 := [some (dI ((-((-i34) / 100)))), some (dI (a1)), some (.ref b), some (dI ((-((-i34) / 100)))), some (dI ((((-((-i34) / 100)) * 100) - i34))), some (dI ((c35 + (-1)))), some (dI (0))]) rfl rfl rfl rfl ?_
            refine dr_iload rfl rfl ?_
            refine dr_gets0 rfl (by decide +kernel) ?_
            refine dr_iload rfl rfl ?_
            refine dr_digit rfl (by decide) (by omega) (by omega) (fun x57 x57a x57b => ?_)
            refine pgs rfl hbl (by omega) (by omega) (fun w58 hw59 => ?_)
            have hu60 : w58.length = v.length := hw59.trans hu37
            refine di_aload_n rfl rfl ?_
            refine di_iinc (ls2 := [some (dI ((-((-i34) / 100)))), some (dI (a1)), some (.ref b), some (dI ((-((-i34) / 100)))), some (dI ((((-((-i34) / 100)) * 100) - i34))), some (dI (((c35 + (-1)) + (-1)))), some (dI (0))]) rfl rfl rfl rfl ?_
            refine dr_iload rfl rfl ?_
            refine dr_gets1 rfl (by decide +kernel) ?_
            refine dr_iload rfl rfl ?_
            refine dr_digit rfl (by decide) (by omega) (by omega) (fun x61 x61a x61b => ?_)
            refine pgs rfl hbl (by omega) (by omega) (fun w62 hw63 => ?_)
            have hu64 : w62.length = v.length := hw63.trans hu60
            refine dr_goto rfl rfl ?_
            refine dm_wk (ls2 := [some (dI ((-((-i34) / 100)))), some (dI (a1)), some (.ref b), none, none, some (dI (((c35 + (-1)) + (-1)))), some (dI (0))]) ⟨Or.inr rfl, Or.inr rfl, Or.inr rfl, Or.inl rfl, Or.inl rfl, Or.inr rfl, Or.inr rfl, trivial⟩ ?_
            exact ih ((-((-i34) / 100))) (((c35 + (-1)) + (-1))) w62 (by omega) hu64 (by omega) (by omega) (by omega) (by omega) (by omega) (by omega) (by omega) (by omega) (by omega) (by omega) (by omega) (by omega) (by omega) (by omega) 
      exact L38 _ ((-a0)) (a1) v (Nat.lt_succ_self _) rfl (by omega) (by omega) (by omega) (by omega) (by omega) (by omega) (by omega) (by omega) (by omega) (by omega) (by omega) (by omega) (by omega) (by omega) 
  · skip
    refine di_const rfl ?_
    refine dr_goto rfl rfl ?_
    refine di_istore (ls2 := [some (dI (a0)), some (dI (a1)), some (.ref b), none, none, some (dI (a1)), some (dI (1))]) rfl rfl rfl ?_
    refine dr_iload rfl rfl ?_
    refine di_if_ne rfl rfl (by omega) (by omega) (fun c65 => ?_) (fun c65 => ?_)
    · skip
      have L70 : ∀ (n : Nat) (i66 c67 : Int) (uv68 : List Value), (-i66).toNat < n → uv68.length = v.length → c67 ≤ a1 → i66 ≤ 0 → -2147483648 ≤ i66 → 1 ≤ (c67 - (a1 - sz) - 1) → (c67 - (a1 - sz) - 1) ≤ 10 → ((c67 - (a1 - sz) - 1) = 1 → -10 < i66) → ((c67 - (a1 - sz) - 1) = 2 → -100 < i66) → ((c67 - (a1 - sz) - 1) = 3 → -1000 < i66) → ((c67 - (a1 - sz) - 1) = 4 → -10000 < i66) → ((c67 - (a1 - sz) - 1) = 5 → -100000 < i66) → ((c67 - (a1 - sz) - 1) = 6 → -1000000 < i66) → ((c67 - (a1 - sz) - 1) = 7 → -10000000 < i66) → ((c67 - (a1 - sz) - 1) = 8 → -100000000 < i66) → ((c67 - (a1 - sz) - 1) = 9 → -1000000000 < i66) → dm_W (fun _ _ _ => True) (dm_P (QG h b v.length) 0 0) l 238 0 0 0 22 [some (dI (i66)), some (dI (a1)), some (.ref b), none, none, some (dI (c67)), some (dI (1))] [] (h.set b (21, uv68)) 0 0 := by
        intro n
        induction n with
        | zero => intro i66 c67 uv68 hm; exact absurd hm (Nat.not_lt_zero _)
        | succ n ih =>
          intro i66 c67 uv68 hm hu69 gc g0 g1 g2 g3 g4 g5 g6 g7 g8 g9 g10 g11 g12
          refine dr_iload_n rfl rfl ?_
          refine di_bipush rfl (by decide) ?_
          refine di_icmp_gt rfl rfl (by omega) (by omega) (by omega) (by omega) (fun c71 => ?_) (fun c71 => ?_)
          · skip
            refine di_aload_n rfl rfl ?_
            refine di_iinc (ls2 := [some (dI (i66)), some (dI (a1)), some (.ref b), none, none, some (dI ((c67 + (-1)))), some (dI (1))]) rfl rfl rfl rfl ?_
            refine dr_iload rfl rfl ?_
            refine dr_gets0 rfl (by decide +kernel) ?_
            refine dr_iload_n rfl rfl ?_
            refine dn_ineg rfl ?_
            refine dr_digit rfl (by decide) (by omega) (by omega) (fun x72 x72a x72b => ?_)
            refine pgs rfl hbl (by omega) (by omega) (fun w73 hw74 => ?_)
            have hu75 : w73.length = v.length := hw74.trans hu69
            refine dr_iload_n rfl rfl ?_
            refine di_bipush rfl (by decide) ?_
            refine di_icmp_ge rfl rfl (by omega) (by omega) (by omega) (by omega) (fun c76 => ?_) (fun c76 => ?_)
            · skip
              refine dr_iload rfl rfl ?_
              refine di_if_eq rfl rfl (by omega) (by omega) (fun c77 => ?_) (fun c77 => ?_)
              · skip
                refine dr_iload rfl rfl ?_
                exact dr_iret (ty := .int) rfl rfl rfl (by decide) (by decide) ⟨⟨w73, hu75, rfl⟩, (c67 + (-1)), rfl⟩
              · skip
                refine di_aload_n rfl rfl ?_
                refine di_iinc (ls2 := [some (dI (i66)), some (dI (a1)), some (.ref b), none, none, some (dI (((c67 + (-1)) + (-1)))), some (dI (1))]) rfl rfl rfl rfl ?_
                refine dr_iload rfl rfl ?_
                refine di_bipush rfl (by decide) ?_
                refine pgs rfl hbl (by omega) (by omega) (fun w78 hw79 => ?_)
                have hu80 : w78.length = v.length := hw79.trans hu75
                refine dr_iload rfl rfl ?_
                exact dr_iret (ty := .int) rfl rfl rfl (by decide) (by decide) ⟨⟨w78, hu80, rfl⟩, ((c67 + (-1)) + (-1)), rfl⟩
            · skip
              refine di_aload_n rfl rfl ?_
              refine di_iinc (ls2 := [some (dI (i66)), some (dI (a1)), some (.ref b), none, none, some (dI (((c67 + (-1)) + (-1)))), some (dI (1))]) rfl rfl rfl rfl ?_
              refine dr_iload rfl rfl ?_
              refine dr_gets1 rfl (by decide +kernel) ?_
              refine dr_iload_n rfl rfl ?_
              refine dn_ineg rfl ?_
              refine dr_digit rfl (by decide) (by omega) (by omega) (fun x81 x81a x81b => ?_)
              refine pgs rfl hbl (by omega) (by omega) (fun w82 hw83 => ?_)
              have hu84 : w82.length = v.length := hw83.trans hu75
              refine dr_iload rfl rfl ?_
              refine di_if_eq rfl rfl (by omega) (by omega) (fun c85 => ?_) (fun c85 => ?_)
              · skip
                refine dr_iload rfl rfl ?_
                exact dr_iret (ty := .int) rfl rfl rfl (by decide) (by decide) ⟨⟨w82, hu84, rfl⟩, ((c67 + (-1)) + (-1)), rfl⟩
              · skip
                refine di_aload_n rfl rfl ?_
                refine di_iinc (ls2 := [some (dI (i66)), some (dI (a1)), some (.ref b), none, none, some (dI ((((c67 + (-1)) + (-1)) + (-1)))), some (dI (1))]) rfl rfl rfl rfl ?_
                refine dr_iload rfl rfl ?_
                refine di_bipush rfl (by decide) ?_
                refine pgs rfl hbl (by omega) (by omega) (fun w86 hw87 => ?_)
                have hu88 : w86.length = v.length := hw87.trans hu84
                refine dr_iload rfl rfl ?_
                exact dr_iret (ty := .int) rfl rfl rfl (by decide) (by decide) ⟨⟨w86, hu88, rfl⟩, (((c67 + (-1)) + (-1)) + (-1)), rfl⟩
          · skip
            refine dr_iload_n rfl rfl ?_
            refine di_bipush rfl (by decide) ?_
            refine dn_div rfl (by omega) (by omega) ?_
            refine di_istore_n (ls2 := [some (dI (i66)), some (dI (a1)), some (.ref b), some (dI ((-((-i66) / 100)))), none, some (dI (c67)), some (dI (1))]) rfl rfl rfl ?_
            refine dr_iload_n rfl rfl ?_
            refine di_bipush rfl (by decide) ?_
            refine di_imul rfl ?_
            refine dr_iload_n rfl rfl ?_
            refine di_isub rfl ?_
            refine di_istore (ls2 := [some (dI (i66)), some (dI (a1)), some (.ref b), some (dI ((-((-i66) / 100)))), some (dI ((((-((-i66) / 100)) * 100) - i66))), some (dI (c67)), some (dI (1))]) rfl rfl rfl ?_
            refine dr_iload_n rfl rfl ?_
            refine di_istore_n (ls2 := [some (dI ((-((-i66) / 100)))), some (dI (a1)), some (.ref b), some (dI ((-((-i66) / 100)))), some (dI ((((-((-i66) / 100)) * 100) - i66))), some (dI (c67)), some (dI (1))]) rfl rfl rfl ?_
            refine di_aload_n rfl rfl ?_
            refine di_iinc (ls2 := [some (dI ((-((-i66) / 100)))), some (dI (a1)), some (.ref b), some (dI ((-((-i66) / 100)))), some (dI ((((-((-i66) / 100)) * 100) - i66))), some (dI ((c67 + (-1)))), some (dI (1))]) rfl rfl rfl rfl ?_
            refine dr_iload rfl rfl ?_
            refine dr_gets0 rfl (by decide +kernel) ?_
            refine dr_iload rfl rfl ?_
            refine dr_digit rfl (by decide) (by omega) (by omega) (fun x89 x89a x89b => ?_)
            refine pgs rfl hbl (by omega) (by omega) (fun w90 hw91 => ?_)
            have hu92 : w90.length = v.length := hw91.trans hu69
            refine di_aload_n rfl rfl ?_
            refine di_iinc (ls2 := [some (dI ((-((-i66) / 100)))), some (dI (a1)), some (.ref b), some (dI ((-((-i66) / 100)))), some (dI ((((-((-i66) / 100)) * 100) - i66))), some (dI (((c67 + (-1)) + (-1)))), some (dI (1))]) rfl rfl rfl rfl ?_
            refine dr_iload rfl rfl ?_
            refine dr_gets1 rfl (by decide +kernel) ?_
            refine dr_iload rfl rfl ?_
            refine dr_digit rfl (by decide) (by omega) (by omega) (fun x93 x93a x93b => ?_)
            refine pgs rfl hbl (by omega) (by omega) (fun w94 hw95 => ?_)
            have hu96 : w94.length = v.length := hw95.trans hu92
            refine dr_goto rfl rfl ?_
            refine dm_wk (ls2 := [some (dI ((-((-i66) / 100)))), some (dI (a1)), some (.ref b), none, none, some (dI (((c67 + (-1)) + (-1)))), some (dI (1))]) ⟨Or.inr rfl, Or.inr rfl, Or.inr rfl, Or.inl rfl, Or.inl rfl, Or.inr rfl, Or.inr rfl, trivial⟩ ?_
            exact ih ((-((-i66) / 100))) (((c67 + (-1)) + (-1))) w94 (by omega) hu96 (by omega) (by omega) (by omega) (by omega) (by omega) (by omega) (by omega) (by omega) (by omega) (by omega) (by omega) (by omega) (by omega) (by omega) 
      exact L70 _ (a0) (a1) v (Nat.lt_succ_self _) rfl (by omega) (by omega) (by omega) (by omega) (by omega) (by omega) (by omega) (by omega) (by omega) (by omega) (by omega) (by omega) (by omega) (by omega) 
    · skip
      refine dr_iload_n rfl rfl ?_
      refine dn_ineg rfl ?_
      refine di_istore_n (ls2 := [some (dI ((-a0))), some (dI (a1)), some (.ref b), none, none, some (dI (a1)), some (dI (1))]) rfl rfl rfl ?_
      have L101 : ∀ (n : Nat) (i97 c98 : Int) (uv99 : List Value), (-i97).toNat < n → uv99.length = v.length → c98 ≤ a1 → i97 ≤ 0 → -2147483648 ≤ i97 → 1 ≤ (c98 - (a1 - sz) - 1) → (c98 - (a1 - sz) - 1) ≤ 10 → ((c98 - (a1 - sz) - 1) = 1 → -10 < i97) → ((c98 - (a1 - sz) - 1) = 2 → -100 < i97) → ((c98 - (a1 - sz) - 1) = 3 → -1000 < i97) → ((c98 - (a1 - sz) - 1) = 4 → -10000 < i97) → ((c98 - (a1 - sz) - 1) = 5 → -100000 < i97) → ((c98 - (a1 - sz) - 1) = 6 → -1000000 < i97) → ((c98 - (a1 - sz) - 1) = 7 → -10000000 < i97) → ((c98 - (a1 - sz) - 1) = 8 → -100000000 < i97) → ((c98 - (a1 - sz) - 1) = 9 → -1000000000 < i97) → dm_W (fun _ _ _ => True) (dm_P (QG h b v.length) 0 0) l 238 0 0 0 22 [some (dI (i97)), some (dI (a1)), some (.ref b), none, none, some (dI (c98)), some (dI (1))] [] (h.set b (21, uv99)) 0 0 := by
        intro n
        induction n with
        | zero => intro i97 c98 uv99 hm; exact absurd hm (Nat.not_lt_zero _)
        | succ n ih =>
          intro i97 c98 uv99 hm hu100 gc g0 g1 g2 g3 g4 g5 g6 g7 g8 g9 g10 g11 g12
          refine dr_iload_n rfl rfl ?_
          refine di_bipush rfl (by decide) ?_
          refine di_icmp_gt rfl rfl (by omega) (by omega) (by omega) (by omega) (fun c102 => ?_) (fun c102 => ?_)
          · skip
            refine di_aload_n rfl rfl ?_
            refine di_iinc (ls2 := [some (dI (i97)), some (dI (a1)), some (.ref b), none, none, some (dI ((c98 + (-1)))), some (dI (1))]) rfl rfl rfl rfl ?_
            refine dr_iload rfl rfl ?_
            refine dr_gets0 rfl (by decide +kernel) ?_
            refine dr_iload_n rfl rfl ?_
            refine dn_ineg rfl ?_
            refine dr_digit rfl (by decide) (by omega) (by omega) (fun x103 x103a x103b => ?_)
            refine pgs rfl hbl (by omega) (by omega) (fun w104 hw105 => ?_)
            have hu106 : w104.length = v.length := hw105.trans hu100
            refine dr_iload_n rfl rfl ?_
            refine di_bipush rfl (by decide) ?_
            refine di_icmp_ge rfl rfl (by omega) (by omega) (by omega) (by omega) (fun c107 => ?_) (fun c107 => ?_)
            · skip
              refine dr_iload rfl rfl ?_
              refine di_if_eq rfl rfl (by omega) (by omega) (fun c108 => ?_) (fun c108 => ?_)
              · skip
                refine dr_iload rfl rfl ?_
                exact dr_iret (ty := .int) rfl rfl rfl (by decide) (by decide) ⟨⟨w104, hu106, rfl⟩, (c98 + (-1)), rfl⟩
              · skip
                refine di_aload_n rfl rfl ?_
                refine di_iinc (ls2 := [some (dI (i97)), some (dI (a1)), some (.ref b), none, none, some (dI (((c98 + (-1)) + (-1)))), some (dI (1))]) rfl rfl rfl rfl ?_
                refine dr_iload rfl rfl ?_
                refine di_bipush rfl (by decide) ?_
                refine pgs rfl hbl (by omega) (by omega) (fun w109 hw110 => ?_)
                have hu111 : w109.length = v.length := hw110.trans hu106
                refine dr_iload rfl rfl ?_
                exact dr_iret (ty := .int) rfl rfl rfl (by decide) (by decide) ⟨⟨w109, hu111, rfl⟩, ((c98 + (-1)) + (-1)), rfl⟩
            · skip
              refine di_aload_n rfl rfl ?_
              refine di_iinc (ls2 := [some (dI (i97)), some (dI (a1)), some (.ref b), none, none, some (dI (((c98 + (-1)) + (-1)))), some (dI (1))]) rfl rfl rfl rfl ?_
              refine dr_iload rfl rfl ?_
              refine dr_gets1 rfl (by decide +kernel) ?_
              refine dr_iload_n rfl rfl ?_
              refine dn_ineg rfl ?_
              refine dr_digit rfl (by decide) (by omega) (by omega) (fun x112 x112a x112b => ?_)
              refine pgs rfl hbl (by omega) (by omega) (fun w113 hw114 => ?_)
              have hu115 : w113.length = v.length := hw114.trans hu106
              refine dr_iload rfl rfl ?_
              refine di_if_eq rfl rfl (by omega) (by omega) (fun c116 => ?_) (fun c116 => ?_)
              · skip
                refine dr_iload rfl rfl ?_
                exact dr_iret (ty := .int) rfl rfl rfl (by decide) (by decide) ⟨⟨w113, hu115, rfl⟩, ((c98 + (-1)) + (-1)), rfl⟩
              · skip
                refine di_aload_n rfl rfl ?_
                refine di_iinc (ls2 := [some (dI (i97)), some (dI (a1)), some (.ref b), none, none, some (dI ((((c98 + (-1)) + (-1)) + (-1)))), some (dI (1))]) rfl rfl rfl rfl ?_
                refine dr_iload rfl rfl ?_
                refine di_bipush rfl (by decide) ?_
                refine pgs rfl hbl (by omega) (by omega) (fun w117 hw118 => ?_)
                have hu119 : w117.length = v.length := hw118.trans hu115
                refine dr_iload rfl rfl ?_
                exact dr_iret (ty := .int) rfl rfl rfl (by decide) (by decide) ⟨⟨w117, hu119, rfl⟩, (((c98 + (-1)) + (-1)) + (-1)), rfl⟩
          · skip
            refine dr_iload_n rfl rfl ?_
            refine di_bipush rfl (by decide) ?_
            refine dn_div rfl (by omega) (by omega) ?_
            refine di_istore_n (ls2 := [some (dI (i97)), some (dI (a1)), some (.ref b), some (dI ((-((-i97) / 100)))), none, some (dI (c98)), some (dI (1))]) rfl rfl rfl ?_
            refine dr_iload_n rfl rfl ?_
            refine di_bipush rfl (by decide) ?_
            refine di_imul rfl ?_
            refine dr_iload_n rfl rfl ?_
            refine di_isub rfl ?_
            refine di_istore (ls2 := [some (dI (i97)), some (dI (a1)), some (.ref b), some (dI ((-((-i97) / 100)))), some (dI ((((-((-i97) / 100)) * 100) - i97))), some (dI (c98)), some (dI (1))]) rfl rfl rfl ?_
            refine dr_iload_n rfl rfl ?_
            refine di_istore_n (ls2 := [some (dI ((-((-i97) / 100)))), some (dI (a1)), some (.ref b), some (dI ((-((-i97) / 100)))), some (dI ((((-((-i97) / 100)) * 100) - i97))), some (dI (c98)), some (dI (1))]) rfl rfl rfl ?_
            refine di_aload_n rfl rfl ?_
            refine di_iinc (ls2 := [some (dI ((-((-i97) / 100)))), some (dI (a1)), some (.ref b), some (dI ((-((-i97) / 100)))), some (dI ((((-((-i97) / 100)) * 100) - i97))), some (dI ((c98 + (-1)))), some (dI (1))]) rfl rfl rfl rfl ?_
            refine dr_iload rfl rfl ?_
            refine dr_gets0 rfl (by decide +kernel) ?_
            refine dr_iload rfl rfl ?_
            refine dr_digit rfl (by decide) (by omega) (by omega) (fun x120 x120a x120b => ?_)
            refine pgs rfl hbl (by omega) (by omega) (fun w121 hw122 => ?_)
            have hu123 : w121.length = v.length := hw122.trans hu100
            refine di_aload_n rfl rfl ?_
            refine di_iinc (ls2 := [some (dI ((-((-i97) / 100)))), some (dI (a1)), some (.ref b), some (dI ((-((-i97) / 100)))), some (dI ((((-((-i97) / 100)) * 100) - i97))), some (dI (((c98 + (-1)) + (-1)))), some (dI (1))]) rfl rfl rfl rfl ?_
            refine dr_iload rfl rfl ?_
            refine dr_gets1 rfl (by decide +kernel) ?_
            refine dr_iload rfl rfl ?_
            refine dr_digit rfl (by decide) (by omega) (by omega) (fun x124 x124a x124b => ?_)
            refine pgs rfl hbl (by omega) (by omega) (fun w125 hw126 => ?_)
            have hu127 : w125.length = v.length := hw126.trans hu123
            refine dr_goto rfl rfl ?_
            refine dm_wk (ls2 := [some (dI ((-((-i97) / 100)))), some (dI (a1)), some (.ref b), none, none, some (dI (((c98 + (-1)) + (-1)))), some (dI (1))]) ⟨Or.inr rfl, Or.inr rfl, Or.inr rfl, Or.inl rfl, Or.inl rfl, Or.inr rfl, Or.inr rfl, trivial⟩ ?_
            exact ih ((-((-i97) / 100))) (((c98 + (-1)) + (-1))) w125 (by omega) hu127 (by omega) (by omega) (by omega) (by omega) (by omega) (by omega) (by omega) (by omega) (by omega) (by omega) (by omega) (by omega) (by omega) (by omega) 
      exact L101 _ ((-a0)) (a1) v (Nat.lt_succ_self _) rfl (by omega) (by omega) (by omega) (by omega) (by omega) (by omega) (by omega) (by omega) (by omega) (by omega) (by omega) (by omega) (by omega) (by omega) 
