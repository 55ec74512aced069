/-! ===== the law's loop and its start ===== -/
theorem in48 {y : Int} (h0 : 0 ≤ y) (h1 : y ≤ 47) : y = 0 ∨ y = 1 ∨ y = 2 ∨ y = 3 ∨ y = 4 ∨ y = 5 ∨ y = 6 ∨ y = 7 ∨ y = 8 ∨ y = 9 ∨ y = 10 ∨ y = 11 ∨ y = 12 ∨ y = 13 ∨ y = 14 ∨ y = 15 ∨ y = 16 ∨ y = 17 ∨ y = 18 ∨ y = 19 ∨ y = 20 ∨ y = 21 ∨ y = 22 ∨ y = 23 ∨ y = 24 ∨ y = 25 ∨ y = 26 ∨ y = 27 ∨ y = 28 ∨ y = 29 ∨ y = 30 ∨ y = 31 ∨ y = 32 ∨ y = 33 ∨ y = 34 ∨ y = 35 ∨ y = 36 ∨ y = 37 ∨ y = 38 ∨ y = 39 ∨ y = 40 ∨ y = 41 ∨ y = 42 ∨ y = 43 ∨ y = 44 ∨ y = 45 ∨ y = 46 ∨ y = 47 := by omega
set_option maxHeartbeats 4000000 in
set_option maxRecDepth 100000 in
theorem lw_loop (l : Launch) (hl : l.stackTraces = false) {L : Nat} {xs : Nat → Int32} (hL : L ≤ 384) : ∀ (n : Nat) (i kc : Int) (h : dm_H) (B : Int) (σ : St) (th : Int) (ce sl : Nat), (400 - i).toNat < n → 0 ≤ i → i ≤ 390 → 6 * (ce : Int) ≤ 600 + 2000 * i → 6 * (sl : Int) ≤ 6000 + 60000 * i → Inv kc kc h → CSt B σ h → MSt kc th σ h → 6 * B ≤ 20 * i → dm_W (lw_E L xs) lw_PL l 329 420 1200128 5501098 27 [some (.retAddr 2), some (.ref 0), some (.ref 26), some (.ref 36), some (dI (i)), none, none] [] h ce sl := by
  intro n
  induction n with
  | zero => intro i kc h B σ th ce sl hm; exact absurd hm (Nat.not_lt_zero _)
  | succ n ih =>
    intro i kc h B σ th ce sl hm h0 h1 h2 h3 hI hS hM hB
    refine dr_iload la_27 rfl ?_
    refine dr_aload_n la_29 rfl (Or.inr (Or.inr ⟨_, rfl⟩)) ?_
    refine dr_xlen la_30 ?_
    refine di_bipush la_31 (by decide) ?_
    refine di_isub la_33 ?_
    refine di_icmp_gt la_34 rfl (by omega) (by omega) (by omega) (by omega) (fun c => ?_) (fun c => ?_)
    · refine di_const la_2386 ?_
      exact lw_end la_2387 (by omega) (by omega)
    · have hK : lw_K l L xs i (ce + 2000) (sl + 60000) := by
        intro kc2 g2 B2 σ2 th2 hI2 hS2 hM2 hB2
        refine di_iinc (ls2 := [some (.retAddr 2), some (.ref 0), some (.ref 26), some (.ref 36), some (dI (i + 6)), none, none]) la_2380 rfl rfl rfl ?_
        refine dr_goto la_2383 rfl ?_
        exact ih (i + 6) kc2 g2 B2 σ2 th2 _ _ (by omega) (by omega) (by omega) (by omega) (by omega) hI2 hS2 hM2 hB2
      refine dr_aload_n la_37 rfl (Or.inr (Or.inr ⟨_, rfl⟩)) ?_
      refine dr_iload la_38 rfl ?_
      refine dr_xld la_40 (by omega) (by omega) hL (fun x xa xb => ?_)
      refine di_bipush la_41 (by decide) ?_
      refine du_iand la_43 (fun y ya yb => ?_)
      by_cases hy : y < 0 ∨ 47 < y
      · refine di_tabOut la_44 (by omega) (by omega) hy rfl ?_
        refine dm_cew (ce2 := ce + 2000) (sl2 := sl + 60000) (by omega) (by omega) ?_
        exact hK kc h B σ th hI hS hM (by omega)
      · have hi6 : i + 6 ≤ L := by omega
        have hce : ce + 2000 ≤ 1200128 := by omega
        have hsl : sl + 60000 ≤ 5501098 := by omega
        have hy2 := in48 (y := y) (by omega) (by omega)
        clear ih hm h1 h2 h3 c xa xb ya yb hy
        rcases hy2 with rfl | rfl | rfl | rfl | rfl | rfl | rfl | rfl | rfl | rfl | rfl | rfl | rfl | rfl | rfl | rfl | rfl | rfl | rfl | rfl | rfl | rfl | rfl | rfl | rfl | rfl | rfl | rfl | rfl | rfl | rfl | rfl | rfl | rfl | rfl | rfl | rfl | rfl | rfl | rfl | rfl | rfl | rfl | rfl | rfl | rfl | rfl | rfl
        · exact di_tabIn 0 la_44 (by decide) (by decide) (by decide) (by decide) rfl rfl (lw_c0 l hl hL hI hS hM h0 hi6 hB hce hsl hK)
        · exact di_tabIn 1 la_44 (by decide) (by decide) (by decide) (by decide) rfl rfl (lw_c1 l hl hL hI hS hM h0 hi6 hB hce hsl hK)
        · exact di_tabIn 2 la_44 (by decide) (by decide) (by decide) (by decide) rfl rfl (lw_c2 l hl hL hI hS hM h0 hi6 hB hce hsl hK)
        · exact di_tabIn 3 la_44 (by decide) (by decide) (by decide) (by decide) rfl rfl (lw_c3 l hl hL hI hS hM h0 hi6 hB hce hsl hK)
        · exact di_tabIn 4 la_44 (by decide) (by decide) (by decide) (by decide) rfl rfl (lw_c4 l hl hL hI hS hM h0 hi6 hB hce hsl hK)
        · exact di_tabIn 5 la_44 (by decide) (by decide) (by decide) (by decide) rfl rfl (lw_c5 l hl hL hI hS hM h0 hi6 hB hce hsl hK)
        · exact di_tabIn 6 la_44 (by decide) (by decide) (by decide) (by decide) rfl rfl (lw_c6 l hl hL hI hS hM h0 hi6 hB hce hsl hK)
        · exact di_tabIn 7 la_44 (by decide) (by decide) (by decide) (by decide) rfl rfl (lw_c7 l hl hL hI hS hM h0 hi6 hB hce hsl hK)
        · exact di_tabIn 8 la_44 (by decide) (by decide) (by decide) (by decide) rfl rfl (lw_c8 l hl hL hI hS hM h0 hi6 hB hce hsl hK)
        · exact di_tabIn 9 la_44 (by decide) (by decide) (by decide) (by decide) rfl rfl (lw_c9 l hl hL hI hS hM h0 hi6 hB hce hsl hK)
        · exact di_tabIn 10 la_44 (by decide) (by decide) (by decide) (by decide) rfl rfl (lw_c10 l hl hL hI hS hM h0 hi6 hB hce hsl hK)
        · exact di_tabIn 11 la_44 (by decide) (by decide) (by decide) (by decide) rfl rfl (lw_c11 l hl hL hI hS hM h0 hi6 hB hce hsl hK)
        · exact di_tabIn 12 la_44 (by decide) (by decide) (by decide) (by decide) rfl rfl (lw_c12 l hl hL hI hS hM h0 hi6 hB hce hsl hK)
        · exact di_tabIn 13 la_44 (by decide) (by decide) (by decide) (by decide) rfl rfl (lw_c13 l hl hL hI hS hM h0 hi6 hB hce hsl hK)
        · exact di_tabIn 14 la_44 (by decide) (by decide) (by decide) (by decide) rfl rfl (lw_c14 l hl hL hI hS hM h0 hi6 hB hce hsl hK)
        · exact di_tabIn 15 la_44 (by decide) (by decide) (by decide) (by decide) rfl rfl (lw_c15 l hl hL hI hS hM h0 hi6 hB hce hsl hK)
        · exact di_tabIn 16 la_44 (by decide) (by decide) (by decide) (by decide) rfl rfl (lw_c16 l hl hL hI hS hM h0 hi6 hB hce hsl hK)
        · exact di_tabIn 17 la_44 (by decide) (by decide) (by decide) (by decide) rfl rfl (lw_c17 l hl hL hI hS hM h0 hi6 hB hce hsl hK)
        · exact di_tabIn 18 la_44 (by decide) (by decide) (by decide) (by decide) rfl rfl (lw_c18 l hl hL hI hS hM h0 hi6 hB hce hsl hK)
        · exact di_tabIn 19 la_44 (by decide) (by decide) (by decide) (by decide) rfl rfl (lw_c19 l hl hL hI hS hM h0 hi6 hB hce hsl hK)
        · exact di_tabIn 20 la_44 (by decide) (by decide) (by decide) (by decide) rfl rfl (lw_c20 l hl hL hI hS hM h0 hi6 hB hce hsl hK)
        · exact di_tabIn 21 la_44 (by decide) (by decide) (by decide) (by decide) rfl rfl (lw_c21 l hl hL hI hS hM h0 hi6 hB hce hsl hK)
        · exact di_tabIn 22 la_44 (by decide) (by decide) (by decide) (by decide) rfl rfl (lw_c22 l hl hL hI hS hM h0 hi6 hB hce hsl hK)
        · exact di_tabIn 23 la_44 (by decide) (by decide) (by decide) (by decide) rfl rfl (lw_c23 l hl hL hI hS hM h0 hi6 hB hce hsl hK)
        · exact di_tabIn 24 la_44 (by decide) (by decide) (by decide) (by decide) rfl rfl (lw_c24 l hl hL hI hS hM h0 hi6 hB hce hsl hK)
        · exact di_tabIn 25 la_44 (by decide) (by decide) (by decide) (by decide) rfl rfl (lw_c25 l hl hL hI hS hM h0 hi6 hB hce hsl hK)
        · exact di_tabIn 26 la_44 (by decide) (by decide) (by decide) (by decide) rfl rfl (lw_c26 l hl hL hI hS hM h0 hi6 hB hce hsl hK)
        · exact di_tabIn 27 la_44 (by decide) (by decide) (by decide) (by decide) rfl rfl (lw_c27 l hl hL hI hS hM h0 hi6 hB hce hsl hK)
        · exact di_tabIn 28 la_44 (by decide) (by decide) (by decide) (by decide) rfl rfl (lw_c28 l hl hL hI hS hM h0 hi6 hB hce hsl hK)
        · exact di_tabIn 29 la_44 (by decide) (by decide) (by decide) (by decide) rfl rfl (lw_c29 l hl hL hI hS hM h0 hi6 hB hce hsl hK)
        · exact di_tabIn 30 la_44 (by decide) (by decide) (by decide) (by decide) rfl rfl (lw_c30 l hl hL hI hS hM h0 hi6 hB hce hsl hK)
        · exact di_tabIn 31 la_44 (by decide) (by decide) (by decide) (by decide) rfl rfl (lw_c31 l hl hL hI hS hM h0 hi6 hB hce hsl hK)
        · exact di_tabIn 32 la_44 (by decide) (by decide) (by decide) (by decide) rfl rfl (lw_c32 l hl hL hI hS hM h0 hi6 hB hce hsl hK)
        · exact di_tabIn 33 la_44 (by decide) (by decide) (by decide) (by decide) rfl rfl (lw_c33 l hl hL hI hS hM h0 hi6 hB hce hsl hK)
        · exact di_tabIn 34 la_44 (by decide) (by decide) (by decide) (by decide) rfl rfl (lw_c34 l hl hL hI hS hM h0 hi6 hB hce hsl hK)
        · exact di_tabIn 35 la_44 (by decide) (by decide) (by decide) (by decide) rfl rfl (lw_c35 l hl hL hI hS hM h0 hi6 hB hce hsl hK)
        · exact di_tabIn 36 la_44 (by decide) (by decide) (by decide) (by decide) rfl rfl (lw_c36 l hl hL hI hS hM h0 hi6 hB hce hsl hK)
        · exact di_tabIn 37 la_44 (by decide) (by decide) (by decide) (by decide) rfl rfl (lw_c37 l hl hL hI hS hM h0 hi6 hB hce hsl hK)
        · exact di_tabIn 38 la_44 (by decide) (by decide) (by decide) (by decide) rfl rfl (lw_c38 l hl hL hI hS hM h0 hi6 hB hce hsl hK)
        · exact di_tabIn 39 la_44 (by decide) (by decide) (by decide) (by decide) rfl rfl (lw_c39 l hl hL hI hS hM h0 hi6 hB hce hsl hK)
        · exact di_tabIn 40 la_44 (by decide) (by decide) (by decide) (by decide) rfl rfl (lw_c40 l hl hL hI hS hM h0 hi6 hB hce hsl hK)
        · exact di_tabIn 41 la_44 (by decide) (by decide) (by decide) (by decide) rfl rfl (lw_c41 l hl hL hI hS hM h0 hi6 hB hce hsl hK)
        · exact di_tabIn 42 la_44 (by decide) (by decide) (by decide) (by decide) rfl rfl (lw_c42 l hl hL hI hS hM h0 hi6 hB hce hsl hK)
        · exact di_tabIn 43 la_44 (by decide) (by decide) (by decide) (by decide) rfl rfl (lw_c43 l hl hL hI hS hM h0 hi6 hB hce hsl hK)
        · exact di_tabIn 44 la_44 (by decide) (by decide) (by decide) (by decide) rfl rfl (lw_c44 l hl hL hI hS hM h0 hi6 hB hce hsl hK)
        · exact di_tabIn 45 la_44 (by decide) (by decide) (by decide) (by decide) rfl rfl (lw_c45 l hl hL hI hS hM h0 hi6 hB hce hsl hK)
        · exact di_tabIn 46 la_44 (by decide) (by decide) (by decide) (by decide) rfl rfl (lw_c46 l hl hL hI hS hM h0 hi6 hB hce hsl hK)
        · exact di_tabIn 47 la_44 (by decide) (by decide) (by decide) (by decide) rfl rfl (lw_c47 l hl hL hI hS hM h0 hi6 hB hce hsl hK)
theorem lw_t8 {F : Int → Prop} (hF : F 0) : T_a 8 F rep8 := ⟨_, rfl, rfl, by decide, fun j v hj => by
  rw [List.getElem?_replicate] at hj
  split at hj
  · cases hj; exact ⟨0, hF, by omega, by omega, rfl⟩
  · cases hj⟩
theorem lw_t3 {F : Int → Prop} (hF : F 0) : T_a 3 F (20, [dI 0, dI 0, dI 0]) := ⟨_, rfl, rfl, by decide, fun j v hj => by
  match j, hj with
  | 0, hj => cases hj; exact ⟨0, hF, by omega, by omega, rfl⟩
  | 1, hj => cases hj; exact ⟨0, hF, by omega, by omega, rfl⟩
  | 2, hj => cases hj; exact ⟨0, hF, by omega, by omega, rfl⟩
  | n + 3, hj => cases hj⟩
def lw_h0 : dm_H := [(8, [.ref 1, .ref 2, .ref 3, .ref 4, .ref 6, .ref 8, dI 0, dI 0]), (22, [.ref 17, .ref 20, .ref 23]), (6, [dI (-1), dI (-1), dI (-1)]), (4, [dI (-1), dI 0, dI 0, dI 0]), (3, [.ref 5, dI 0]), rep8, (5, [.ref 7, dI 0, dI 0]), rep8, (7, [.ref 9, .ref 10, .ref 11, .ref 13, .ref 15, dI 0]), rep8, rep8, (3, [.ref 12, dI 0]), rep8, (3, [.ref 14, dI 0]), rep8, (5, [.ref 16, dI 0, dI 0]), rep8, (2, [.ref 18, .ref 19, dI 0, dI 0]), rep8, rep8, (2, [.ref 21, .ref 22, dI 0, dI 0]), rep8, rep8, (2, [.ref 24, .ref 25, dI 0, dI 0]), rep8, rep8, (10, [.ref 27, .ref 31, .ref 35, dI 0, dI 0, dI 0, dI (-1), dI (-1), dI (-1), dI (-1), dI 0, dI (-1), dI (-1)]), (23, [.ref 28, .ref 29, .ref 30]), rep8, rep8, rep8, (23, [.ref 32, .ref 33, .ref 34]), rep8, rep8, rep8, (20, [dI 0, dI 0, dI 0]), (9, [.long 0, .null])]
theorem lw_inv : Inv 0 0 lw_h0 := by
  intro i hi
  match i, hi with
  | 0, _ => exact ⟨_, rfl, 0, ⟨by omega, by omega⟩, rfl⟩
  | 1, _ => exact ⟨_, rfl, rfl⟩
  | 2, _ => exact ⟨_, rfl, -1, -1, -1, ⟨by omega, by omega⟩, ⟨by omega, by omega⟩, ⟨by omega, by omega⟩, rfl⟩
  | 3, _ => exact ⟨_, rfl, -1, 0, 0, 0, ⟨by omega, by omega⟩, ⟨by omega, by omega⟩, ⟨by omega, by omega⟩, ⟨by omega, by omega⟩, rfl⟩
  | 4, _ => exact ⟨_, rfl, 0, ⟨by omega, by omega⟩, rfl⟩
  | 5, _ => exact ⟨_, rfl, lw_t8 trivial⟩
  | 6, _ => exact ⟨_, rfl, 0, 0, ⟨by omega, by omega⟩, ⟨by omega, by omega⟩, rfl⟩
  | 7, _ => exact ⟨_, rfl, lw_t8 trivial⟩
  | 8, _ => exact ⟨_, rfl, 0, ⟨by omega, by omega⟩, rfl⟩
  | 9, _ => exact ⟨_, rfl, lw_t8 trivial⟩
  | 10, _ => exact ⟨_, rfl, lw_t8 trivial⟩
  | 11, _ => exact ⟨_, rfl, 0, ⟨by omega, by omega⟩, rfl⟩
  | 12, _ => exact ⟨_, rfl, lw_t8 trivial⟩
  | 13, _ => exact ⟨_, rfl, 0, ⟨by omega, by omega⟩, rfl⟩
  | 14, _ => exact ⟨_, rfl, lw_t8 trivial⟩
  | 15, _ => exact ⟨_, rfl, 0, 0, ⟨by omega, by omega⟩, ⟨by omega, by omega⟩, rfl⟩
  | 16, _ => exact ⟨_, rfl, lw_t8 trivial⟩
  | 17, _ => exact ⟨_, rfl, 0, 0, ⟨by omega, by omega⟩, ⟨by omega, by omega⟩, rfl⟩
  | 18, _ => exact ⟨_, rfl, lw_t8 ⟨by omega, by omega, by decide⟩⟩
  | 19, _ => exact ⟨_, rfl, lw_t8 trivial⟩
  | 20, _ => exact ⟨_, rfl, 0, 0, ⟨by omega, by omega⟩, ⟨by omega, by omega⟩, rfl⟩
  | 21, _ => exact ⟨_, rfl, lw_t8 ⟨by omega, by omega, by decide⟩⟩
  | 22, _ => exact ⟨_, rfl, lw_t8 trivial⟩
  | 23, _ => exact ⟨_, rfl, 0, 0, ⟨by omega, by omega⟩, ⟨by omega, by omega⟩, rfl⟩
  | 24, _ => exact ⟨_, rfl, lw_t8 ⟨by omega, by omega, by decide⟩⟩
  | 25, _ => exact ⟨_, rfl, lw_t8 trivial⟩
  | 26, _ => exact ⟨_, rfl, 0, 0, -1, -1, -1, -1, 0, -1, -1, ⟨by omega, by omega⟩, ⟨by omega, by omega⟩, ⟨by omega, by omega⟩, ⟨by omega, by omega⟩, ⟨by omega, by omega⟩, ⟨by omega, by omega⟩, ⟨by omega, by omega⟩, ⟨by omega, by omega⟩, Or.inl rfl, rfl⟩
  | 27, _ => exact ⟨_, rfl, rfl⟩
  | 28, _ => exact ⟨_, rfl, lw_t8 ⟨by omega, by omega, by decide⟩⟩
  | 29, _ => exact ⟨_, rfl, lw_t8 ⟨by omega, by omega, by decide⟩⟩
  | 30, _ => exact ⟨_, rfl, lw_t8 ⟨by omega, by omega, by decide⟩⟩
  | 31, _ => exact ⟨_, rfl, rfl⟩
  | 32, _ => exact ⟨_, rfl, lw_t8 trivial⟩
  | 33, _ => exact ⟨_, rfl, lw_t8 trivial⟩
  | 34, _ => exact ⟨_, rfl, lw_t8 trivial⟩
  | 35, _ => exact ⟨_, rfl, lw_t3 ⟨by omega, by omega⟩⟩
  | 36, _ => exact ⟨_, rfl, 0, .null, rfl⟩
  | n + 37, hi => exact absurd hi (by omega)
/-- at the start: empty books, no part, no hand -/
def lw_s0 : St := (fun _ _ => -1, (-1, -1, -1), (-1, 0, -1, -1, 0))
theorem lw_ar {F : Int → Prop} (hF : F 0) : arr 8 F (List.replicate 8 (dI 0)) := by
  obtain ⟨vs, e, ha⟩ := lw_t8 hF
  cases e
  exact ha
theorem lw_rep {f g : Int → Int} {s : Int} (hs : s = 0) : Rep f g s (fun _ => -1) := by
  subst hs
  exact ⟨⟨Int.le_refl _, fun j h0 h1 => by omega⟩, fun c hc => absurd rfl hc, fun i j h0 h1 h2 => by omega⟩
theorem lw_cst : CSt 0 lw_s0 lw_h0 := by
  refine ⟨⟨⟨fun _ => 0, fun k b k0 k1 kb => ?_, 0, 0, 0, rfl, ?_⟩, ⟨0, rfl⟩⟩, rfl, ?_⟩
  · refine ⟨⟨Int.le_refl 0, Int.le_refl 0⟩, 0, List.replicate 8 (dI 0), List.replicate 8 (dI 0), ?_, lw_rep rfl, fun i j h0 h1 h2 => by omega⟩
    have oC : okC 0 := ⟨by omega, by omega, by decide⟩
    rcases (by omega : k = 0 ∨ k = 1 ∨ k = 2) with rfl | rfl | rfl
    · have e : b = 17 := by omega
      subst e
      exact ⟨rfl, rfl, rfl, lw_ar oC, lw_ar trivial, by omega, by omega, (show (-2147483648 : Int) ≤ 0 by decide), (show (0 : Int) < 2147483648 by decide)⟩
    · have e : b = 20 := by omega
      subst e
      exact ⟨rfl, rfl, rfl, lw_ar oC, lw_ar trivial, by omega, by omega, (show (-2147483648 : Int) ≤ 0 by decide), (show (0 : Int) < 2147483648 by decide)⟩
    · have e : b = 23 := by omega
      subst e
      exact ⟨rfl, rfl, rfl, lw_ar oC, lw_ar trivial, by omega, by omega, (show (-2147483648 : Int) ≤ 0 by decide), (show (0 : Int) < 2147483648 by decide)⟩
  · refine ⟨⟨by decide, by decide⟩, ⟨by decide, by decide⟩, Or.inl rfl, ⟨by decide, by decide⟩, Or.inl rfl, ⟨by decide, by decide⟩, ⟨by decide, by decide⟩, fun g0 => absurd g0 (by decide)⟩
  · refine ⟨⟨by decide, by decide⟩, ⟨by decide, by decide⟩, ⟨by decide, by decide⟩, fun g0 => absurd g0 (by decide)⟩
theorem lw_mst : MSt 0 0 lw_s0 lw_h0 := by
  refine ⟨⟨0, rfl, by decide, by decide, rfl⟩, ⟨⟨by decide, by decide⟩, ⟨by decide, by decide⟩, ⟨by decide, by decide⟩, ⟨by decide, by decide⟩, ⟨by decide, by decide⟩, ⟨by decide, by decide⟩, Or.inl rfl⟩, ⟨by decide, by decide⟩, [dI 0, dI 0, dI 0], rfl, ?_, fun k k0 k1 => ?_⟩
  · obtain ⟨vs, e, ha⟩ := lw_t3 (F := okS) ⟨by omega, by omega⟩
    cases e
    exact ha
  · have oC : okC 0 := ⟨by omega, by omega, by decide⟩
    refine ⟨List.replicate 8 (dI 0), List.replicate 8 (dI 0), fun r q er eq => ?_, lw_rep ?_⟩
    · rcases (by omega : k = 0 ∨ k = 1 ∨ k = 2) with rfl | rfl | rfl
      · have e1 : r = 28 := by omega
        have e2 : q = 32 := by omega
        subst e1; subst e2
        exact ⟨rfl, rfl, lw_ar oC, lw_ar trivial⟩
      · have e1 : r = 29 := by omega
        have e2 : q = 33 := by omega
        subst e1; subst e2
        exact ⟨rfl, rfl, lw_ar oC, lw_ar trivial⟩
      · have e1 : r = 30 := by omega
        have e2 : q = 34 := by omega
        subst e1; subst e2
        exact ⟨rfl, rfl, lw_ar oC, lw_ar trivial⟩
    · rcases (by omega : k = 0 ∨ k = 1 ∨ k = 2) with rfl | rfl | rfl <;> decide
set_option maxHeartbeats 4000000 in
set_option maxRecDepth 100000 in
theorem lw_go (l : Launch) (hl : l.stackTraces = false) {L : Nat} {xs : Nat → Int32} (hL : L ≤ 384) : dm_W (lw_E L xs) lw_PL l 329 420 1200128 5501098 0 [some (.retAddr 2), none, none, none, none, none, none] [] [] 0 0 := by
  refine dr_new (fs := [.null, .null, .null, .null, .null, .null, dI 0, dI 0]) la_0 rfl (by decide) (by decide) ?_
  show dm_W (lw_E L xs) lw_PL l 329 420 1200128 5501098 3 [some (.retAddr 2), none, none, none, none, none, none] [.ref 0] [(8, [.null, .null, .null, .null, .null, .null, dI 0, dI 0])] 1 8
  refine dr_dup la_3 rfl ?_
  refine dr_init la_4 rfl rfl rfl rfl (s_X6_init l hl) kQE0 (by decide) (by decide) (by decide) (Nat.le_of_ble_eq_true rfl) (kQE ?_)
  refine di_astore_n (ls2 := [some (.retAddr 2), some (.ref 0), none, none, none, none, none]) la_7 rfl rfl ?_
  refine dr_new (fs := [.null, .null, .null, dI 0, dI 0, dI 0, dI 0, dI 0, dI 0, dI 0, dI 0, dI 0, dI 0]) la_8 rfl (by decide) (by decide) ?_
  show dm_W (lw_E L xs) lw_PL l 329 420 1200128 5501098 11 [some (.retAddr 2), some (.ref 0), none, none, none, none, none] [.ref 26] [(8, [.ref 1, .ref 2, .ref 3, .ref 4, .ref 6, .ref 8, dI 0, dI 0]), (22, [.ref 17, .ref 20, .ref 23]), (6, [dI (-1), dI (-1), dI (-1)]), (4, [dI (-1), dI 0, dI 0, dI 0]), (3, [.ref 5, dI 0]), rep8, (5, [.ref 7, dI 0, dI 0]), rep8, (7, [.ref 9, .ref 10, .ref 11, .ref 13, .ref 15, dI 0]), rep8, rep8, (3, [.ref 12, dI 0]), rep8, (3, [.ref 14, dI 0]), rep8, (5, [.ref 16, dI 0, dI 0]), rep8, (2, [.ref 18, .ref 19, dI 0, dI 0]), rep8, rep8, (2, [.ref 21, .ref 22, dI 0, dI 0]), rep8, rep8, (2, [.ref 24, .ref 25, dI 0, dI 0]), rep8, rep8, (10, [.null, .null, .null, dI 0, dI 0, dI 0, dI 0, dI 0, dI 0, dI 0, dI 0, dI 0, dI 0])] 27 165
  refine dr_dup la_11 rfl ?_
  refine dr_init la_12 rfl rfl rfl rfl (s_X8_init l hl) kQE0 (by decide) (by decide) (by decide) (Nat.le_of_ble_eq_true rfl) (kQE ?_)
  refine di_astore_n (ls2 := [some (.retAddr 2), some (.ref 0), some (.ref 26), none, none, none, none]) la_15 rfl rfl ?_
  refine dr_new (fs := [.long 0, .null]) la_16 rfl (by decide) (by decide) ?_
  show dm_W (lw_E L xs) lw_PL l 329 420 1200128 5501098 19 [some (.retAddr 2), some (.ref 0), some (.ref 26), none, none, none, none] [.ref 36] lw_h0 37 224
  refine dr_dup la_19 rfl ?_
  refine dr_initN la_20 rfl rfl rfl rfl (s_X7_init l hl (p := 36) rfl) kQE0 (by decide) (by decide) (by decide) (Nat.le_of_ble_eq_true rfl) (kQE ?_)
  refine di_astore_n (ls2 := [some (.retAddr 2), some (.ref 0), some (.ref 26), some (.ref 36), none, none, none]) la_23 rfl rfl ?_
  refine di_const la_24 ?_
  refine di_istore (ls2 := [some (.retAddr 2), some (.ref 0), some (.ref 26), some (.ref 36), some (dI (0)), none, none]) la_25 rfl rfl ?_
  exact lw_loop l hl hL 401 0 0 lw_h0 0 lw_s0 0 _ _ (by decide) (by decide) (by decide) (by decide) (by decide) lw_inv lw_cst lw_mst (by decide)
