/-! ===== the model's isSetSound ===== -/
section MG
variable {F f g : Int → Int} {s A n d p : Int}
theorem ap_leG (hr : Rep f g s F) (ht : Srt f s) (hok : okf f s) (hS : ∀ r : Int, 0 ≤ r → r ≤ 7 → hbt A r → r < s) (hn : chn F n.toNat = -1) (n0 : 0 ≤ n) (ha : apt f s A) : bb A 8 ≤ n := by
  by_cases hz : bb A 8 = 0
  · omega
  · have b0 := bb_nn A 8
    obtain ⟨k, k0, k1, k2, k3⟩ := bb_pv (A := A) 8 (by show 0 < bb A 8; omega)
    have k3 : bb A k + 1 = bb A 8 := k3
    obtain ⟨h1, h2, -⟩ := ch_ea hr ht hok ha 8 k k0 k1 (hS k k0 (by omega) k2) k2
    have := mo_le hn h1 h2
    have := bb_nn A k
    omega
theorem me_leG (hr : Rep f g s F) (hok : okf f s) (s8 : s ≤ 8) (hS : hsP A s (hbt A)) (hp : isDp F p) (hd : d = cnt f (hoP p) s.toNat) (hm : ∀ r k : Int, 0 ≤ r → r < s → 0 ≤ k → k < s → hbt A r → hbt A k → mt f k r) : bb A 8 ≤ d := by
  have d0 := (cnt_b f (hoP p) s.toNat).1
  rcases he_lly hr.1.1 s8 hok hS hm with e | ⟨q, ⟨j, j0, j1, ej⟩, h⟩
  · omega
  · have h9 := Rep_at hr j0 j1
    rcases hp with ⟨-, hz⟩ | ⟨-, -, hx, -⟩
    · exact absurd (hz _) (Rep_yes hr j0 j1 rfl).2.1
    · have := hx q (by omega) (by omega)
      rw [dp_e hr, dp_e hr] at this
      omega
theorem un_0 {v : List Value} {N : Nat} (h : unC (cv v) N A = 0) : ∀ r : Int, 0 ≤ r → r < N → heQ (cv v) N A r := fun r r0 r1 => by
  have := cnt_z N h r r0 r1
  exact Classical.byContradiction fun hn => by
    have k : nhP (cv v) N A r = true := @decide_eq_true _ (Classical.propDecidable _) hn
    rw [k] at this; cases this
end MG
set_option maxHeartbeats 4000000 in
set_option maxRecDepth 100000 in
theorem s_X8_isSetSound_f (l : Launch) (hl : l.stackTraces = false) {kc km : Int} {h : dm_H} (hI : Inv kc km h) {b0 n0 : Nat} {v0 : List Value} (hv0 : h[b0]? = some (20, v0)) (hz0 : arr n0 okR v0) (hn0 : n0 ≤ 8) {A : Int} (A0 : 0 ≤ A) (A1 : A < pwI (n0 : Int)) {b2 n2 : Nat} {v2 : List Value} (hv2 : h[b2]? = some (20, v2)) (hz2 : arr n2 okR v2) (hn2 : n2 ≤ 100) {a3 : Int} (h3a : 0 ≤ a3) (h3b : a3 ≤ 8)
    {F f g : Int → Int} {p : Int} (hr : Rep f g (n0 : Int) F) (ht : Srt f (n0 : Int)) (hok : okf f (n0 : Int)) (hv : ∀ j : Int, 0 ≤ j → j < n0 → cv v0 j = f j) (hm : moP F n2) (hc : chn F n2 = -1) (hp2 : ∀ j : Int, 0 ≤ j → j < n2 → cv v2 j = chn F j.toNat) (hp : isDp F p) (hd : a3 = cnt f (hoP p) n0) : dm_M l 218 3 0 0 [.ref b0, dI A, .ref b2, dI a3] h (QP h (RI (fun x => x = 1)) []) := by
  have p8 := pwI_8 (r := (n0 : Int)) (by omega) (by omega)
  have A2 : A ≤ 255 := by omega
  have hS := (set_lt A0 A2 (n := (n0 : Int)) (by omega) (by omega)).mp A1
  have hS2 := set_hs A0 A2 (n := (n0 : Int)) (by omega) (by omega) A1
  have hO : okV v0 n0 := fun j j0 j1 => by
    rw [hv j j0 j1]
    exact ⟨(Rep_at hr j0 j1).1.1, hok j j0 j1⟩
  refine dm_M_of dk_218 hl rfl (Nat.le_of_ble_eq_true rfl) ?_
  show dm_W (fun _ _ _ => True) (dm_P (QP h (RI (fun x => x = 1)) []) 0 0) l 218 3 0 0 0 [some (.ref b0), some (dI A), some (.ref b2), some (dI a3), none, none, none] [] h 0 0
  refine dr_iload_n rfl rfl ?_
  refine dr_stat rfl rfl rfl rfl (s_X8_sizeOf_s l hl hI (a0 := A) A0 A2) (by decide) (by decide) (by decide) (Nat.le_of_ble_eq_true rfl) kNP (kIP (fun y yf ya yb => ?_))
  obtain ⟨yc, yd, yk⟩ := yf
  refine di_istore (ls2 := [some (.ref b0), some (dI A), some (.ref b2), some (dI a3), some (dI y), none, none]) rfl rfl rfl ?_
  refine di_aload_n rfl rfl ?_
  refine dr_iload_n rfl rfl ?_
  refine dr_stat rfl rfl rfl rfl (s_X8_isApart_f l hl hI (b0 := b0) (n0 := n0) (v0 := v0) hv0 hz0 hn0 (a1 := A) A0 A2 (hv := hO)) (by decide) (by decide) (by decide) (Nat.le_of_ble_eq_true rfl) kNP (kIP (fun t tf ta tb => ?_))
  obtain ⟨tc, td, tk, tk2⟩ := tf
  have J73 : ∀ (o5 o6 : Option Value), dm_W (fun _ _ _ => True) (dm_P (QP h (RI (fun x => x = 1)) []) 0 0) l 218 3 0 0 73 [some (.ref b0), some (dI A), some (.ref b2), some (dI a3), some (dI y), none, none] [] h 0 0 := by
    intro o5 o6
    have J88 : dm_W (fun _ _ _ => True) (dm_P (QP h (RI (fun x => x = 1)) []) 0 0) l 218 3 0 0 88 [some (.ref b0), some (dI A), some (.ref b2), some (dI a3), some (dI y), none, none] [] h 0 0 := by
      refine dr_iload rfl rfl ?_
      refine dr_iload_n rfl rfl ?_
      refine di_icmp_le rfl rfl (by omega) (by omega) (by omega) (by omega) (fun c => ?_) (fun c => ?_)
      · refine di_const rfl ?_
        refine dr_goto rfl rfl ?_
        exact dr_iret (ty := .boolean) rfl rfl (nar_z (by omega) (by omega)) (by decide) (by decide) ⟨rfl, 1, rfl, by omega, by omega, rfl⟩
      refine di_aload_n rfl rfl ?_
      refine dr_iload_n rfl rfl ?_
      refine dr_stat rfl rfl rfl rfl (s_X8_areAllMeeting_f l hl hI (b0 := b0) (n0 := n0) (v0 := v0) hv0 hz0 hn0 (a1 := A) A0 A2 (hv := hO)) (by decide) (by decide) (by decide) (Nat.le_of_ble_eq_true rfl) kNP (kIP (fun z zf za zb => ?_))
      obtain ⟨zc, zd, zk⟩ := zf
      have hz : z = 1 → False := fun e => by
        have := me_leG hr hok (by omega) hS2 hp hd (fun r k r0 r1 k0 k1 hR hK => by
          have := zk e r k r0 r1 k0 k1 hR hK
          unfold mt at *
          rw [hv k k0 k1, hv r r0 r1] at this
          exact this)
        omega
      clear zk
      refine di_if_ne rfl rfl (by omega) (by omega) (fun c2 => ?_) (fun c2 => ?_)
      · exact (hz (by omega)).elim
      · refine di_const rfl ?_
        refine dr_goto rfl rfl ?_
        exact dr_iret (ty := .boolean) rfl rfl (nar_z (by omega) (by omega)) (by decide) (by decide) ⟨rfl, 1, rfl, by omega, by omega, rfl⟩
    refine dr_iload rfl rfl ?_
    refine di_aload_n rfl rfl ?_
    refine di_alen (n := n2) rfl hv2 (Or.inl rfl) hz2.1 ?_
    refine di_icmp_ge rfl rfl (by omega) (by omega) (by omega) (by omega) (fun c => ?_) (fun c => ?_)
    · exact J88
    refine di_aload_n rfl rfl ?_
    refine dr_iload_n rfl rfl ?_
    refine dr_stat rfl rfl rfl rfl (s_X8_unheldIn_f l hl hI (b0 := b0) (n0 := n0) (v0 := v0) hv0 hz0 hn0 (a1 := A) A0 A2 (hv := hO)) (by decide) (by decide) (by decide) (Nat.le_of_ble_eq_true rfl) kNP (kIP (fun z zf za zb => ?_))
    obtain ⟨zc, zd, zk⟩ := zf
    have hz : z ≤ 0 → False := fun e => by
      have h0 := un_0 (v := v0) (N := n0) (A := A) (by rw [← zk]; omega)
      have := he_m hr ht (by omega) (A := A) (fun r r0 r1 => by
        obtain ⟨k, k0, k1, k2, k3⟩ := h0 r r0 r1
        rw [hv k k0 k1, hv r r0 r1] at k3
        exact ⟨k, k0, k1, k2, k3⟩) (m := (n2 : Int)) (by omega) (by rw [show (n2 : Int).toNat = n2 by omega]; exact hm)
      omega
    clear zk
    refine di_if_le rfl rfl (by omega) (by omega) (fun c2 => ?_) (fun c2 => ?_)
    · exact (hz c2).elim
    · exact J88
  refine di_if_eq rfl rfl (by omega) (by omega) (fun c => ?_) (fun c => ?_)
  · exact J73 none none
  have hapt : apt f n0 A := apt_cg hv (tk (by omega))
  have hle := ap_leG hr ht hok hS (n := (n2 : Int)) (by rw [show (n2 : Int).toNat = n2 by omega]; exact hc) (by omega) hapt
  clear tk tk2
  refine dr_iload rfl rfl ?_
  refine di_aload_n rfl rfl ?_
  refine di_alen (n := n2) rfl hv2 (Or.inl rfl) hz2.1 ?_
  refine di_icmp_le rfl rfl (by omega) (by omega) (by omega) (by omega) (fun _ => ?_) (fun c2 => absurd c2 (by omega))
  refine di_const rfl ?_
  refine di_istore (ls2 := [some (.ref b0), some (dI A), some (.ref b2), some (dI a3), some (dI y), some (dI 0), none]) rfl rfl rfl ?_
  refine di_const rfl ?_
  refine di_istore (ls2 := [some (.ref b0), some (dI A), some (.ref b2), some (dI a3), some (dI y), some (dI 0), some (dI 0)]) rfl rfl rfl ?_
  have L : ∀ (k : Nat) (nt i : Int), (8 - i).toNat < k → 0 ≤ i → i ≤ 8 → nt = bb A i → 0 ≤ nt → nt ≤ 8 → dm_W (fun _ _ _ => True) (dm_P (QP h (RI (fun x => x = 1)) []) 0 0) l 218 3 0 0 29 [some (.ref b0), some (dI A), some (.ref b2), some (dI a3), some (dI y), some (dI nt), some (dI i)] [] h 0 0 := by
    intro k
    induction k with
    | zero => intro nt i hm; exact absurd hm (Nat.not_lt_zero _)
    | succ k ih =>
      intro nt i hm9 i0 i8 hnt nt0 nt8
      refine dr_iload rfl rfl ?_
      refine di_aload_n rfl rfl ?_
      refine di_alen (n := n0) rfl hv0 (Or.inl rfl) hz0.1 ?_
      refine di_icmp_ge rfl rfl (by omega) (by omega) (by omega) (by omega) (fun c2 => ?_) (fun c2 => ?_)
      · refine dm_wk (ls2 := [some (.ref b0), some (dI A), some (.ref b2), some (dI a3), some (dI y), none, none]) ⟨Or.inr rfl, Or.inr rfl, Or.inr rfl, Or.inr rfl, Or.inr rfl, Or.inl rfl, Or.inl rfl, trivial⟩ ?_
        exact J73 none none
      refine dr_iload_n rfl rfl ?_
      refine dr_iload rfl rfl ?_
      refine dr_stat rfl rfl rfl rfl (s_X8_isOf_s l hl hI (a0 := A) A0 A2 (a1 := i) (by omega) (by omega)) (by decide) (by decide) (by decide) (Nat.le_of_ble_eq_true rfl) kNP (kIP (fun z zf za zb => ?_))
      obtain ⟨zc, zd, ze⟩ := zf
      have zh := isof_h (S := A) (r := i) i0 ze
      refine di_if_eq rfl rfl (by omega) (by omega) (fun c3 => ?_) (fun c3 => ?_)
      · have e9 := bb_n9 i0 (zh.2 c3)
        refine di_iinc (ls2 := [some (.ref b0), some (dI A), some (.ref b2), some (dI a3), some (dI y), some (dI nt), some (dI (i + 1))]) rfl rfl rfl rfl ?_
        refine dr_goto rfl rfl ?_
        exact ih nt (i + 1) (by omega) (by omega) (by omega) (by omega) nt0 nt8
      have hin := zh.1 (by omega)
      clear zh
      have e9 := bb_y9 i0 hin
      have bm := bb_ml (A := A) (i := i + 1) (j := 8) (by omega) (by omega)
      obtain ⟨h1, h2, h3⟩ := ch_ea hr ht hok hapt (i.toNat + 1) i i0 (by omega) (by omega) hin
      have h4 := mo_le hc h1 h2
      have pe := hp2 nt nt0 (by omega)
      rw [hnt] at pe
      refine di_aload_n rfl rfl ?_
      refine dr_iload rfl rfl ?_
      refine di_iald rfl hv0 hz0 (by omega) (by omega) (fun x xf xa xb xv => ?_)
      have xw : cv v0 i = x := cv_eq xv xa xb
      have xo := hO i i0 (by omega)
      have xe := hv i i0 (by omega)
      have xg : -1 ≤ x ∧ x ≤ 9999 := xf
      refine di_bipush rfl (by decide) ?_
      refine dR_div rfl (by omega) (by omega) (fun q qa qb qe => ?_)
      have qe := qe (by omega)
      refine di_aload_n rfl rfl ?_
      refine dr_iload rfl rfl ?_
      refine di_iinc (ls2 := [some (.ref b0), some (dI A), some (.ref b2), some (dI a3), some (dI y), some (dI (nt + 1)), some (dI i)]) rfl rfl rfl rfl ?_
      refine di_iald rfl hv2 hz2 (by omega) (by omega) (fun x2 x2f x2a x2b x2v => ?_)
      have x2w : cv v2 nt = x2 := cv_eq x2v x2a x2b
      rw [hnt] at x2w
      have x2g : -1 ≤ x2 ∧ x2 ≤ 9999 := x2f
      refine di_bipush rfl (by decide) ?_
      refine dR_div rfl (by omega) (by omega) (fun q2 q2a q2b q2e => ?_)
      have q2e := q2e (by omega)
      have hge : q2 ≤ q := by
        rw [q2e, qe, ← x2w, pe, ← xw, xe]; exact h3
      refine di_icmp_ge rfl rfl (by omega) (by omega) (by omega) (by omega) (fun _ => ?_) (fun c4 => absurd c4 (by omega))
      refine di_iinc (ls2 := [some (.ref b0), some (dI A), some (.ref b2), some (dI a3), some (dI y), some (dI (nt + 1)), some (dI (i + 1))]) rfl rfl rfl rfl ?_
      refine dr_goto rfl rfl ?_
      exact ih (nt + 1) (i + 1) (by omega) (by omega) (by omega) (by omega) (by omega) (by omega)
  exact L _ 0 0 (Nat.lt_succ_self _) (by omega) (by omega) rfl (by omega) (by omega)
