/-! ===== the class's trial: a set ===== -/
theorem all_b : ∀ n : Fin 9, ∀ r : Fin 8, r.val < n.val → (2 ^ n.val - 1).testBit r.val = true := by decide +kernel
theorem all_bt {s r : Int} (s0 : 0 ≤ s) (s8 : s ≤ 8) (r0 : 0 ≤ r) (r1 : r < s) : hbt (pwI s - 1) r := by
  obtain ⟨n, rfl⟩ := Int.eq_ofNat_of_zero_le s0
  obtain ⟨q, rfl⟩ := Int.eq_ofNat_of_zero_le r0
  have k : (2 ^ n - 1).testBit q = true := all_b ⟨n, by omega⟩ ⟨q, by omega⟩ (show q < n by omega)
  have p := Nat.one_le_two_pow (n := n)
  have e : (pwI (n : Int) - 1).toNat = 2 ^ n - 1 := by
    show (((2 ^ n : Nat) : Int) - 1).toNat = 2 ^ n - 1
    omega
  show (pwI (n : Int) - 1).toNat.testBit q = true
  rw [e]; exact k
section TS
variable {F : Int → Int} {u w v mv he : List Value} {s A n i x y d p m : Int}
theorem CA_okf {b : Nat} {h : dm_H} (hC : CA b s m u w h) : okf (cv u) s := (CA_arr hC).1
theorem ap_le (hr : Rep (cv u) (cv w) s F) (ht : Srt (cv u) s) (hok : okf (cv u) s) (s8 : s ≤ 8) (hS : ∀ r : Int, 0 ≤ r → r ≤ 7 → hbt A r → r < s) (hf : fcE F u v s n) (n0 : 0 ≤ n) (ha : apt (cv u) s A) : bb A 8 ≤ n := by
  by_cases hz : bb A 8 = 0
  · omega
  · have b0 := bb_nn A 8
    obtain ⟨k, k0, k1, k2, k3⟩ := bb_pv (A := A) 8 (by show 0 < bb A 8; omega)
    have k3 : bb A k + 1 = bb A 8 := k3
    obtain ⟨h1, h2, -⟩ := ch_ea hr ht hok ha 8 k k0 k1 (hS k k0 (by omega) k2) k2
    have := mo_le hf.1.2 h1 h2
    have := bb_nn A k
    omega
theorem hd_ge (hr : Rep (cv u) (cv w) s F) (ht : Srt (cv u) s) (s0 : 0 ≤ s) (s8 : s ≤ 8) (hS : ∀ r : Int, 0 ≤ r → r ≤ 7 → hbt A r → r < s) (hf : fcE F u v s n) (n0 : 0 ≤ n) (hH : heP x 8 s (cv u) A) (e : x = pwI s - 1) : n ≤ bb A 8 := he_m hr ht s8 (fun r r0 r1 => by
  subst e
  obtain ⟨-, k, k0, k1, k2, k3⟩ := (hH.2 r r0 (by omega)).mp (all_bt s0 s8 r0 r1)
  exact ⟨k, k0, hS k k0 (by omega) k2, k2, k3⟩) n0 hf.1.1
theorem me_le (hr : Rep (cv u) (cv w) s F) (hok : okf (cv u) s) (s8 : s ≤ 8) (hS : hsP A s (hbt A)) (hp : isDp F p) (hd : d = cnt (cv u) (hoP p) s.toNat) (hm : ∀ r k : Int, 0 ≤ r → r < s → 0 ≤ k → k < s → hbt A r → hbt A k → mt (cv u) k r) : bb A 8 ≤ d := by
  have d0 := (cnt_b (cv u) (hoP p) s.toNat).1
  rcases he_lly hr.1.1 s8 hok hS hm with e | ⟨q, ⟨j, j0, j1, ej⟩, h⟩
  · omega
  · rcases hp with ⟨-, hz⟩ | ⟨-, -, hx, -⟩
    · exact absurd (hz _) (Rep_yes hr j0 j1 rfl).2.1
    · have := hx q (by omega) (by omega)
      rw [dp_e hr, dp_e hr] at this
      omega
theorem me_y {mm : Int} (A0 : 0 ≤ A) (A1 : A ≤ 255) (s8 : s ≤ 8) (hm : hsP mm s (fun r => cv u r % 100 ≤ cv u i / 100 ∧ cv u i % 100 ≤ cv u r / 100)) (ex : x = andI mm A) (e : x = A) : ∀ k : Int, 0 ≤ k → k < s → hbt A k → mt (cv u) k i := fun k k0 k1 hk => by
  have h1 := sB_and hm (sB_self A0 A1)
  rw [← ex, e] at h1
  exact ((h1.2 k k0 (by omega)).mp hk).1.2
theorem ea_x {t1 t2 : Int} (hr : Rep (cv u) (cv w) s F) (ht : Srt (cv u) s) (hok : okf (cv u) s) (hf : fcE F u v s n) (n0 : 0 ≤ n) (i0 : 0 ≤ i) (i1 : i < s) (hA : hbt A i) (e1 : t1 = cv u i / 100) (y1 : 0 ≤ bb A i → bb A i < n → y = cv v (bb A i)) (e2 : 0 ≤ y → y < s → t2 = cv u y / 100) (c : t1 < t2) : ¬ apt (cv u) s A := fun ha => by
  obtain ⟨h1, h2, h3⟩ := ch_ea hr ht hok ha (i.toNat + 1) i i0 (by omega) i1 hA
  have h4 := mo_le hf.1.2 h1 h2
  have b0 := bb_nn A i
  obtain ⟨⟨p0, p1⟩, p2⟩ := hf.2 (bb A i) b0 (by omega)
  have ey := y1 b0 (by omega)
  have := e2 (by omega) (by omega)
  rw [ey, p2] at this
  omega
theorem bb_n9 (h0 : 0 ≤ i) (h : ¬ hbt A i) : bb A (i + 1) = bb A i := by
  rcases bb_s (S := A) (r := i) h0 with ⟨-, e⟩ | ⟨e, -⟩
  · exact absurd e h
  · exact e
theorem bb_y9 (h0 : 0 ≤ i) (h : hbt A i) : bb A (i + 1) = bb A i + 1 := by
  rcases bb_s (S := A) (r := i) h0 with ⟨e, -⟩ | ⟨-, e⟩
  · exact e
  · exact absurd h e
def meP (u : List Value) (s A i : Int) : Prop := ∀ r k : Int, 0 ≤ r → r < i → 0 ≤ k → k < s → hbt A r → hbt A k → mt (cv u) k r
theorem meP_n (h : meP u s A i) (hA : ¬ hbt A i) : meP u s A (i + 1) := fun r k r0 r1 k0 k1 hr hk => by
  by_cases e : r = i
  · rw [e] at hr; exact absurd hr hA
  · exact h r k r0 (by omega) k0 k1 hr hk
theorem meP_y (h : meP u s A i) (hA : ∀ k : Int, 0 ≤ k → k < s → hbt A k → mt (cv u) k i) : meP u s A (i + 1) := fun r k r0 r1 k0 k1 hr hk => by
  by_cases e : r = i
  · rw [e]; exact hA k k0 k1 hk
  · exact h r k r0 (by omega) k0 k1 hr hk
end TS
set_option maxHeartbeats 4000000 in
set_option maxRecDepth 100000 in
theorem f_X5_isSetTrue (l : Launch) (hl : l.stackTraces = false) {kc km : Int} {h : dm_H} (hI : Inv kc km h) {b : Nat} (hb : isBk b) {s m : Int} {u w : List Value} (hC : CA b s m u w h) {F : Int → Int} (hr : Rep (cv u) (cv w) s F) (ht : Srt (cv u) s) {d : Int} {mv he : List Value} {n : Int} {v : List Value} {m2 : Int} {rv : List Value} (hT : TrS F u s d mv he n v m2 rv h) {A : Int} (A0 : 0 ≤ A) (A1 : A < pwI s) {a3 : Int} (h3 : a3 = pwI s - 1) : dm_M l 50 3 0 0 [.ref 8, .ref b, dI A, dI a3] h (QP h (RI (fun x => x = 1)) []) := by
  obtain ⟨⟨t1, t2, t3, t4, t5⟩, ⟨hA1, hf⟩, -, hMe, hHo, p, hp, hd⟩ := id hT
  obtain ⟨c1, c2, c3, n0, n8⟩ := id hA1
  have s0 := hC.2.2.2.2.2.1
  have s8 := hC.2.2.2.2.2.2.1
  have p8 := pwI_8 s0 s8
  have A2 : A ≤ 255 := by omega
  have hok := CA_okf hC
  have hS := (set_lt A0 A2 s0 s8).mp A1
  have hS2 := set_hs A0 A2 s0 s8 A1
  have b8 := bb_8 (s := A) A0 A2
  have d0 := (cnt_b (cv u) (hoP p) s.toNat).1
  have d8 := (cnt_b (cv u) (hoP p) s.toNat).2
  refine dm_M_of dk_50 hl rfl (Nat.le_of_ble_eq_true rfl) ?_
  show dm_W (fun _ _ _ => True) (dm_P (QP h (RI (fun x => x = 1)) []) 0 0) l 50 3 0 0 0 [some (.ref 8), some (.ref b), some (dI A), some (dI a3), none, none, none, none, none, none, none, none] [] h 0 0
  refine di_const rfl ?_
  refine di_istore (ls2 := [some (.ref 8), some (.ref b), some (dI A), some (dI a3), some (dI 0), none, none, none, none, none, none, none]) rfl rfl rfl ?_
  refine di_const rfl ?_
  refine di_istore (ls2 := [some (.ref 8), some (.ref b), some (dI A), some (dI a3), some (dI 0), some (dI 0), none, none, none, none, none, none]) rfl rfl rfl ?_
  refine di_const rfl ?_
  refine di_istore (ls2 := [some (.ref 8), some (.ref b), some (dI A), some (dI a3), some (dI 0), some (dI 0), some (dI 1), none, none, none, none, none]) rfl rfl rfl ?_
  refine di_const rfl ?_
  refine di_istore (ls2 := [some (.ref 8), some (.ref b), some (dI A), some (dI a3), some (dI 0), some (dI 0), some (dI 1), some (dI 1), none, none, none, none]) rfl rfl rfl ?_
  refine di_const rfl ?_
  refine di_istore (ls2 := [some (.ref 8), some (.ref b), some (dI A), some (dI a3), some (dI 0), some (dI 0), some (dI 1), some (dI 1), some (dI 0), none, none, none]) rfl rfl rfl ?_
  refine di_const rfl ?_
  refine di_istore (ls2 := [some (.ref 8), some (.ref b), some (dI A), some (dI a3), some (dI 0), some (dI 0), some (dI 1), some (dI 1), some (dI 0), some (dI 0), none, none]) rfl rfl rfl ?_
  have L : ∀ (k : Nat) (ct hd9 ap me ea i : Int), (8 - i).toNat < k → 0 ≤ i → i ≤ 8 → ct = bb A i → 0 ≤ ct → ct ≤ 8 → 0 ≤ hd9 → hd9 ≤ 255 → 0 ≤ ap → ap ≤ 1 → 0 ≤ me → me ≤ 1 → 0 ≤ ea → ea ≤ 1 → heP hd9 i s (cv u) A → (ap = 1 → chP i (cv u) s A) → (me = 1 → meP u s A i) → (ea = 1 → ¬ apt (cv u) s A) → dm_W (fun _ _ _ => True) (dm_P (QP h (RI (fun x => x = 1)) []) 0 0) l 50 3 0 0 18 [some (.ref 8), some (.ref b), some (dI A), some (dI a3), some (dI ct), some (dI hd9), some (dI ap), some (dI me), some (dI ea), some (dI i), none, none] [] h 0 0 := by
    intro k
    induction k with
    | zero => intro ct hd9 ap me ea i hm; exact absurd hm (Nat.not_lt_zero _)
    | succ k ih =>
      intro ct hd9 ap me ea i hm i0 i1 hct ct0 ct8 hd0 hd255 ap0 ap1 me0 me1 ea0 ea1 PH PA PM PE
      refine dr_iload rfl rfl ?_
      refine di_bipush rfl (by decide) ?_
      refine di_icmp_ge rfl rfl (by omega) (by omega) (by omega) (by omega) (fun c => ?_) (fun c => ?_)
      · have e8 : i = 8 := by omega
        subst e8
        have J215 : dm_W (fun _ _ _ => True) (dm_P (QP h (RI (fun x => x = 1)) []) 0 0) l 50 3 0 0 215 [some (.ref 8), some (.ref b), some (dI A), some (dI a3), some (dI ct), some (dI hd9), some (dI ap), some (dI me), some (dI ea), some (dI 1), some (dI 1), none] [dI 1] h 0 0 := by
          refine di_istore (ls2 := [some (.ref 8), some (.ref b), some (dI A), some (dI a3), some (dI ct), some (dI hd9), some (dI ap), some (dI me), some (dI ea), some (dI 1), some (dI 1), some (dI 1)]) rfl rfl rfl ?_
          refine dr_iload rfl rfl ?_
          refine di_if_eq rfl rfl (by omega) (by omega) (fun c9 => absurd c9 (by decide)) (fun _ => ?_)
          refine dr_iload rfl rfl ?_
          refine di_if_eq rfl rfl (by omega) (by omega) (fun c9 => absurd c9 (by decide)) (fun _ => ?_)
          refine dr_iload rfl rfl ?_
          refine di_if_eq rfl rfl (by omega) (by omega) (fun c9 => absurd c9 (by decide)) (fun _ => ?_)
          refine di_const rfl ?_
          refine dr_goto rfl rfl ?_
          exact dr_iret (ty := .boolean) rfl rfl (nar_z (by omega) (by omega)) (by decide) (by decide) ⟨rfl, 1, rfl, by omega, by omega, rfl⟩
        have J194 : dm_W (fun _ _ _ => True) (dm_P (QP h (RI (fun x => x = 1)) []) 0 0) l 50 3 0 0 194 [some (.ref 8), some (.ref b), some (dI A), some (dI a3), some (dI ct), some (dI hd9), some (dI ap), some (dI me), some (dI ea), some (dI 1), none, none] [dI 1] h 0 0 := by
          refine di_istore (ls2 := [some (.ref 8), some (.ref b), some (dI A), some (dI a3), some (dI ct), some (dI hd9), some (dI ap), some (dI me), some (dI ea), some (dI 1), some (dI 1), none]) rfl rfl rfl ?_
          refine dr_iload rfl rfl ?_
          refine di_if_eq rfl rfl (by omega) (by omega) (fun c9 => ?_) (fun c9 => ?_)
          · refine di_const rfl ?_
            refine dr_goto rfl rfl ?_
            exact J215
          · have hle := me_le hr hok s8 hS2 hp hd (fun r k r0 r1 k0 k1 => PM (by omega) r k r0 (by omega) k0 k1)
            refine dr_iload rfl rfl ?_
            refine di_aload_n rfl rfl ?_
            refine dr_getf rfl t1 rfl ?_
            refine di_icmp_gt rfl rfl (by omega) (by omega) (by omega) (by omega) (fun c10 => ?_) (fun c10 => ?_)
            · omega
            · refine di_const rfl ?_
              refine dr_goto rfl rfl ?_
              exact J215
        have J169 : dm_W (fun _ _ _ => True) (dm_P (QP h (RI (fun x => x = 1)) []) 0 0) l 50 3 0 0 169 [some (.ref 8), some (.ref b), some (dI A), some (dI a3), some (dI ct), some (dI hd9), some (dI ap), some (dI me), some (dI ea), some (dI 8), none, none] [dI 1] h 0 0 := by
          refine di_istore (ls2 := [some (.ref 8), some (.ref b), some (dI A), some (dI a3), some (dI ct), some (dI hd9), some (dI ap), some (dI me), some (dI ea), some (dI 1), none, none]) rfl rfl rfl ?_
          refine dr_iload rfl rfl ?_
          refine dr_iload_n rfl rfl ?_
          refine di_icmp_ne rfl rfl (by omega) (by omega) (by omega) (by omega) (fun c9 => ?_) (fun c9 => ?_)
          · refine di_const rfl ?_
            refine dr_goto rfl rfl ?_
            exact J194
          · have hge := hd_ge hr ht s0 s8 hS hf n0 PH (by omega)
            refine dr_iload rfl rfl ?_
            refine di_aload_n rfl rfl ?_
            refine dr_getf rfl t1 rfl ?_
            refine dr_getf rfl c1 rfl ?_
            refine di_icmp_lt rfl rfl (by omega) (by omega) (by omega) (by omega) (fun c10 => ?_) (fun c10 => ?_)
            · omega
            · refine di_const rfl ?_
              refine dr_goto rfl rfl ?_
              exact J194
        refine dr_iload rfl rfl ?_
        refine di_if_eq rfl rfl (by omega) (by omega) (fun c9 => ?_) (fun c9 => ?_)
        · refine di_const rfl ?_
          refine dr_goto rfl rfl ?_
          exact J169
        have hapt : apt (cv u) s A := fun r k r0 r1 => PA (by omega) r k r0 (by omega)
        have hle := ap_le hr ht hok s8 hS hf n0 hapt
        have hea : ea ≠ 1 := fun q => PE q hapt
        refine dr_iload rfl rfl ?_
        refine di_aload_n rfl rfl ?_
        refine dr_getf rfl t1 rfl ?_
        refine dr_getf rfl c1 rfl ?_
        refine di_icmp_gt rfl rfl (by omega) (by omega) (by omega) (by omega) (fun c10 => ?_) (fun c10 => ?_)
        · omega
        refine dr_iload rfl rfl ?_
        refine di_if_ne rfl rfl (by omega) (by omega) (fun c11 => ?_) (fun c11 => ?_)
        · omega
        refine di_const rfl ?_
        refine dr_goto rfl rfl ?_
        exact J169
      refine dr_iload_n rfl rfl ?_
      refine dr_iload rfl rfl ?_
      refine dr_statN rfl rfl rfl rfl (f_X6_isInSet l hl hI (a0 := A) (by omega) (by omega) (a1 := i) (by omega) (by omega)) kNP0 (by decide) (by decide) (by decide) (Nat.le_of_ble_eq_true rfl) (kIP (fun y yf ya yb => ?_))
      obtain ⟨yc, yd, yk, yk2⟩ := yf
      refine di_if_eq rfl rfl (by omega) (by omega) (fun c2' => ?_) (fun c2' => ?_)
      · have hn := yk2 c2'
        have e9 := bb_n9 i0 hn
        refine di_iinc (ls2 := [some (.ref 8), some (.ref b), some (dI A), some (dI a3), some (dI ct), some (dI hd9), some (dI ap), some (dI me), some (dI ea), some (dI (i + 1)), none, none]) rfl rfl rfl rfl ?_
        refine dr_goto rfl rfl ?_
        exact ih ct hd9 ap me ea (i + 1) (by omega) (by omega) (by omega) (by omega) ct0 ct8 hd0 hd255 ap0 ap1 me0 me1 ea0 ea1 (he_n PH hn) (fun q => ch_n (PA q) hn) (fun q => meP_n (PM q) hn) PE
      have hin := yk (by omega)
      have his := hS i i0 (by omega) hin
      have e9 := bb_y9 i0 hin
      have bm := bb_ml (A := A) (i := i + 1) (j := 8) (by omega) (by omega)
      have hme := hMe i i0 (by omega) his
      have hho := hHo i i0 (by omega) his
      have hmb := hme.1
      have hhb := hho.1
      have J119 : ∀ ap2 me2 ea2 : Int, 0 ≤ ap2 → ap2 ≤ 1 → 0 ≤ me2 → me2 ≤ 1 → 0 ≤ ea2 → ea2 ≤ 1 → (ap2 = 1 → chP (i + 1) (cv u) s A) → (me2 = 1 → meP u s A (i + 1)) → (ea2 = 1 → ¬ apt (cv u) s A) → dm_W (fun _ _ _ => True) (dm_P (QP h (RI (fun x => x = 1)) []) 0 0) l 50 3 0 0 119 [some (.ref 8), some (.ref b), some (dI A), some (dI a3), some (dI ct), some (dI hd9), some (dI ap2), some (dI me2), some (dI ea), some (dI i), none, none] [dI ea2] h 0 0 := by
        intro ap2 me2 ea2 q1 q2 q3 q4 q5 q6 QA QM QE
        refine di_istore (ls2 := [some (.ref 8), some (.ref b), some (dI A), some (dI a3), some (dI ct), some (dI hd9), some (dI ap2), some (dI me2), some (dI ea2), some (dI i), none, none]) rfl rfl rfl ?_
        refine dr_iload rfl rfl ?_
        refine di_aload_n rfl rfl ?_
        refine dr_getf rfl t1 rfl ?_
        refine dr_iload rfl rfl ?_
        refine di_iald rfl t3 t5 (by omega) (by omega) (fun x xf xa xb xv => ?_)
        have xw : cv he i = x := cv_eq xv xa xb
        refine di_or rfl (by omega) (by omega) (by omega) (by omega) (fun x9 x9a x9b x9e => ?_)
        refine di_istore (ls2 := [some (.ref 8), some (.ref b), some (dI A), some (dI a3), some (dI ct), some (dI x9), some (dI ap2), some (dI me2), some (dI ea2), some (dI i), none, none]) rfl rfl rfl ?_
        refine di_iinc (ls2 := [some (.ref 8), some (.ref b), some (dI A), some (dI a3), some (dI (ct + 1)), some (dI x9), some (dI ap2), some (dI me2), some (dI ea2), some (dI i), none, none]) rfl rfl rfl rfl ?_
        refine di_iinc (ls2 := [some (.ref 8), some (.ref b), some (dI A), some (dI a3), some (dI (ct + 1)), some (dI x9), some (dI ap2), some (dI me2), some (dI ea2), some (dI (i + 1)), none, none]) rfl rfl rfl rfl ?_
        refine dr_goto rfl rfl ?_
        exact ih (ct + 1) x9 ap2 me2 ea2 (i + 1) (by omega) (by omega) (by omega) (by omega) (by omega) (by omega) x9a x9b q1 q2 q3 q4 q5 q6 (he_y (y := cv u i / 100) PH i0 hin hho rfl (by rw [xw]; exact x9e)) QA QM QE
      have J85 : ∀ ap2 me2 : Int, 0 ≤ ap2 → ap2 ≤ 1 → 0 ≤ me2 → me2 ≤ 1 → (ap2 = 1 → chP (i + 1) (cv u) s A) → (me2 = 1 → meP u s A (i + 1)) → dm_W (fun _ _ _ => True) (dm_P (QP h (RI (fun x => x = 1)) []) 0 0) l 50 3 0 0 85 [some (.ref 8), some (.ref b), some (dI A), some (dI a3), some (dI ct), some (dI hd9), some (dI ap2), some (dI me), some (dI ea), some (dI i), none, none] [dI me2] h 0 0 := by
        intro ap2 me2 q1 q2 q3 q4 QA QM
        refine di_istore (ls2 := [some (.ref 8), some (.ref b), some (dI A), some (dI a3), some (dI ct), some (dI hd9), some (dI ap2), some (dI me2), some (dI ea), some (dI i), none, none]) rfl rfl rfl ?_
        refine dr_iload rfl rfl ?_
        refine di_if_ne rfl rfl (by omega) (by omega) (fun c3' => ?_) (fun c3' => ?_)
        · refine di_const rfl ?_
          refine dr_goto rfl rfl ?_
          exact J119 ap2 me2 1 q1 q2 q3 q4 (by decide) (by decide) QA QM (fun _ => PE (by omega))
        refine di_aload_n rfl rfl ?_
        refine dr_iload rfl rfl ?_
        refine dr_virt rfl rfl rfl rfl hC.1 (f_X0_toAt l hl hI hb hC (a1 := i) (by omega) (by omega)) (by decide) (by decide) (by decide) (Nat.le_of_ble_eq_true rfl) kNP (kIP (fun t tf ta tb => ?_))
        obtain ⟨tc, td, tk, tk2, tk3⟩ := tf
        refine di_aload_n rfl rfl ?_
        refine di_aload_n rfl rfl ?_
        refine dr_getf rfl t1 rfl ?_
        refine dr_iload rfl rfl ?_
        refine dr_virt rfl rfl rfl rfl c1 (f_X1_rankAt l hl hI ch_11 hA1 (a1 := ct) (by omega) (by omega)) (by decide) (by decide) (by decide) (Nat.le_of_ble_eq_true rfl) kNP (kIP (fun z zf za zb => ?_))
        obtain ⟨zk, zk2⟩ := zf
        refine dr_virt rfl rfl rfl rfl hC.1 (f_X0_toAt l hl hI hb hC (a1 := z) (by omega) (by omega)) (by decide) (by decide) (by decide) (Nat.le_of_ble_eq_true rfl) kNP (kIP (fun t2' tf' ta' tb' => ?_))
        obtain ⟨tc', td', tk', tk2', tk3'⟩ := tf'
        refine di_icmp_ge rfl rfl (by omega) (by omega) (by omega) (by omega) (fun c4' => ?_) (fun c4' => ?_)
        · refine di_const rfl ?_
          exact J119 ap2 me2 0 q1 q2 q3 q4 (by decide) (by decide) QA QM (fun q => absurd q (by decide))
        · refine di_const rfl ?_
          refine dr_goto rfl rfl ?_
          exact J119 ap2 me2 1 q1 q2 q3 q4 (by decide) (by decide) QA QM (fun _ => ea_x (y := z) hr ht hok hf n0 i0 his hin (tk i0 his) (by rw [← hct]; exact zk) tk' (by omega))
      have J60 : ∀ ap2 : Int, 0 ≤ ap2 → ap2 ≤ 1 → (ap2 = 1 → chP (i + 1) (cv u) s A) → dm_W (fun _ _ _ => True) (dm_P (QP h (RI (fun x => x = 1)) []) 0 0) l 50 3 0 0 60 [some (.ref 8), some (.ref b), some (dI A), some (dI a3), some (dI ct), some (dI hd9), some (dI ap), some (dI me), some (dI ea), some (dI i), none, none] [dI ap2] h 0 0 := by
        intro ap2 q1 q2 QA
        refine di_istore (ls2 := [some (.ref 8), some (.ref b), some (dI A), some (dI a3), some (dI ct), some (dI hd9), some (dI ap2), some (dI me), some (dI ea), some (dI i), none, none]) rfl rfl rfl ?_
        refine dr_iload rfl rfl ?_
        refine di_if_eq rfl rfl (by omega) (by omega) (fun c3' => ?_) (fun c3' => ?_)
        · refine di_const rfl ?_
          exact J85 ap2 0 q1 q2 (by decide) (by decide) QA (fun q => absurd q (by decide))
        refine di_aload_n rfl rfl ?_
        refine dr_getf rfl t1 rfl ?_
        refine dr_iload rfl rfl ?_
        refine di_iald rfl t2 t4 (by omega) (by omega) (fun x xf xa xb xv => ?_)
        have xw : cv mv i = x := cv_eq xv xa xb
        refine dr_iload_n rfl rfl ?_
        refine di_and rfl (by omega) (by omega) (by omega) (fun z za zb ze => ?_)
        refine dr_iload_n rfl rfl ?_
        refine di_icmp_ne rfl rfl (by omega) (by omega) (by omega) (by omega) (fun c4' => ?_) (fun c4' => ?_)
        · refine di_const rfl ?_
          exact J85 ap2 0 q1 q2 (by decide) (by decide) QA (fun q => absurd q (by decide))
        · refine di_const rfl ?_
          refine dr_goto rfl rfl ?_
          exact J85 ap2 1 q1 q2 (by decide) (by decide) QA (fun _ => meP_y (PM (by omega)) (me_y (x := z) A0 A2 s8 hme (by rw [xw]; exact ze) (by omega)))
      refine dr_iload rfl rfl ?_
      refine di_if_eq rfl rfl (by omega) (by omega) (fun c3' => ?_) (fun c3' => ?_)
      · refine di_const rfl ?_
        exact J60 0 (by decide) (by decide) (fun q => absurd q (by decide))
      refine di_aload_n rfl rfl ?_
      refine dr_getf rfl t1 rfl ?_
      refine dr_iload rfl rfl ?_
      refine di_iald rfl t2 t4 (by omega) (by omega) (fun x xf xa xb xv => ?_)
      have xw : cv mv i = x := cv_eq xv xa xb
      refine dr_iload_n rfl rfl ?_
      refine di_and rfl (by omega) (by omega) (by omega) (fun z za zb ze => ?_)
      refine di_const rfl ?_
      refine dr_iload rfl rfl ?_
      refine di_shl7 rfl (by omega) (by omega) (fun w9 w9a w9b w9e => ?_)
      refine di_icmp_ne rfl rfl (by omega) (by omega) (by omega) (by omega) (fun c4' => ?_) (fun c4' => ?_)
      · refine di_const rfl ?_
        exact J60 0 (by decide) (by decide) (fun q => absurd q (by decide))
      · refine di_const rfl ?_
        refine dr_goto rfl rfl ?_
        exact J60 1 (by decide) (by decide) (fun _ => ch_y (x := z) (PA (by omega)) i0 (by omega) s8 A0 A2 hme (by rw [xw]; exact ze) w9e (by omega))
  exact L _ 0 0 1 1 0 0 (Nat.lt_succ_self _) (by omega) (by omega) rfl (by omega) (by omega) (by omega) (by omega) (by omega) (by omega) (by omega) (by omega) (by omega) (by omega) he_0 (fun _ => ch_0) (fun _ r k r0 r1 => by omega) (fun q => absurd q (by decide))
