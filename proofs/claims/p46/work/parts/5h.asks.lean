/-! ===== the class's trial: the small ones ===== -/
set_option maxHeartbeats 4000000 in
set_option maxRecDepth 100000 in
theorem f_X0_isRising (l : Launch) (hl : l.stackTraces = false) {kc km : Int} {h : dm_H} (hI : Inv kc km h) {b : Nat} (hb : isBk b) {s m : Int} {u w : List Value} (hC : CA b s m u w h) (ht : Srt (cv u) s) : dm_M l 17 0 0 0 [.ref b] h (QP h (RI (fun x => x = 1)) []) := by
  obtain ⟨c1, c2, c3, c4, c5, s0, s8, m0, m1⟩ := id hC
  refine dm_M_of dk_17 hl rfl (Nat.le_of_ble_eq_true rfl) ?_
  show dm_W (fun _ _ _ => True) (dm_P (QP h (RI (fun x => x = 1)) []) 0 0) l 17 0 0 0 0 [some (.ref b), none] [] h 0 0
  refine di_const rfl ?_
  refine di_istore_n (ls2 := [some (.ref b), some (dI 1)]) rfl rfl rfl ?_
  have L : ∀ (k : Nat) (i : Int), (8 - i).toNat < k → 1 ≤ i → i ≤ 8 → dm_W (fun _ _ _ => True) (dm_P (QP h (RI (fun x => x = 1)) []) 0 0) l 17 0 0 0 2 [some (.ref b), some (dI i)] [] h 0 0 := by
    intro k
    induction k with
    | zero => intro i hm; exact absurd hm (Nat.not_lt_zero _)
    | succ k ih =>
      intro i hm i0 i1
      refine dr_iload_n rfl rfl ?_
      refine di_aload_n rfl rfl ?_
      refine dr_getf rfl c1 rfl ?_
      refine di_icmp_ge rfl rfl (by omega) (by omega) (by omega) (by omega) (fun c => ?_) (fun c => ?_)
      · refine di_const rfl ?_
        exact dr_iret (ty := .boolean) rfl rfl (nar_z (by omega) (by omega)) (by decide) (by decide) ⟨rfl, 1, rfl, by omega, by omega, rfl⟩
      refine di_aload_n rfl rfl ?_
      refine dr_getf rfl c1 rfl ?_
      refine dr_iload_n rfl rfl ?_
      refine di_const rfl ?_
      refine di_isub rfl ?_
      refine di_iald rfl c2 c4 (by omega) (by omega) (fun x xf xa xb xv => ?_)
      have xw : cv u (i - 1) = x := cv_eq xv xa xb
      refine di_aload_n rfl rfl ?_
      refine dr_getf rfl c1 rfl ?_
      refine dr_iload_n rfl rfl ?_
      refine di_iald rfl c2 c4 (by omega) (by omega) (fun y yf ya yb yv => ?_)
      have yw : cv u i = y := cv_eq yv ya yb
      have hlt := ht (i - 1) i (by omega) (by omega) (by omega)
      refine di_icmp_lt rfl rfl (by omega) (by omega) (by omega) (by omega) (fun c2 => ?_) (fun c2 => ?_)
      · refine di_iinc (ls2 := [some (.ref b), some (dI (i + 1))]) rfl rfl rfl rfl ?_
        refine dr_goto rfl rfl ?_
        exact ih (i + 1) (by omega) (by omega) (by omega)
      · omega
  exact L _ 1 (Nat.lt_succ_self _) (by omega) (by omega)
set_option maxHeartbeats 4000000 in
set_option maxRecDepth 100000 in
theorem f_X5_doesCover (l : Launch) (hl : l.stackTraces = false) {kc km : Int} {h : dm_H} (hI : Inv kc km h) {b : Nat} (hb : isBk b) {s m : Int} {u w : List Value} (hC : CA b s m u w h) (ht : Srt (cv u) s) {a2 : Int} (h2a : 0 ≤ a2) (h2b : a2 ≤ 255) : dm_M l 53 2 0 0 [.ref 8, .ref b, dI a2] h (QP h (RI (fun x => (0 ≤ x ∧ x ≤ 1) ∧ (0 < s → (x = 1 ↔ cov (cv u) s a2 (cv u 0 % 100) (cv u (s - 1) / 100))))) []) := by
  obtain ⟨c1, c2, c3, c4, c5, s0, s8, m0, m1⟩ := id hC
  refine dm_M_of dk_53 hl rfl (Nat.le_of_ble_eq_true rfl) ?_
  show dm_W (fun _ _ _ => True) (dm_P (QP h (RI (fun x => (0 ≤ x ∧ x ≤ 1) ∧ (0 < s → (x = 1 ↔ cov (cv u) s a2 (cv u 0 % 100) (cv u (s - 1) / 100))))) []) 0 0) l 53 2 0 0 0 [some (.ref 8), some (.ref b), some (dI a2), none, none] [] h 0 0
  refine di_aload_n rfl rfl ?_
  refine di_aload_n rfl rfl ?_
  refine dr_virt rfl rfl rfl rfl c1 (f_X0_count l hl hI hb hC) (by decide) (by decide) (by decide) (Nat.le_of_ble_eq_true rfl) kNP (kIP (fun y yf ya yb => ?_))
  obtain ⟨yc, yd, ye⟩ := yf
  have ye2 := ye.symm
  subst ye2
  refine di_const rfl ?_
  refine di_isub rfl ?_
  refine dr_virt rfl rfl rfl rfl c1 (f_X0_toAt l hl hI hb hC (a1 := s - 1) (by omega) (by omega)) (by decide) (by decide) (by decide) (Nat.le_of_ble_eq_true rfl) kNP (kIP (fun t tf ta tb => ?_))
  obtain ⟨tc, td, tk, tk2, tk3⟩ := tf
  refine di_istore_n (ls2 := [some (.ref 8), some (.ref b), some (dI a2), some (dI t), none]) rfl rfl rfl ?_
  refine di_aload_n rfl rfl ?_
  refine dr_virt rfl rfl rfl rfl c1 (f_X0_count l hl hI hb hC) (by decide) (by decide) (by decide) (Nat.le_of_ble_eq_true rfl) kNP (kIP (fun y yf ya yb => ?_))
  obtain ⟨yc, yd, ye⟩ := yf
  have ye2 := ye.symm
  subst ye2
  refine di_const rfl ?_
  refine di_isub rfl ?_
  refine di_istore (ls2 := [some (.ref 8), some (.ref b), some (dI a2), some (dI t), some (dI (s - 1))]) rfl rfl rfl ?_
  have L : ∀ (k : Nat) (o r : Int), (r + 1).toNat < k → -1 ≤ o → o ≤ 99 → -1 ≤ r → r < s → (0 < s → (cov (cv u) s a2 (cv u 0 % 100) (cv u (s - 1) / 100) ↔ covR (cv u) a2 r (cv u 0 % 100) o)) → dm_W (fun _ _ _ => True) (dm_P (QP h (RI (fun x => (0 ≤ x ∧ x ≤ 1) ∧ (0 < s → (x = 1 ↔ cov (cv u) s a2 (cv u 0 % 100) (cv u (s - 1) / 100))))) []) 0 0) l 53 2 0 0 19 [some (.ref 8), some (.ref b), some (dI a2), some (dI o), some (dI r)] [] h 0 0 := by
    intro k
    induction k with
    | zero => intro o r hm; exact absurd hm (Nat.not_lt_zero _)
    | succ k ih =>
      intro o r hm o0 o1 r0 r1 PC
      refine dr_iload rfl rfl ?_
      refine di_if_lt rfl rfl (by omega) (by omega) (fun c => ?_) (fun c => ?_)
      · have er : r = -1 := by omega
        subst er
        refine dr_iload_n rfl rfl ?_
        refine di_aload_n rfl rfl ?_
        refine di_const rfl ?_
        refine dr_virt rfl rfl rfl rfl c1 (f_X0_fromAt l hl hI hb hC (a1 := 0) (by omega) (by omega)) (by decide) (by decide) (by decide) (Nat.le_of_ble_eq_true rfl) kNP (kIP (fun x xf xa xb => ?_))
        obtain ⟨xc, xd, xk, xk2, xk3⟩ := xf
        have hE : 0 < s → (cov (cv u) s a2 (cv u 0 % 100) (cv u (s - 1) / 100) ↔ o < x) := fun q => by
          have e := xk (Int.le_refl _) q
          rw [e]
          exact (PC q).trans cr_e
        refine di_icmp_ge rfl rfl (by omega) (by omega) (by omega) (by omega) (fun c2 => ?_) (fun c2 => ?_)
        · refine di_const rfl ?_
          exact dr_iret (ty := .boolean) rfl rfl (nar_z (by omega) (by omega)) (by decide) (by decide) ⟨rfl, 0, ⟨⟨by omega, by omega⟩, fun q => ⟨fun e => absurd e (by decide), fun e => absurd ((hE q).mp e) (by omega)⟩⟩, by omega, by omega, rfl⟩
        · refine di_const rfl ?_
          refine dr_goto rfl rfl ?_
          exact dr_iret (ty := .boolean) rfl rfl (nar_z (by omega) (by omega)) (by decide) (by decide) ⟨rfl, 1, ⟨⟨by omega, by omega⟩, fun q => ⟨fun _ => (hE q).mpr (by omega), fun _ => rfl⟩⟩, by omega, by omega, rfl⟩
      refine dr_iload_n rfl rfl ?_
      refine dr_iload rfl rfl ?_
      refine dr_statN rfl rfl rfl rfl (f_X6_isInSet l hl hI (a0 := a2) (by omega) (by omega) (a1 := r) (by omega) (by omega)) kNP0 (by decide) (by decide) (by decide) (Nat.le_of_ble_eq_true rfl) (kIP (fun y yf ya yb => ?_))
      obtain ⟨yc, yd, yk, yk2⟩ := yf
      refine di_if_eq rfl rfl (by omega) (by omega) (fun c2 => ?_) (fun c2 => ?_)
      · refine di_iinc (ls2 := [some (.ref 8), some (.ref b), some (dI a2), some (dI o), some (dI (r + -1))]) rfl rfl rfl rfl ?_
        refine dr_goto rfl rfl ?_
        exact ih o (r + -1) (by omega) o0 o1 (by omega) (by omega) (fun q => by
          rw [show r + -1 = r - 1 by omega]
          exact (PC q).trans (cr_n ht (by omega) r1 (fun z => absurd z (yk2 c2))))
      refine di_aload_n rfl rfl ?_
      refine dr_iload rfl rfl ?_
      refine dr_iload_n rfl rfl ?_
      refine dr_virt rfl rfl rfl rfl c1 (f_X0_doesHold l hl hI hb hC (a1 := r) (by omega) (by omega) (a2 := o) (by omega) (by omega) (by omega) (by omega)) (by decide) (by decide) (by decide) (Nat.le_of_ble_eq_true rfl) kNP (kIP (fun z zf za zb => ?_))
      obtain ⟨zc, zd, zk, zk2⟩ := zf
      refine di_if_eq rfl rfl (by omega) (by omega) (fun c3 => ?_) (fun c3 => ?_)
      · refine di_iinc (ls2 := [some (.ref 8), some (.ref b), some (dI a2), some (dI o), some (dI (r + -1))]) rfl rfl rfl rfl ?_
        refine dr_goto rfl rfl ?_
        exact ih o (r + -1) (by omega) o0 o1 (by omega) (by omega) (fun q => by
          rw [show r + -1 = r - 1 by omega]
          exact (PC q).trans (cr_n ht (by omega) r1 (fun _ => by have := zk2 c3; omega)))
      refine di_aload_n rfl rfl ?_
      refine dr_iload rfl rfl ?_
      refine dr_virt rfl rfl rfl rfl c1 (f_X0_fromAt l hl hI hb hC (a1 := r) (by omega) (by omega)) (by decide) (by decide) (by decide) (Nat.le_of_ble_eq_true rfl) kNP (kIP (fun x xf xa xb => ?_))
      obtain ⟨xc, xd, xk, xk2, xk3⟩ := xf
      have xe := xk (by omega) r1
      refine di_const rfl ?_
      refine di_isub rfl ?_
      refine di_istore_n (ls2 := [some (.ref 8), some (.ref b), some (dI a2), some (dI (x - 1)), some (dI r)]) rfl rfl rfl ?_
      refine di_iinc (ls2 := [some (.ref 8), some (.ref b), some (dI a2), some (dI (x - 1)), some (dI (r + -1))]) rfl rfl rfl rfl ?_
      refine dr_goto rfl rfl ?_
      exact ih (x - 1) (r + -1) (by omega) (by omega) (by omega) (by omega) (by omega) (fun q => by
        rw [show r + -1 = r - 1 by omega, xe]
        exact (PC q).trans (cr_y (zk (by omega)) (yk (by omega)) (by omega)))
  exact L _ t (s - 1) (Nat.lt_succ_self _) tc (by omega) (by omega) (by omega) (fun q => by
    rw [tk (by omega) (by omega)]
    exact cr_0 rfl)
