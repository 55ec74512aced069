/-! ===== the class's trial: rooms, links, all sets ===== -/
section TG
variable {F : Int → Int} {u w v rv : List Value} {s A n i x d p m m2 few t : Int}
theorem dp_le (hr : Rep (cv u) (cv w) s F) (hp : isDp F p) (hd : d = cnt (cv u) (hoP p) s.toNat) {j : Int} (j0 : 0 ≤ j) (j1 : j < s) : cnt (cv u) (hoP (cv u j % 100)) s.toNat ≤ d := by
  rcases hp with ⟨-, hz⟩ | ⟨-, -, hx, -⟩
  · exact absurd (hz _) (Rep_yes hr j0 j1 rfl).2.1
  · have := hx (cv u j % 100) (by omega) (by omega)
    rw [dp_e hr, dp_e hr] at this
    omega
theorem rm_eq (hr : Rep (cv u) (cv w) s F) (hok : okf (cv u) s) (hR : RM (cv u) s (cv rv)) (hm : mxR (cv rv) s m2) (hp : isDp F p) (hd : d = cnt (cv u) (hoP p) s.toNat) : m2 = d := by
  have m0 : 0 ≤ m2 := by
    rcases hm.2 with e | ⟨r, -, p0, p1⟩ <;> omega
  have h1 := rm_ge (p := p) hr.1.1 hR hm m0
  rcases rm_le hr.1.1 hok hR hm with e | ⟨j, ⟨j0, j1⟩, h2⟩
  · have := (cnt_b (cv u) (hoP p) s.toNat).1
    omega
  · have := dp_le hr hp hd j0 j1
    omega
def fwP (u : List Value) (s few t : Int) : Prop := (few = -1 ∧ ∀ S : Int, 0 ≤ S → S < t → ¬ cov (cv u) s S (cv u 0 % 100) (cv u (s - 1) / 100)) ∨ ((0 ≤ few ∧ few ≤ 8) ∧ (∃ S : Int, 0 ≤ S ∧ S < t ∧ cov (cv u) s S (cv u 0 % 100) (cv u (s - 1) / 100) ∧ few = bb S 8) ∧ ∀ S : Int, 0 ≤ S → S < t → cov (cv u) s S (cv u 0 % 100) (cv u (s - 1) / 100) → few ≤ bb S 8)
theorem fw_0 : fwP u s (-1) 0 := Or.inl ⟨rfl, fun S h0 h1 => by omega⟩
theorem fw_n (h : fwP u s few t) (q : ¬ cov (cv u) s t (cv u 0 % 100) (cv u (s - 1) / 100)) : fwP u s few (t + 1) := by
  rcases h with ⟨h0, h1⟩ | ⟨h0, ⟨S, S0, S1, S2, S3⟩, h2⟩
  · refine Or.inl ⟨h0, fun S S0 S1 => ?_⟩
    by_cases e : S = t
    · rw [e]; exact q
    · exact h1 S S0 (by omega)
  · refine Or.inr ⟨h0, ⟨S, S0, by omega, S2, S3⟩, fun S S0 S1 hc => ?_⟩
    by_cases e : S = t
    · rw [e] at hc; exact absurd hc q
    · exact h2 S S0 (by omega) hc
theorem fw_k (h : fwP u s few t) (hn : few ≠ -1) (c : few ≤ bb t 8) : fwP u s few (t + 1) := by
  rcases h with ⟨h0, h1⟩ | ⟨h0, ⟨S, S0, S1, S2, S3⟩, h2⟩
  · exact absurd h0 hn
  · refine Or.inr ⟨h0, ⟨S, S0, by omega, S2, S3⟩, fun S S0 S1 hc => ?_⟩
    by_cases e : S = t
    · rw [e]; exact c
    · exact h2 S S0 (by omega) hc
theorem fw_y (h : fwP u s few t) (t0 : 0 ≤ t) (t8 : 0 ≤ bb t 8 ∧ bb t 8 ≤ 8) (q : cov (cv u) s t (cv u 0 % 100) (cv u (s - 1) / 100)) (c : few = -1 ∨ bb t 8 < few) (e : x = bb t 8) : fwP u s x (t + 1) := by
  subst e
  refine Or.inr ⟨t8, ⟨t, t0, by omega, q, rfl⟩, fun S S0 S1 hc => ?_⟩
  by_cases e : S = t
  · rw [e]; exact Int.le_refl _
  · rcases h with ⟨h0, h1⟩ | ⟨h0, -, h2⟩
    · exact absurd hc (h1 S S0 (by omega))
    · have := h2 S S0 (by omega) hc; omega
theorem fw_l (hr : Rep (cv u) (cv w) s F) (ht : Srt (cv u) s) (s8 : s ≤ 8) (h : fwP u s few (pwI s)) (n0 : 0 ≤ n) (hl : lkOK F (cv u 0 % 100) (cv u (s - 1) / 100) n.toNat) (hb : cv u (s - 1) / 100 < pl F (cv u 0 % 100) n.toNat) : n = few := by
  have s0 := hr.1.1
  obtain ⟨A, hA, hc, hle⟩ := lk_cv hr ht s8 n0 hl hb
  have p8 := pwI_8 s0 s8
  have hlt : A < pwI s := (set_lt hA.1.1 hA.1.2 s0 s8).mpr (fun r r0 r7 hb => ((hA.2 r r0 r7).mp hb).1)
  rcases h with ⟨h0, h1⟩ | ⟨h0, ⟨S, S0, S1, S2, S3⟩, h2⟩
  · exact absurd hc (h1 A hA.1.1 hlt)
  · have e1 := h2 A hA.1.1 hlt hc
    have e2 := cv_m hr ht s8 S2 n0 hl
    omega
theorem fw_z (hr : Rep (cv u) (cv w) s F) (ht : Srt (cv u) s) (h : fwP u s few t) (hf : fnE F (cv u 0 % 100) (cv u (s - 1) / 100)) : few = -1 := by
  rcases h with ⟨h0, -⟩ | ⟨-, ⟨S, S0, S1, S2, S3⟩, -⟩
  · exact h0
  · exact absurd S2 (cv_no hr ht hf)
end TG
set_option maxHeartbeats 4000000 in
set_option maxRecDepth 100000 in
theorem f_X5_areRoomsTrue (l : Launch) (hl : l.stackTraces = false) {kc km : Int} {h : dm_H} (hI : Inv kc km h) {b : Nat} (hb : isBk b) {s m : Int} {u w : List Value} (hC : CA b s m u w h) {F : Int → Int} (hr : Rep (cv u) (cv w) s F) {d : Int} {mv he : List Value} {n : Int} {v : List Value} {m2 : Int} {rv : List Value} (hT : TrS F u s d mv he n v m2 rv h) : dm_M l 51 2 0 0 [.ref 8, .ref b] h (QP h (RI (fun x => x = 1)) []) := by
  obtain ⟨⟨t1, t2, t3, t4, t5⟩, -, ⟨hH, hR, hm⟩, hMe, -, p, hp, hd⟩ := id hT
  have s0 := hC.2.2.2.2.2.1
  have s8 := hC.2.2.2.2.2.2.1
  have hok := CA_okf hC
  have e2 := rm_eq hr hok hR hm hp hd
  have d0 := (cnt_b (cv u) (hoP p) s.toNat).1
  have d8 := (cnt_b (cv u) (hoP p) s.toNat).2
  obtain ⟨g1, g2, g3, g4, g5, g6⟩ := id hH
  refine dm_M_of dk_51 hl rfl (Nat.le_of_ble_eq_true rfl) ?_
  show dm_W (fun _ _ _ => True) (dm_P (QP h (RI (fun x => x = 1)) []) 0 0) l 51 2 0 0 0 [some (.ref 8), some (.ref b), none, none, none] [] h 0 0
  refine di_const rfl ?_
  refine di_istore_n (ls2 := [some (.ref 8), some (.ref b), some (dI 0), none, none]) rfl rfl rfl ?_
  have L : ∀ (k : Nat) (r : Int), (8 - r).toNat < k → 0 ≤ r → r ≤ 8 → dm_W (fun _ _ _ => True) (dm_P (QP h (RI (fun x => x = 1)) []) 0 0) l 51 2 0 0 2 [some (.ref 8), some (.ref b), some (dI r), none, none] [] h 0 0 := by
    intro k
    induction k with
    | zero => intro r hm; exact absurd hm (Nat.not_lt_zero _)
    | succ k ih =>
      intro r hm9 r0 r8
      refine dr_iload_n rfl rfl ?_
      refine di_aload_n rfl rfl ?_
      refine dr_virt rfl rfl rfl rfl hC.1 (f_X0_count l hl hI hb hC) (by decide) (by decide) (by decide) (Nat.le_of_ble_eq_true rfl) kNP (kIP (fun y yf ya yb => ?_))
      obtain ⟨yc, yd, ye⟩ := yf
      have ye2 := ye.symm
      subst ye2
      refine di_icmp_ge rfl rfl (by omega) (by omega) (by omega) (by omega) (fun c => ?_) (fun c => ?_)
      · refine di_aload_n rfl rfl ?_
        refine dr_getf rfl t1 rfl ?_
        refine dr_getf rfl g1 rfl ?_
        refine di_aload_n rfl rfl ?_
        refine dr_getf rfl t1 rfl ?_
        refine di_icmp_ne rfl rfl (by omega) (by omega) (by omega) (by omega) (fun c2 => ?_) (fun c2 => ?_)
        · omega
        · refine di_const rfl ?_
          refine dr_goto rfl rfl ?_
          exact dr_iret (ty := .boolean) rfl rfl (nar_z (by omega) (by omega)) (by decide) (by decide) ⟨rfl, 1, rfl, by omega, by omega, rfl⟩
      refine di_const rfl ?_
      refine di_istore_n (ls2 := [some (.ref 8), some (.ref b), some (dI r), some (dI 0), none]) rfl rfl rfl ?_
      have L2 : ∀ (k : Nat) (o : Int), (8 - o).toNat < k → 0 ≤ o → o ≤ r → dm_W (fun _ _ _ => True) (dm_P (QP h (RI (fun x => x = 1)) []) 0 0) l 51 2 0 0 12 [some (.ref 8), some (.ref b), some (dI r), some (dI o), none] [] h 0 0 := by
        intro k
        induction k with
        | zero => intro o hm; exact absurd hm (Nat.not_lt_zero _)
        | succ k ih2 =>
          intro o hm8 o0 o1
          refine dr_iload_n rfl rfl ?_
          refine dr_iload_n rfl rfl ?_
          refine di_icmp_ge rfl rfl (by omega) (by omega) (by omega) (by omega) (fun c2 => ?_) (fun c2 => ?_)
          · refine di_iinc (ls2 := [some (.ref 8), some (.ref b), some (dI (r + 1)), some (dI o), none]) rfl rfl rfl rfl ?_
            refine dr_goto rfl rfl ?_
            refine dm_wk (ls2 := [some (.ref 8), some (.ref b), some (dI (r + 1)), none, none]) ⟨Or.inr rfl, Or.inr rfl, Or.inr rfl, Or.inl rfl, Or.inl rfl, trivial⟩ ?_
            exact ih (r + 1) (by omega) (by omega) (by omega)
          have tail : ∀ t : Int, 0 ≤ t → t ≤ 1 → (t = 1 → cv rv r = cv rv o) → dm_W (fun _ _ _ => True) (dm_P (QP h (RI (fun x => x = 1)) []) 0 0) l 51 2 0 0 41 [some (.ref 8), some (.ref b), some (dI r), some (dI o), none] [dI t] h 0 0 := by
            intro t q0 q1 qe
            refine di_istore (ls2 := [some (.ref 8), some (.ref b), some (dI r), some (dI o), some (dI t)]) rfl rfl rfl ?_
            refine dr_iload rfl rfl ?_
            have fin : dm_W (fun _ _ _ => True) (dm_P (QP h (RI (fun x => x = 1)) []) 0 0) l 51 2 0 0 63 [some (.ref 8), some (.ref b), some (dI r), some (dI o), some (dI t)] [] h 0 0 := by
              refine di_iinc (ls2 := [some (.ref 8), some (.ref b), some (dI r), some (dI (o + 1)), some (dI t)]) rfl rfl rfl rfl ?_
              refine dr_goto rfl rfl ?_
              refine dm_wk (ls2 := [some (.ref 8), some (.ref b), some (dI r), some (dI (o + 1)), none]) ⟨Or.inr rfl, Or.inr rfl, Or.inr rfl, Or.inr rfl, Or.inl rfl, trivial⟩ ?_
              exact ih2 (o + 1) (by omega) (by omega) (by omega)
            refine di_if_eq rfl rfl (by omega) (by omega) (fun c3 => ?_) (fun c3 => ?_)
            · exact fin
            refine di_aload_n rfl rfl ?_
            refine dr_getf rfl t1 rfl ?_
            refine dr_iload_n rfl rfl ?_
            refine di_iald rfl t2 t4 (by omega) (by omega) (fun x xf xa xb xv => ?_)
            have xw : cv mv r = x := cv_eq xv xa xb
            have hme := hMe r r0 (by omega) (by omega)
            have hmb := hme.1
            refine dr_iload_n rfl rfl ?_
            refine dr_statN rfl rfl rfl rfl (f_X6_isInSet l hl hI (a0 := x) (by omega) (by omega) (a1 := o) (by omega) (by omega)) kNP0 (by decide) (by decide) (by decide) (Nat.le_of_ble_eq_true rfl) (kIP (fun y yf ya yb => ?_))
            obtain ⟨yc, yd, yk, yk2⟩ := yf
            refine di_if_eq rfl rfl (by omega) (by omega) (fun c4 => ?_) (fun c4 => ?_)
            · exact fin
            · have hin := yk (by omega)
              rw [← xw] at hin
              have hmt := ((hme.2 o o0 (by omega)).mp hin).2
              exact absurd (show mt (cv u) o r from ⟨hmt.1, hmt.2⟩) (rm_pr hR r0 (by omega) o0 (by omega) (by omega) (qe (by omega)))
          refine di_aload_n rfl rfl ?_
          refine dr_getf rfl t1 rfl ?_
          refine dr_iload_n rfl rfl ?_
          refine dr_virt rfl rfl rfl rfl g1 (f_X3_roomAt l hl hI hs_15' hH (a1 := r) (by omega) (by omega)) (by decide) (by decide) (by decide) (Nat.le_of_ble_eq_true rfl) kNP (kIP (fun x xf xa xb => ?_))
          have xe := xf.1 r0 (by omega)
          refine di_aload_n rfl rfl ?_
          refine dr_getf rfl t1 rfl ?_
          refine dr_iload_n rfl rfl ?_
          refine dr_virt rfl rfl rfl rfl g1 (f_X3_roomAt l hl hI hs_15' hH (a1 := o) (by omega) (by omega)) (by decide) (by decide) (by decide) (Nat.le_of_ble_eq_true rfl) kNP (kIP (fun y yf ya yb => ?_))
          have ye := yf.1 o0 (by omega)
          refine di_icmp_ne rfl rfl (by omega) (by omega) (by omega) (by omega) (fun c3 => ?_) (fun c3 => ?_)
          · refine di_const rfl ?_
            exact tail 0 (by decide) (by decide) (fun q => absurd q (by decide))
          · refine di_const rfl ?_
            refine dr_goto rfl rfl ?_
            exact tail 1 (by decide) (by decide) (fun _ => by rw [← xe, ← ye]; exact c3)
      exact L2 _ 0 (Nat.lt_succ_self _) (by omega) (by omega)
  exact L _ 0 (Nat.lt_succ_self _) (by omega) (by omega)
set_option maxHeartbeats 4000000 in
set_option maxRecDepth 100000 in
theorem f_X5_areLinksTrue (l : Launch) (hl : l.stackTraces = false) {kc km : Int} {h : dm_H} (hI : Inv kc km h) {b : Nat} (hb : isBk b) {s m : Int} {u w : List Value} (hC : CA b s m u w h) {F : Int → Int} (hr : Rep (cv u) (cv w) s F) (ht : Srt (cv u) s) {d : Int} {mv he : List Value} (hT : TrA d mv he h) {a2 : Int} (h2a : -1 ≤ a2) (h2b : a2 ≤ 8) (hw : 0 < s → fwP u s a2 (pwI s)) : dm_M l 52 4 0 0 [.ref 8, .ref b, dI a2] h (QCh kc km h 13 (fun n v r => ∃ x : Int, x = 1 ∧ 0 ≤ x ∧ x ≤ 1 ∧ r = some (dI x))) := by
  obtain ⟨t1, t2, t3, t4, t5⟩ := id hT
  have s0 := hC.2.2.2.2.2.1
  have s8 := hC.2.2.2.2.2.2.1
  refine dm_M_of dk_52 hl rfl (Nat.le_of_ble_eq_true rfl) ?_
  show dm_W (fun _ _ _ => True) (dm_P (QCh kc km h 13 (fun n v r => ∃ x : Int, x = 1 ∧ 0 ≤ x ∧ x ≤ 1 ∧ r = some (dI x))) 0 0) l 52 4 0 0 0 [some (.ref 8), some (.ref b), some (dI a2), none, none] [] h 0 0
  obtain ⟨n9, v9, hch9⟩ := I_chA hI ch_13'
  refine di_aload_n rfl rfl ?_
  refine dr_virt rfl rfl rfl rfl hC.1 (f_X0_count l hl hI hb hC) (by decide) (by decide) (by decide) (Nat.le_of_ble_eq_true rfl) kNP (kIP (fun y yf ya yb => ?_))
  obtain ⟨yc, yd, ye⟩ := yf
  have ye2 := ye.symm
  subst ye2
  refine di_if_ne rfl rfl (by omega) (by omega) (fun c => ?_) (fun c => ?_)
  · refine di_aload_n rfl rfl ?_
    refine di_aload_n rfl rfl ?_
    refine dr_virt rfl rfl rfl rfl hC.1 (f_X0_count l hl hI hb hC) (by decide) (by decide) (by decide) (Nat.le_of_ble_eq_true rfl) kNP (kIP (fun y yf ya yb => ?_))
    obtain ⟨yc, yd, ye⟩ := yf
    have ye2 := ye.symm
    subst ye2
    refine di_const rfl ?_
    refine di_isub rfl ?_
    refine dr_virt rfl rfl rfl rfl hC.1 (f_X0_toAt l hl hI hb hC (a1 := s - 1) (by omega) (by omega)) (by decide) (by decide) (by decide) (Nat.le_of_ble_eq_true rfl) kNP (kIP (fun t tf ta tb => ?_))
    obtain ⟨tc, td, tk, tk2, tk3⟩ := tf
    have te := tk (by omega) (by omega)
    refine di_istore_n (ls2 := [some (.ref 8), some (.ref b), some (dI a2), some (dI t), none]) rfl rfl rfl ?_
    refine di_aload_n rfl rfl ?_
    refine dr_getf rfl t1 rfl ?_
    refine di_aload_n rfl rfl ?_
    refine di_aload_n rfl rfl ?_
    refine di_const rfl ?_
    refine dr_virt rfl rfl rfl rfl hC.1 (f_X0_fromAt l hl hI hb hC (a1 := 0) (by omega) (by omega)) (by decide) (by decide) (by decide) (Nat.le_of_ble_eq_true rfl) kNP (kIP (fun f0 ff fa fb => ?_))
    obtain ⟨fc, fd, fk, fk2, fk3⟩ := ff
    have fe := fk (by omega) (by omega)
    refine dr_iload_n rfl rfl ?_
    refine dr_virt rfl rfl rfl rfl hch9.1 (f_X1_fillLinks l hl hI (b := 13) ch_13' hb hC hr ht (a2 := f0) (by omega) (by omega) (a3 := t) (by omega) (by omega)) (by decide) (by decide) (by decide) (Nat.le_of_ble_eq_true rfl) kChN (kChI (fun h2 hI2 hK n v x hA qf xa xb => ?_))
    have t12 := (hK.2 8 (by decide) (by decide)).trans t1
    have n0 := hA.2.2.2.1
    have n8 := hA.2.2.2.2
    have q1 : x = 1 → n = a2 := fun e => by
      have k := (qf.1 e).1
      rw [te, fe] at k
      exact fw_l hr ht s8 (hw (by omega)) n0 k.1 k.2
    have q0 : x = 0 → a2 = -1 := fun e => by
      have k := qf.2 e
      rw [te, fe] at k
      exact fw_z hr ht (hw (by omega)) k
    clear qf
    refine di_istore (ls2 := [some (.ref 8), some (.ref b), some (dI a2), some (dI t), some (dI x)]) rfl rfl rfl ?_
    refine dr_iload rfl rfl ?_
    have tail : ∀ y : Int, y = a2 → dm_W (fun _ _ _ => True) (dm_P (QCh kc km h 13 (fun n v r => ∃ x : Int, x = 1 ∧ 0 ≤ x ∧ x ≤ 1 ∧ r = some (dI x))) 0 0) l 52 4 0 0 52 [some (.ref 8), some (.ref b), some (dI a2), some (dI t), some (dI x)] [dI y] h2 0 0 := by
      intro y hy
      refine dr_iload_n rfl rfl ?_
      refine di_icmp_ne rfl rfl (by omega) (by omega) (by omega) (by omega) (fun c3 => ?_) (fun c3 => ?_)
      · omega
      · refine di_const rfl ?_
        refine dr_goto rfl rfl ?_
        exact dr_iret (ty := .boolean) rfl rfl (nar_z (by omega) (by omega)) (by decide) (by decide) ⟨hI2, hK, n, v, hA, 1, rfl, by omega, by omega, rfl⟩
    refine di_if_eq rfl rfl (by omega) (by omega) (fun c2 => ?_) (fun c2 => ?_)
    · refine di_const rfl ?_
      exact tail (-1) (q0 c2).symm
    · refine di_aload_n rfl rfl ?_
      refine dr_getf rfl t12 rfl ?_
      refine dr_getf rfl hA.1 rfl ?_
      refine dr_goto rfl rfl ?_
      exact tail n (q1 (by omega))
  · refine di_const rfl ?_
    exact dr_iret (ty := .boolean) rfl rfl (nar_z (by omega) (by omega)) (by decide) (by decide) ⟨hI, ⟨rfl, fun _ _ _ => rfl⟩, n9, v9, hch9, 1, rfl, by omega, by omega, rfl⟩
