/-! ===== the model's isPartSound ===== -/
def psI (f : Int → Int) (lo hi m la i : Int) : Prop := cnP m f (inP lo hi) i ∧ ((m = 0 ∧ la = -1) ∨ (0 < m ∧ ∃ k : Int, (0 ≤ k ∧ k < i) ∧ f k = la ∧ inP lo hi la = true ∧ ∀ j : Int, k < j → j < i → inP lo hi (f j) = false))
section PS
variable {f g F : Int → Int} {s lo hi m la i x : Int}
theorem ps_0 : psI f lo hi 0 (-1) 0 := ⟨cn_0, Or.inl ⟨rfl, rfl⟩⟩
theorem ps_n (h : psI f lo hi m la i) (i0 : 0 ≤ i) (e : f i = x) (p : inP lo hi x = false) : psI f lo hi m la (i + 1) := ⟨cn_n h.1 i0 e p, h.2.imp id (fun ⟨a, k, hk, b, c, d⟩ => ⟨a, k, ⟨hk.1, by omega⟩, b, c, fun j j0 j1 => by
  by_cases q : j = i
  · rw [q, e]; exact p
  · exact d j j0 (by omega)⟩)⟩
theorem ps_y (h : psI f lo hi m la i) (m0 : 0 ≤ m) (i0 : 0 ≤ i) (e : f i = x) (p : inP lo hi x = true) : psI f lo hi (m + 1) x (i + 1) := ⟨cn_y h.1 i0 e p, Or.inr ⟨by omega, i, ⟨i0, by omega⟩, e, p, fun j j0 j1 => by omega⟩⟩
theorem ps_f (hr : Rep f g s F) (ht : Srt f s) (h : psI f lo hi 0 la i) (i0 : 0 ≤ i) (i1 : i < s) (p : inP lo hi (f i) = true) : lst F (inP lo hi) = f i := by
  have hz := cnt_z i.toNat h.1.symm
  refine lst_eq ⟨(Rep_yes hr i0 i1 rfl).2.1, p, fun c hc hpc => ?_⟩
  obtain ⟨j, j0, j1, rfl⟩ := Rep_ex hr hc
  by_cases q : j < i
  · have := hz j j0 (by omega)
    rw [hpc] at this; cases this
  · by_cases q2 : j = i
    · rw [q2]; exact Int.le_refl _
    · have := ht i j i0 (by omega) j1; omega
theorem ps_e (hr : Rep f g s F) (ht : Srt f s) (h : psI f lo hi m la i) (e : i = s) : nF F (inP lo hi) = m ∧ grt F (inP lo hi) = la := by
  subst e
  have h1 := cn_e h.1 hr rfl
  refine ⟨h1.symm, ?_⟩
  rcases h.2 with ⟨e1, e2⟩ | ⟨-, k, ⟨k0, k1⟩, e, p, d⟩
  · rw [e2]
    exact grt_no (nF_z hr (by rw [← h1, e1]))
  · refine grt_eq ⟨by rw [← e]; exact (Rep_yes hr k0 k1 rfl).2.1, p, fun c hc hpc => ?_⟩
    obtain ⟨j, j0, j1, rfl⟩ := Rep_ex hr hc
    by_cases q : k < j
    · have := d j q j1
      rw [hpc] at this; cases this
    · by_cases q2 : j = k
      · rw [q2, e]; exact Int.le_refl _
      · have := ht j k j0 (by omega) k1; omega
end PS
set_option maxHeartbeats 4000000 in
set_option maxRecDepth 100000 in
theorem n_X8_isPartSound (l : Launch) (hl : l.stackTraces = false) {kc km : Int} {h : dm_H} (hI : Inv kc km h) {th : Int} {σ : St} (hM : MSt km th σ h) (hT : sSt σ) : dm_M l 220 3 1 16 [.ref 26] h (QA h (RI2 (fun x => x = 1))) := by
  obtain ⟨⟨ni, c26, ni0, ni1⟩, ⟨⟨R1, R2⟩, ⟨R3, R4⟩, ⟨R5, R6⟩, -⟩, -⟩ := id hM
  refine dm_M_of dk_220 hl rfl (Nat.le_of_ble_eq_true rfl) ?_
  show dm_W (fun _ _ _ => True) (dm_P (QA h (RI2 (fun x => x = 1))) 1 16) l 220 3 1 16 0 [some (.ref 26), none, none, none, none] [] h 0 0
  refine di_aload_n rfl rfl ?_
  refine dr_getf rfl c26 rfl ?_
  refine di_const rfl ?_
  refine di_icmp_ne rfl rfl (by omega) (by omega) (by omega) (by omega) (fun c => ?_) (fun c => ?_)
  · have p0 : 0 ≤ σ.2.1.1 := by omega
    obtain ⟨r, q, u, w, us, er, eq, hu, hw, au, aw, h35, as, hr, s0, s8⟩ := MSt_bk hM (k := σ.2.1.1) p0 R2
    obtain ⟨f0, g0, q0, r0, t0⟩ := hT σ.2.1.1 p0 R2
    have es : q0 = cv us σ.2.1.1 := Rep_sz r0 hr
    refine di_aload_n rfl rfl ?_
    refine di_aload_n rfl rfl ?_
    refine dr_getf rfl c26 rfl ?_
    refine dr_virt rfl rfl rfl rfl c26 (n_X8_row l hl hI hM (a1 := σ.2.1.1) (by omega) (by omega) er eq hu hw au aw h35 as hr s0 s8 hT) (by decide) (by decide) (by decide) (Nat.le_of_ble_eq_true rfl) kAN (kRW (fun h1 hA1 b n v hp hb hc ha => ?_))
    have hp : rwQ (σ.1 σ.2.1.1) n v := hp
    have n8 := hp.1.2
    have en : (n : Int) = q0 := hp.1.1.trans (zF_eq r0)
    have hI1 := App_Inv hA1 hI
    have hM1 := MSt_Ap hM hI hA1
    have d26 := App_at hA1 c26
    have hv : ∀ j : Int, 0 ≤ j → j < n → cv v j = f0 j := fun j j0 j1 => by rw [hp.2.2 j j0 j1, cR_eq r0 t0 j0 (by omega)]
    refine di_astore_n (ls2 := [some (.ref 26), some (.ref b), none, none, none]) rfl rfl rfl ?_
    refine di_const rfl ?_
    refine di_istore_n (ls2 := [some (.ref 26), some (.ref b), some (dI 0), none, none]) rfl rfl rfl ?_
    refine di_const rfl ?_
    refine di_istore_n (ls2 := [some (.ref 26), some (.ref b), some (dI 0), some (dI (-1)), none]) rfl rfl rfl ?_
    refine di_const rfl ?_
    refine di_istore (ls2 := [some (.ref 26), some (.ref b), some (dI 0), some (dI (-1)), some (dI 0)]) rfl rfl rfl ?_
    have L : ∀ (k : Nat) (m la i : Int), (8 - i).toNat < k → 0 ≤ i → i ≤ n → 0 ≤ m → m ≤ i → -1 ≤ la → la ≤ 9999 → psI f0 σ.2.1.2.1 σ.2.1.2.2 m la i → dm_W (fun _ _ _ => True) (dm_P (QA h (RI2 (fun x => x = 1))) 1 16) l 220 3 1 16 26 [some (.ref 26), some (.ref b), some (dI m), some (dI la), some (dI i)] [] h1 1 16 := by
      intro k
      induction k with
      | zero => intro m la i hm; exact absurd hm (Nat.not_lt_zero _)
      | succ k ih =>
        intro m la i hm i0 i1 m0 m1 la0 la1 PI
        refine dr_iload rfl rfl ?_
        refine di_aload_n rfl rfl ?_
        refine di_alen (n := n) rfl hc (Or.inl rfl) ha.1 ?_
        refine di_icmp_ge rfl rfl (by omega) (by omega) (by omega) (by omega) (fun c2 => ?_) (fun c2 => ?_)
        · obtain ⟨e1, e2⟩ := ps_e r0 t0 PI (by omega)
          refine di_aload_n rfl rfl ?_
          refine dr_virt rfl rfl rfl rfl d26 (n_X8_partSize l hl hI1 hM1 p0) (by decide) (by decide) (by decide) (Nat.le_of_ble_eq_true rfl) kNP (kIP (fun y yf ya yb => ?_))
          obtain ⟨yc, yd, yk⟩ := yf
          have yk : y = m := yk.trans e1
          refine dr_iload_n rfl rfl ?_
          refine di_icmp_ne rfl rfl (by omega) (by omega) (by omega) (by omega) (fun c3 => absurd yk c3) (fun _ => ?_)
          refine di_aload_n rfl rfl ?_
          refine di_const rfl ?_
          refine dr_virt rfl rfl rfl rfl d26 (n_X8_partEnd l hl hI1 hM1 (a1 := 1) (by omega) (by omega) p0) (by decide) (by decide) (by decide) (Nat.le_of_ble_eq_true rfl) kNP (kIP (fun z zf za zb => ?_))
          obtain ⟨zc, zd, -, zk, -⟩ := zf
          have zk : z = la := (zk rfl).trans e2
          refine dr_iload_n rfl rfl ?_
          refine di_icmp_ne rfl rfl (by omega) (by omega) (by omega) (by omega) (fun c3 => absurd zk c3) (fun _ => ?_)
          refine di_const rfl ?_
          refine dr_goto rfl rfl ?_
          exact dr_iret (ty := .boolean) rfl rfl (nar_z (by omega) (by omega)) (by decide) (by decide) ⟨hA1, 1, rfl, by omega, by omega, rfl⟩
        have fv := hv i i0 (by omega)
        have h9 := Rep_at r0 (j := i) i0 (by omega)
        refine di_aload_n rfl rfl ?_
        refine di_aload_n rfl rfl ?_
        refine dr_iload rfl rfl ?_
        refine di_iald rfl hc ha (by omega) (by omega) (fun x xf xa xb xv => ?_)
        have xw : cv v i = x := cv_eq xv xa xb
        have xe : f0 i = x := by rw [← xw, fv]
        refine dr_virt rfl rfl rfl rfl d26 (n_X8_isInPart l hl hI1 hM1 (a1 := x) (by omega) (by omega)) (by decide) (by decide) (by decide) (Nat.le_of_ble_eq_true rfl) kNP (kIP (fun y yf ya yb => ?_))
        obtain ⟨yc, yd, yk, yk2⟩ := yf
        refine di_if_ne rfl rfl (by omega) (by omega) (fun c3 => ?_) (fun c3 => ?_)
        · have hin := inP_t (yk (by omega))
          clear yk yk2
          have go : dm_W (fun _ _ _ => True) (dm_P (QA h (RI2 (fun x => x = 1))) 1 16) l 220 3 1 16 65 [some (.ref 26), some (.ref b), some (dI m), some (dI la), some (dI i)] [] h1 1 16 := by
            refine di_iinc (ls2 := [some (.ref 26), some (.ref b), some (dI (m + 1)), some (dI la), some (dI i)]) rfl rfl rfl rfl ?_
            refine di_aload_n rfl rfl ?_
            refine dr_iload rfl rfl ?_
            refine di_iald rfl hc ha (by omega) (by omega) (fun x2 x2f x2a x2b x2v => ?_)
            have x2w : cv v i = x2 := cv_eq x2v x2a x2b
            refine di_istore_n (ls2 := [some (.ref 26), some (.ref b), some (dI (m + 1)), some (dI x2), some (dI i)]) rfl rfl rfl ?_
            refine di_iinc (ls2 := [some (.ref 26), some (.ref b), some (dI (m + 1)), some (dI x2), some (dI (i + 1))]) rfl rfl rfl rfl ?_
            refine dr_goto rfl rfl ?_
            have e9 : x2 = x := by rw [← x2w, xw]
            subst e9
            exact ih (m + 1) x2 (i + 1) (by omega) (by omega) (by omega) (by omega) (by omega) (by omega) (by omega) (ps_y PI m0 i0 xe hin)
          refine dr_iload_n rfl rfl ?_
          refine di_if_ne rfl rfl (by omega) (by omega) (fun c4 => ?_) (fun c4 => ?_)
          · exact go
          have em : m = 0 := by omega
          have hlst := ps_f r0 t0 (by rw [← em]; exact PI) i0 (by omega) (by rw [xe]; exact hin)
          refine di_aload_n rfl rfl ?_
          refine di_const rfl ?_
          refine dr_virt rfl rfl rfl rfl d26 (n_X8_partEnd l hl hI1 hM1 (a1 := 0) (by omega) (by omega) p0) (by decide) (by decide) (by decide) (Nat.le_of_ble_eq_true rfl) kNP (kIP (fun z zf za zb => ?_))
          obtain ⟨zc, zd, -, -, zk⟩ := zf
          have zk : z = f0 i := (zk (by decide)).trans hlst
          refine di_aload_n rfl rfl ?_
          refine dr_iload rfl rfl ?_
          refine di_iald rfl hc ha (by omega) (by omega) (fun x2 x2f x2a x2b x2v => ?_)
          have x2w : cv v i = x2 := cv_eq x2v x2a x2b
          refine di_icmp_eq rfl rfl (by omega) (by omega) (by omega) (by omega) (fun _ => ?_) (fun c5 => absurd (show z = x2 by rw [zk, xe, ← x2w, xw]) c5)
          exact go
        · have hin := inP_f (c := x) (lo := σ.2.1.2.1) (hi := σ.2.1.2.2) (by have := yk2 c3; omega)
          refine dr_goto rfl rfl ?_
          refine di_iinc (ls2 := [some (.ref 26), some (.ref b), some (dI m), some (dI la), some (dI (i + 1))]) rfl rfl rfl rfl ?_
          refine dr_goto rfl rfl ?_
          exact ih m la (i + 1) (by omega) (by omega) (by omega) m0 (by omega) la0 la1 (ps_n PI i0 xe hin)
    exact L _ 0 (-1) 0 (Nat.lt_succ_self _) (by omega) (by omega) (by omega) (by omega) (by omega) (by omega) ps_0
  · refine di_const rfl ?_
    exact dr_iret (ty := .boolean) rfl rfl (nar_z (by omega) (by omega)) (by decide) (by decide) ⟨App_rf, 1, rfl, by omega, by omega, rfl⟩
