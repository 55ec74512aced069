/-! ===== the model's isBookSound ===== -/
section BS
variable {F f g : Int → Int} {s S n : Int}
theorem mo_ex (hr : Rep f g s F) (hok : okf f s) : ∃ x : Nat, moP F x ∧ chn F x = -1 := by
  have st : ∀ m : Nat, moP F m ∨ ∃ x : Nat, moP F x ∧ chn F x = -1 := by
    intro m
    induction m with
    | zero => exact Or.inl (fun j h => absurd h (Nat.not_lt_zero _))
    | succ m ih =>
      rcases ih with h | h
      · by_cases e : chn F m = -1
        · exact Or.inr ⟨m, h, e⟩
        · exact Or.inl (fun j hj => by
            by_cases q : j = m
            · rw [q]; exact e
            · exact h j (by omega))
      · exact Or.inr h
  have up : ∀ m : Nat, moP F (m + 1) → (m : Int) ≤ chn F m / 100 ∧ chn F m ≤ 9999 := by
    intro m
    induction m with
    | zero =>
      intro h
      obtain ⟨c, ⟨c0, c1⟩, c2, c3⟩ := chn_at hr (q := 0) (fun j hj => absurd hj (Nat.not_lt_zero _)) (h 0 (Nat.lt_succ_self _))
      have := (Rep_at hr c0 c1).1
      omega
    | succ m ih =>
      intro h
      have ih := ih (fun j hj => h j (by omega))
      obtain ⟨c, ⟨c0, c1⟩, c2, c3⟩ := chn_at hr (q := m + 1) (fun j hj => h j (by omega)) (h (m + 1) (Nat.lt_succ_self _))
      have c3 : chn F m / 100 < f c % 100 := c3
      have := (Rep_at hr c0 c1).1
      have := hok c c0 c1
      omega
  rcases st 101 with h | h
  · have := up 100 h; omega
  · exact h
theorem most_d (hr : Rep f g s F) (hok : okf f s) {x : Int} (e : anMost F = x) : 0 ≤ x ∧ moP F x.toNat ∧ chn F x.toNat = -1 := by
  obtain ⟨y, a, b⟩ := mo_ex hr hok
  have k := most_e (F := F) (x := (y : Int)) (by omega) (by rw [Int.toNat_natCast]; exact a) (by rw [Int.toNat_natCast]; exact b)
  rw [k] at e
  subst e
  rw [Int.toNat_natCast]
  exact ⟨by omega, a, b⟩
theorem dp_mx (F : Int → Int) : ∀ m : Nat, ∃ p : Int, (0 ≤ p ∧ p ≤ m) ∧ (∀ q : Int, 0 ≤ q → q ≤ m → dpF F q ≤ dpF F p) ∧ ∀ q : Int, 0 ≤ q → q < p → dpF F q < dpF F p
  | 0 => ⟨0, by omega, fun q h0 h1 => by
      have e : q = 0 := by omega
      rw [e]; exact Int.le_refl _, fun q h0 h1 => by omega⟩
  | m + 1 => by
    obtain ⟨p, hp, a, b⟩ := dp_mx F m
    by_cases c : dpF F p < dpF F ((m : Int) + 1)
    · exact ⟨(m : Int) + 1, by omega, fun q q0 q1 => by
        by_cases e : q = (m : Int) + 1
        · rw [e]; exact Int.le_refl _
        · have := a q q0 (by omega); omega, fun q q0 q1 => by have := a q q0 (by omega); omega⟩
    · exact ⟨p, by omega, fun q q0 q1 => by
        by_cases e : q = (m : Int) + 1
        · rw [e]; omega
        · exact a q q0 (by omega), b⟩
theorem dp_ex (hr : Rep f g s F) (hok : okf f s) : ∃ p : Int, isDp F p := by
  by_cases z : ∀ c, F c = -1
  · exact ⟨-1, Or.inl ⟨rfl, z⟩⟩
  · obtain ⟨c, hc⟩ := Classical.not_forall.mp z
    obtain ⟨j, j0, j1, e⟩ := Rep_ex hr hc
    obtain ⟨p, hp, a, b⟩ := dp_mx F 99
    have k := a (c % 100) (by omega) (by omega)
    have h1 : dpF F (c % 100) ≠ 0 := fun h => by
      have h3 := nF_z hr h c hc
      have ho := hok j j0 j1
      rw [e] at ho
      rw [hoP_t ⟨Int.le_refl _, ho⟩] at h3
      cases h3
    have h2 : 0 ≤ dpF F (c % 100) := by rw [dp_e hr]; exact (cnt_b _ _ _).1
    exact ⟨p, Or.inr ⟨⟨hp.1, by omega⟩, by omega, fun q q0 q1 => a q q0 (by omega), b⟩⟩
theorem ch_rs (hr : Rep f g s F) (hok : okf f s) {q : Nat} (h : moP F (q + 2)) : chn F q / 100 < chn F (q + 1) / 100 := by
  obtain ⟨c, ⟨c0, c1⟩, c2, c3⟩ := chn_at hr (q := q + 1) (fun j hj => h j (by omega)) (h (q + 1) (by omega))
  have c3 : chn F q / 100 < f c % 100 := c3
  have := hok c c0 c1
  omega
theorem ch_ri (hr : Rep f g s F) (hok : okf f s) {k : Nat} : ∀ m : Nat, moP F (k + m + 2) → chn F k / 100 < chn F (k + m + 1) / 100
  | 0, h => ch_rs hr hok h
  | m + 1, h => Int.lt_trans (ch_ri hr hok m (fun j hj => h j (by omega))) (ch_rs hr hok (q := k + m + 1) h)
theorem pk_s (hT : sRp F) (hr : Rep f g s F) (hok : okf f s) (s8 : s ≤ 8) {x w : Int} (n0 : 0 ≤ n) (hm : moP F (n + 1).toNat) (h : pkP F S n) (ex : nF F (ltP (chn F n.toNat)) = x) (ew : w = pwI x) : pkP F (S + w) (n + 1) := by
  have e1 : (n + 1).toNat = n.toNat + 1 := by omega
  rw [e1] at hm
  obtain ⟨c, ⟨c0, c1⟩, c2, -⟩ := chn_at hr (q := n.toNat) (fun j hj => hm j (by omega)) (hm _ (Nat.lt_succ_self _))
  have k1 := rk_ex hT hr c0 c1
  rw [← c2, ex] at k1
  have hn : ¬ ∃ j : Int, (0 ≤ j ∧ j < n) ∧ nF F (ltP (chn F j.toNat)) = x := fun ⟨j, ⟨j0, j1⟩, e⟩ => by
    obtain ⟨d, ⟨d0, d1⟩, d2, -⟩ := chn_at hr (q := j.toNat) (fun i hi => hm i (by omega)) (hm _ (by omega))
    have k2 := rk_ex hT hr d0 d1
    rw [← d2, e, k1.2] at k2
    have k3 := ch_ri hr hok (k := j.toNat) (n.toNat - j.toNat - 1) (fun i hi => hm i (by omega))
    rw [show j.toNat + (n.toNat - j.toNat - 1) + 1 = n.toNat by omega, k2.2] at k3
    omega
  exact sB_cg (sB_add h k1.1.1 (by omega) hn ew) (fun r r0 r7 => ⟨fun q => q.elim (fun ⟨j, hj, e⟩ => ⟨j, ⟨hj.1, by omega⟩, e⟩) (fun e => ⟨n, ⟨n0, by omega⟩, ex.trans e.symm⟩), fun ⟨j, hj, e⟩ => by
    by_cases c : j = n
    · rw [c, ex] at e; exact Or.inr e.symm
    · exact Or.inl ⟨j, ⟨hj.1, by omega⟩, e⟩⟩)
theorem pk_x (hT : sRp F) (hr : Rep f g s F) (s8 : s ≤ 8) {x : Int} (hm : moP F (n + 1).toNat) (n0 : 0 ≤ n) (ex : nF F (ltP (chn F n.toNat)) = x) : 0 ≤ x ∧ x ≤ 7 := by
  rw [show (n + 1).toNat = n.toNat + 1 by omega] at hm
  obtain ⟨c, ⟨c0, c1⟩, c2, -⟩ := chn_at hr (q := n.toNat) (fun j hj => hm j (by omega)) (hm _ (Nat.lt_succ_self _))
  have k1 := (rk_ex hT hr c0 c1).1
  rw [← c2, ex] at k1
  omega
theorem pk_uh (hT : sRp F) (hr : Rep f g s F) (ht : Srt f s) (hok : okf f s) (s8 : s ≤ 8) {N : Nat} {v : List Value} (eN : (N : Int) = s) (hv : ∀ j : Int, 0 ≤ j → j < N → cv v j = f j) {m : Nat} (en : n = m) (hc : chn F m = -1) (h : pkP F S n) : unC (cv v) N S = 0 := un_z (fun r r0 r1 => by
  obtain ⟨q, q1, q2, q3⟩ := ch_hl hr ht hok r0 (by omega)
  have ql : q < m := mo_le hc (fun j hj => q1 j (by omega)) (q1 q (by omega))
  obtain ⟨c, ⟨c0, c1⟩, c2, -⟩ := chn_at hr (q := q) (fun j hj => q1 j (by omega)) (q1 q (by omega))
  obtain ⟨⟨k0, k1⟩, k2⟩ := rk_ex hT hr c0 c1
  refine ⟨nF F (ltP (f c)), k0, by omega, (h.2 _ k0 (by omega)).mpr ⟨q, by omega, by rw [Int.toNat_natCast, c2]⟩, ?_⟩
  rw [hv _ k0 (by omega), hv r r0 r1, ← cR_eq hr ht k0 k1, k2, ← c2]
  exact ⟨q2, q3⟩)
end BS
set_option maxHeartbeats 4000000 in
set_option maxRecDepth 100000 in
theorem n_X8_roomCount_x (l : Launch) (hl : l.stackTraces = false) {kc km : Int} {h : dm_H} (hI : Inv kc km h) {th : Int} {σ : St} (hM : MSt km th σ h) {a1 : Int} (h1a : 0 ≤ a1) (h1b : a1 ≤ 2) {r q : Nat} {u w us : List Value} (er : (r : Int) = (28 : Nat) + a1) (eq : (q : Int) = (32 : Nat) + a1) (hu : h[r]? = some (20, u)) (hw : h[q]? = some (20, w)) (au : arr 8 okC u) (aw : arr 8 anyI w) (h35 : h[35]? = some (20, us)) (as : arr 3 okS us) (hr : Rep (cv u) (cv w) (cv us a1) (σ.1 a1)) (s0 : 0 ≤ cv us a1) (s8 : cv us a1 ≤ 8) (hT : sSt σ) : dm_M l 205 4 2 32 [.ref 26, dI a1] h (QA h (RI2 (fun x => (0 ≤ x ∧ x ≤ 9) ∧ ∃ rv : Int → Int, rmX (σ.1 a1) rv ∧ mxR rv (zF (σ.1 a1)) x))) := by
  obtain ⟨ni, c26, -, -⟩ := hM.1
  refine dm_M_of dk_205 hl rfl (Nat.le_of_ble_eq_true rfl) ?_
  show dm_W (fun _ _ _ => True) (dm_P (QA h (RI2 (fun x => (0 ≤ x ∧ x ≤ 9) ∧ ∃ rv : Int → Int, rmX (σ.1 a1) rv ∧ mxR rv (zF (σ.1 a1)) x))) 2 32) l 205 4 2 32 0 [some (.ref 26), some (dI a1), none, none, none] [] h 0 0
  refine di_aload_n rfl rfl ?_
  refine dr_iload_n rfl rfl ?_
  refine dr_virt rfl rfl rfl rfl c26 (n_X8_row l hl hI hM (a1 := a1) (by omega) (by omega) er eq hu hw au aw h35 as hr s0 s8 hT) (by decide) (by decide) (by decide) (Nat.le_of_ble_eq_true rfl) kAN (kRW (fun h1 hA1 b n v hp hb hc ha => ?_))
  have hp : rwQ (σ.1 a1) n v := hp
  have n8 := hp.1.2
  have hI1 := App_Inv hA1 hI
  refine dr_stat rfl rfl rfl rfl (s_X8_roomsOf_f l hl hI1 (b0 := b) (n0 := n) (v0 := v) hc ha n8 hp.2.1) (by decide) (by decide) (by decide) (Nat.le_of_ble_eq_true rfl) kAN (kRW (fun h2 hA2 b2 n2 v2 hq hb2 hc2 ha2 => ?_))
  have hX := rmQ_X hp hq
  obtain ⟨rfl, hR, h8⟩ := hq
  have hA := App_tr hA1 hA2
  refine di_astore_n (ls2 := [some (.ref 26), some (dI a1), some (.ref b2), none, none]) rfl rfl rfl ?_
  refine di_const rfl ?_
  refine di_istore_n (ls2 := [some (.ref 26), some (dI a1), some (.ref b2), some (dI 0), none]) rfl rfl rfl ?_
  refine di_const rfl ?_
  refine di_istore (ls2 := [some (.ref 26), some (dI a1), some (.ref b2), some (dI 0), some (dI 0)]) rfl rfl rfl ?_
  have L : ∀ (k : Nat) (m i : Int), (8 - i).toNat < k → 0 ≤ m → m ≤ 9 → 0 ≤ i → i ≤ n2 → mxR (cv v2) i m → dm_W (fun _ _ _ => True) (dm_P (QA h (RI2 (fun x => (0 ≤ x ∧ x ≤ 9) ∧ ∃ rv : Int → Int, rmX (σ.1 a1) rv ∧ mxR rv (zF (σ.1 a1)) x))) 2 32) l 205 4 2 32 14 [some (.ref 26), some (dI a1), some (.ref b2), some (dI m), some (dI i)] [] h2 2 32 := by
    intro k
    induction k with
    | zero => intro m i hm; exact absurd hm (Nat.not_lt_zero _)
    | succ k ih =>
      intro m i hm m0 m1 i0 i1 PM
      refine dr_iload rfl rfl ?_
      refine di_aload_n rfl rfl ?_
      refine di_alen (n := n2) rfl hc2 (Or.inl rfl) ha2.1 ?_
      refine di_icmp_ge rfl rfl (by omega) (by omega) (by omega) (by omega) (fun c => ?_) (fun c => ?_)
      · have ee : i = n2 := by omega
        refine dr_iload_n rfl rfl ?_
        exact dr_iret (ty := .int) rfl rfl rfl (by decide) (by decide) ⟨hA, m, ⟨⟨m0, m1⟩, ⟨cv v2, hX, by rw [← hp.1.1, ← ee]; exact PM⟩⟩, by omega, by omega, rfl⟩
      refine di_aload_n rfl rfl ?_
      refine dr_iload rfl rfl ?_
      refine di_iald rfl hc2 ha2 (by omega) (by omega) (fun x xf xa xb xv => ?_)
      have xw : cv v2 i = x := cv_eq xv xa xb
      have x8 := h8 i i0 (by omega)
      rw [xw] at x8
      refine dr_iload_n rfl rfl ?_
      refine di_icmp_lt rfl rfl (by omega) (by omega) (by omega) (by omega) (fun c2 => ?_) (fun c2 => ?_)
      · refine di_iinc (ls2 := [some (.ref 26), some (dI a1), some (.ref b2), some (dI m), some (dI (i + 1))]) rfl rfl rfl rfl ?_
        refine dr_goto rfl rfl ?_
        exact ih m (i + 1) (by omega) m0 m1 (by omega) (by omega) (mx_j PM xw c2)
      refine di_aload_n rfl rfl ?_
      refine dr_iload rfl rfl ?_
      refine di_iald rfl hc2 ha2 (by omega) (by omega) (fun y yf ya yb yv => ?_)
      have yw : cv v2 i = y := cv_eq yv ya yb
      refine di_const rfl ?_
      refine di_iadd rfl ?_
      refine di_istore_n (ls2 := [some (.ref 26), some (dI a1), some (.ref b2), some (dI (y + 1)), some (dI i)]) rfl rfl rfl ?_
      refine di_iinc (ls2 := [some (.ref 26), some (dI a1), some (.ref b2), some (dI (y + 1)), some (dI (i + 1))]) rfl rfl rfl rfl ?_
      refine dr_goto rfl rfl ?_
      exact ih (y + 1) (i + 1) (by omega) (by omega) (by omega) (by omega) (by omega) (mx_i PM i0 yw (by omega) (by omega))
  exact L _ 0 0 (Nat.lt_succ_self _) (by omega) (by omega) (by omega) (by omega) ⟨fun r r0 r1 => by omega, Or.inl rfl⟩
set_option maxHeartbeats 4000000 in
set_option maxRecDepth 100000 in
theorem n_X8_isBookSound (l : Launch) (hl : l.stackTraces = false) {kc km : Int} {h : dm_H} (hI : Inv kc km h) {th : Int} {σ : St} (hM : MSt km th σ h) {a1 : Int} (h1a : 0 ≤ a1) (h1b : a1 ≤ 2) (hT : sSt σ) : dm_M l 219 5 5 180 [.ref 26, dI a1] h (QA h (RI2 (fun x => x = 1))) := by
  obtain ⟨ni, c26, -, -⟩ := hM.1
  obtain ⟨r, q, u, w, us, er, eq, hu, hw, au, aw, h35, as, hr, s0, s8⟩ := MSt_bk hM (k := a1) h1a h1b
  have hTa : sRp (σ.1 a1) := hT a1 h1a h1b
  obtain ⟨f0, g0, q0, r0, t0⟩ := id hTa
  have es : q0 = cv us a1 := Rep_sz r0 hr
  refine dm_M_of dk_219 hl rfl (Nat.le_of_ble_eq_true rfl) ?_
  show dm_W (fun _ _ _ => True) (dm_P (QA h (RI2 (fun x => x = 1))) 5 180) l 219 5 5 180 0 [some (.ref 26), some (dI a1), none, none, none, none, none, none, none] [] h 0 0
  refine di_aload_n rfl rfl ?_
  refine dr_iload_n rfl rfl ?_
  refine dr_virt rfl rfl rfl rfl c26 (n_X8_row l hl hI hM (a1 := a1) (by omega) (by omega) er eq hu hw au aw h35 as hr s0 s8 hT) (by decide) (by decide) (by decide) (Nat.le_of_ble_eq_true rfl) kAN (kRW (fun h1 hA1 b n v hp hb hc ha => ?_))
  have hp : rwQ (σ.1 a1) n v := hp
  have n8 := hp.1.2
  have en : (n : Int) = q0 := hp.1.1.trans (zF_eq r0)
  have hI1 := App_Inv hA1 hI
  have hM1 := MSt_Ap hM hI hA1
  have d26 := App_at hA1 c26
  have hv : ∀ j : Int, 0 ≤ j → j < n → cv v j = f0 j := fun j j0 j1 => by rw [hp.2.2 j j0 j1, cR_eq r0 t0 j0 (by omega)]
  have hok : okf f0 q0 := fun j j0 j1 => by rw [← hv j j0 (by omega)]; exact (hp.2.1 j j0 (by omega)).2
  have rn : Rep f0 g0 (n : Int) (σ.1 a1) := by rw [en]; exact r0
  have tn : Srt f0 (n : Int) := by rw [en]; exact t0
  have okn : okf f0 (n : Int) := by rw [en]; exact hok
  refine di_astore_n (ls2 := [some (.ref 26), some (dI a1), some (.ref b), none, none, none, none, none, none]) rfl rfl rfl ?_
  refine di_const rfl ?_
  refine di_istore_n (ls2 := [some (.ref 26), some (dI a1), some (.ref b), some (dI 0), none, none, none, none, none]) rfl rfl rfl ?_
  have LS : ∀ (b2 : Nat) (S d : Int) (b3 : Nat) (h3 : dm_H) (n2 : Nat) (v2 v3 : List Value) (p : Int), App h h3 → h3[b]? = some (20, v) → h3[b2]? = some (20, v2) → arr n2 okR v2 → n2 ≤ 100 → moP (σ.1 a1) n2 → chn (σ.1 a1) n2 = -1 → (∀ j : Int, 0 ≤ j → j < n2 → cv v2 j = chn (σ.1 a1) j.toNat) → isDp (σ.1 a1) p → d = cnt f0 (hoP p) n → 0 ≤ d → d ≤ 8 → ∀ (k : Nat) (few t : Int), (256 - t).toNat < k → 0 ≤ t → t ≤ pwI (n : Int) → -1 ≤ few → few ≤ 8 → (0 < (n : Int) → fwP v (n : Int) few t) → dm_W (fun _ _ _ => True) (dm_P (QA h (RI2 (fun x => x = 1))) 5 180) l 219 5 5 180 200 [some (.ref 26), some (dI a1), some (.ref b), some (.ref b2), some (dI S), some (dI d), some (.ref b3), some (dI few), some (dI t)] [] h3 5 164 := by
    intro b2 S d b3 h3 n2 v2 v3 p hA hcb hc2 ha2 n100 hmo hch hpk hdp hd d0 d8 k
    have p8 := pwI_8 (r := (n : Int)) (by omega) (by omega)
    have hI3 := App_Inv hA hI
    have hM3 := MSt_Ap hM hI hA
    have e26 := App_at hA c26
    induction k with
    | zero => intro few t hm; exact absurd hm (Nat.not_lt_zero _)
    | succ k ih =>
      intro few t hm t1 t2 f1 f8 PW
      have nx : ∀ few2 : Int, -1 ≤ few2 → few2 ≤ 8 → t < pwI (n : Int) → (0 < (n : Int) → fwP v (n : Int) few2 (t + 1)) → dm_W (fun _ _ _ => True) (dm_P (QA h (RI2 (fun x => x = 1))) 5 180) l 219 5 5 180 275 [some (.ref 26), some (dI a1), some (.ref b), some (.ref b2), some (dI S), some (dI d), some (.ref b3), some (dI few2), some (dI t)] [] h3 5 164 := by
        intro few2 q0 q1 q2 qw
        refine di_iinc (ls2 := [some (.ref 26), some (dI a1), some (.ref b), some (.ref b2), some (dI S), some (dI d), some (.ref b3), some (dI few2), some (dI (t + 1))]) rfl rfl rfl rfl ?_
        refine dr_goto rfl rfl ?_
        exact ih few2 (t + 1) (by omega) (by omega) (by omega) q0 q1 qw
      refine dr_iload rfl rfl ?_
      refine di_const rfl ?_
      refine di_aload_n rfl rfl ?_
      refine di_alen (n := n) rfl hcb (Or.inl rfl) ha.1 ?_
      refine di_shl8 rfl (by omega) (by omega) (fun x xa xb xe => ?_)
      refine di_icmp_ge rfl rfl (by omega) (by omega) (by omega) (by omega) (fun c => ?_) (fun c => ?_)
      · have et : t = pwI (n : Int) := by omega
        subst et
        have one : dm_W (fun _ _ _ => True) (dm_P (QA h (RI2 (fun x => x = 1))) 5 180) l 219 5 5 180 311 [some (.ref 26), some (dI a1), some (.ref b), some (.ref b2), some (dI S), some (dI d), some (.ref b3), some (dI few), some (dI (pwI (n : Int)))] [] h3 5 164 := by
          refine di_const rfl ?_
          refine dr_goto rfl rfl ?_
          exact dr_iret (ty := .boolean) rfl rfl (nar_z (by omega) (by omega)) (by decide) (by decide) ⟨hA, 1, rfl, by omega, by omega, rfl⟩
        refine di_aload_n rfl rfl ?_
        refine di_alen (n := n) rfl hcb (Or.inl rfl) ha.1 ?_
        refine di_if_eq rfl rfl (by omega) (by omega) (fun c2 => ?_) (fun c2 => ?_)
        · exact one
        have n1 : 0 < (n : Int) := by omega
        refine di_aload_n rfl rfl ?_
        refine dr_iload_n rfl rfl ?_
        refine di_aload_n rfl rfl ?_
        refine di_const rfl ?_
        refine di_iald rfl hcb ha (by omega) (by omega) (fun y yf ya yb yv => ?_)
        have yw : cv v 0 = y := cv_eq yv ya yb
        have yg := hp.2.1 0 (by omega) (by omega)
        rw [yw] at yg
        have yh : -1 ≤ y ∧ y ≤ 9999 := yf
        refine di_bipush rfl (by decide) ?_
        refine dR_rem rfl (by omega) (by omega) (fun y2 y2a y2b y2e => ?_)
        have y2e := y2e (by omega)
        refine di_aload_n rfl rfl ?_
        refine di_aload_n rfl rfl ?_
        refine di_alen (n := n) rfl hcb (Or.inl rfl) ha.1 ?_
        refine di_const rfl ?_
        refine di_isub rfl ?_
        refine di_iald rfl hcb ha (by omega) (by omega) (fun z zf za zb zv => ?_)
        have zw : cv v ((n : Int) - 1) = z := cv_eq zv za zb
        have zg := hp.2.1 ((n : Int) - 1) (by omega) (by omega)
        rw [zw] at zg
        have zh : -1 ≤ z ∧ z ≤ 9999 := zf
        refine di_bipush rfl (by decide) ?_
        refine dR_div rfl (by omega) (by omega) (fun z2 z2a z2b z2e => ?_)
        have z2e := z2e (by omega)
        refine dr_virt rfl rfl rfl rfl e26 (n_X8_linkCount l hl hI3 hM3 (a1 := a1) (by omega) (by omega) (a2 := y2) (by omega) (by omega) (a3 := z2) (by omega) (by omega) er eq (App_at hA hu) (App_at hA hw) au aw (App_at hA h35) as hr s0 s8) (by decide) (by decide) (by decide) (Nat.le_of_ble_eq_true rfl) kNP (kIP (fun x9 xf9 xa9 xb9 => ?_))
        obtain ⟨xc9, xd9, xk9⟩ := xf9
        have e1 : y2 = cv v 0 % 100 := by rw [yw]; omega
        have e2 : z2 = cv v ((n : Int) - 1) / 100 := by rw [zw]; omega
        rw [e1, e2] at xk9
        have e3 : x9 = few := fw_lG rn tn (by omega) hv (PW n1) xk9
        refine dr_iload rfl rfl ?_
        refine di_icmp_ne rfl rfl (by omega) (by omega) (by omega) (by omega) (fun c3 => absurd e3 c3) (fun _ => ?_)
        exact one
      have t255 : t ≤ 255 := by omega
      have bt := bb_8 (s := t) t1 t255
      have bn := bb_nn t 8
      refine di_aload_n rfl rfl ?_
      refine dr_iload rfl rfl ?_
      refine di_aload_n rfl rfl ?_
      refine dr_iload rfl rfl ?_
      refine dr_stat rfl rfl rfl rfl (s_X8_isSetSound_f l hl hI3 (b0 := b) (n0 := n) (v0 := v) hcb ha n8 (A := t) t1 (by omega) (b2 := b2) (n2 := n2) (v2 := v2) hc2 ha2 n100 (a3 := d) d0 d8 (F := σ.1 a1) (f := f0) (g := g0) (p := p) rn tn okn hv hmo hch hpk hdp hd) (by decide) (by decide) (by decide) (Nat.le_of_ble_eq_true rfl) kNP (kIP (fun y yf ya yb => ?_))
      have yf : y = 1 := yf
      subst yf
      refine di_if_ne rfl rfl (by omega) (by omega) (fun _ => ?_) (fun c9 => absurd c9 (by decide))
      refine di_aload_n rfl rfl ?_
      refine di_alen (n := n) rfl hcb (Or.inl rfl) ha.1 ?_
      refine di_if_le rfl rfl (by omega) (by omega) (fun c2 => ?_) (fun c2 => ?_)
      · exact nx few f1 f8 (by omega) (fun q => by omega)
      have n1 : 0 < (n : Int) := by omega
      have tk : (few = -1 ∨ bb t 8 < few) → dm_W (fun _ _ _ => True) (dm_P (QA h (RI2 (fun x => x = 1))) 5 180) l 219 5 5 180 244 [some (.ref 26), some (dI a1), some (.ref b), some (.ref b2), some (dI S), some (dI d), some (.ref b3), some (dI few), some (dI t)] [] h3 5 164 := by
        intro c3
        refine di_aload_n rfl rfl ?_
        refine dr_iload rfl rfl ?_
        refine di_aload_n rfl rfl ?_
        refine di_const rfl ?_
        refine di_iald rfl hcb ha (by omega) (by omega) (fun y yf ya yb yv => ?_)
        have yw : cv v 0 = y := cv_eq yv ya yb
        have yg := hp.2.1 0 (by omega) (by omega)
        rw [yw] at yg
        have yh : -1 ≤ y ∧ y ≤ 9999 := yf
        refine di_bipush rfl (by decide) ?_
        refine dR_rem rfl (by omega) (by omega) (fun y2 y2a y2b y2e => ?_)
        have y2e := y2e (by omega)
        refine di_aload_n rfl rfl ?_
        refine di_aload_n rfl rfl ?_
        refine di_alen (n := n) rfl hcb (Or.inl rfl) ha.1 ?_
        refine di_const rfl ?_
        refine di_isub rfl ?_
        refine di_iald rfl hcb ha (by omega) (by omega) (fun z zf za zb zv => ?_)
        have zw : cv v ((n : Int) - 1) = z := cv_eq zv za zb
        have zg := hp.2.1 ((n : Int) - 1) (by omega) (by omega)
        rw [zw] at zg
        have zh : -1 ≤ z ∧ z ≤ 9999 := zf
        refine di_bipush rfl (by decide) ?_
        refine dR_div rfl (by omega) (by omega) (fun z2 z2a z2b z2e => ?_)
        have z2e := z2e (by omega)
        have e1 : y2 = cv v 0 % 100 := by rw [yw]; omega
        have e2 : z2 = cv v ((n : Int) - 1) / 100 := by rw [zw]; omega
        refine dr_stat rfl rfl rfl rfl (s_X8_isAllHeld_f l hl hI3 (b0 := b) (n0 := n) (v0 := v) hcb ha n8 (a1 := t) t1 t255 (a2 := y2) (by omega) (by omega) (a3 := z2) (by omega) (by omega) (hv := hp.2.1)) (by decide) (by decide) (by decide) (Nat.le_of_ble_eq_true rfl) kNP (kIP (fun x9 xf9 xa9 xb9 => ?_))
        obtain ⟨xc9, xd9, xk9, xk8⟩ := xf9
        rw [e1, e2] at xk9 xk8
        refine di_if_eq rfl rfl (by omega) (by omega) (fun c4 => ?_) (fun c4 => ?_)
        · exact nx few f1 f8 (by omega) (fun q => fw_n (PW q) (xk8 c4))
        refine dr_iload rfl rfl ?_
        refine dr_stat rfl rfl rfl rfl (s_X8_sizeOf_s l hl hI3 (a0 := t) t1 t255) (by decide) (by decide) (by decide) (Nat.le_of_ble_eq_true rfl) kNP (kIP (fun y3 y3f y3a y3b => ?_))
        obtain ⟨y3c, y3d, y3k⟩ := y3f
        refine di_istore (ls2 := [some (.ref 26), some (dI a1), some (.ref b), some (.ref b2), some (dI S), some (dI d), some (.ref b3), some (dI y3), some (dI t)]) rfl rfl rfl ?_
        exact nx y3 (by omega) (by omega) (by omega) (fun q => fw_y (PW q) t1 ⟨bn, bt⟩ (xk9 (by omega)) c3 y3k)
      refine dr_iload rfl rfl ?_
      refine di_const rfl ?_
      refine di_icmp_eq rfl rfl (by omega) (by omega) (by omega) (by omega) (fun c3 => ?_) (fun c3 => ?_)
      · exact tk (Or.inl c3)
      refine dr_iload rfl rfl ?_
      refine dr_stat rfl rfl rfl rfl (s_X8_sizeOf_s l hl hI3 (a0 := t) t1 t255) (by decide) (by decide) (by decide) (Nat.le_of_ble_eq_true rfl) kNP (kIP (fun y3 y3f y3a y3b => ?_))
      obtain ⟨y3c, y3d, y3k⟩ := y3f
      refine dr_iload rfl rfl ?_
      refine di_icmp_ge rfl rfl (by omega) (by omega) (by omega) (by omega) (fun c4 => ?_) (fun c4 => ?_)
      · exact nx few f1 f8 (by omega) (fun q => fw_k (PW q) c3 (by omega))
      · exact tk (Or.inr (by omega))
  have LB : ∀ (b2 : Nat) (S d : Int) (b3 : Nat) (h3 : dm_H) (n2 : Nat) (v2 v3 : List Value) (p : Int), App h h3 → h3[b]? = some (20, v) → h3[b2]? = some (20, v2) → arr n2 okR v2 → n2 ≤ 100 → moP (σ.1 a1) n2 → chn (σ.1 a1) n2 = -1 → (∀ j : Int, 0 ≤ j → j < n2 → cv v2 j = chn (σ.1 a1) j.toNat) → isDp (σ.1 a1) p → d = cnt f0 (hoP p) n → 0 ≤ d → d ≤ 8 → h3[b3]? = some (20, v3) → arr n okR v3 → RM (cv v) n (cv v3) → ∀ (k : Nat) (i j : Int), (9 * (8 - i) + (8 - j)).toNat < k → 0 ≤ i → i < n → 0 ≤ j → j ≤ i → dm_W (fun _ _ _ => True) (dm_P (QA h (RI2 (fun x => x = 1))) 5 180) l 219 5 5 180 146 [some (.ref 26), some (dI a1), some (.ref b), some (.ref b2), some (dI S), some (dI d), some (.ref b3), some (dI i), some (dI j)] [] h3 5 164 := by
    intro b2 S d b3 h3 n2 v2 v3 p hA hcb hc2 ha2 n100 hmo hch hpk hdp hd d0 d8 hc3 ha3 hR k
    have hI3 := App_Inv hA hI
    induction k with
    | zero => intro i j hm; exact absurd hm (Nat.not_lt_zero _)
    | succ k ih =>
      intro i j hm i0 i1 j0 j1
      have nx : j < i → dm_W (fun _ _ _ => True) (dm_P (QA h (RI2 (fun x => x = 1))) 5 180) l 219 5 5 180 182 [some (.ref 26), some (dI a1), some (.ref b), some (.ref b2), some (dI S), some (dI d), some (.ref b3), some (dI i), some (dI j)] [] h3 5 164 := by
        intro ji
        refine di_iinc (ls2 := [some (.ref 26), some (dI a1), some (.ref b), some (.ref b2), some (dI S), some (dI d), some (.ref b3), some (dI i), some (dI (j + 1))]) rfl rfl rfl rfl ?_
        refine dr_goto rfl rfl ?_
        exact ih i (j + 1) (by omega) i0 i1 (by omega) (by omega)
      refine dr_iload rfl rfl ?_
      refine dr_iload rfl rfl ?_
      refine di_icmp_ge rfl rfl (by omega) (by omega) (by omega) (by omega) (fun c => ?_) (fun c => ?_)
      · refine di_iinc (ls2 := [some (.ref 26), some (dI a1), some (.ref b), some (.ref b2), some (dI S), some (dI d), some (.ref b3), some (dI (i + 1)), some (dI j)]) rfl rfl rfl rfl ?_
        refine dr_goto rfl rfl ?_
        refine dr_iload rfl rfl ?_
        refine di_aload_n rfl rfl ?_
        refine di_alen (n := n) rfl hcb (Or.inl rfl) ha.1 ?_
        refine di_icmp_ge rfl rfl (by omega) (by omega) (by omega) (by omega) (fun c2 => ?_) (fun c2 => ?_)
        · refine di_const rfl ?_
          refine di_istore (ls2 := [some (.ref 26), some (dI a1), some (.ref b), some (.ref b2), some (dI S), some (dI d), some (.ref b3), some (dI (-1)), some (dI j)]) rfl rfl rfl ?_
          refine di_const rfl ?_
          refine di_istore (ls2 := [some (.ref 26), some (dI a1), some (.ref b), some (.ref b2), some (dI S), some (dI d), some (.ref b3), some (dI (-1)), some (dI 0)]) rfl rfl rfl ?_
          exact LS b2 S d b3 h3 n2 v2 v3 p hA hcb hc2 ha2 n100 hmo hch hpk hdp hd d0 d8 _ (-1) 0 (Nat.lt_succ_self _) (by omega) (by have := pwI_8 (r := (n : Int)) (by omega) (by omega); omega) (by omega) (by omega) (fun _ => fw_0)
        · refine di_const rfl ?_
          refine di_istore (ls2 := [some (.ref 26), some (dI a1), some (.ref b), some (.ref b2), some (dI S), some (dI d), some (.ref b3), some (dI (i + 1)), some (dI 0)]) rfl rfl rfl ?_
          exact ih (i + 1) 0 (by omega) (by omega) (by omega) (by omega) (by omega)
      refine di_aload rfl rfl ?_
      refine dr_iload rfl rfl ?_
      refine di_iald rfl hc3 ha3 (by omega) (by omega) (fun x xf xa xb xv => ?_)
      have xw : cv v3 i = x := cv_eq xv xa xb
      refine di_aload rfl rfl ?_
      refine dr_iload rfl rfl ?_
      refine di_iald rfl hc3 ha3 (by omega) (by omega) (fun y yf ya yb yv => ?_)
      have yw : cv v3 j = y := cv_eq yv ya yb
      refine di_icmp_ne rfl rfl (by omega) (by omega) (by omega) (by omega) (fun c2 => ?_) (fun c2 => ?_)
      · exact nx (by omega)
      have ne := rm_pr hR (r := i) (k := j) i0 i1 j0 (by omega) (by omega) (by rw [xw, yw]; omega)
      refine di_aload_n rfl rfl ?_
      refine dr_iload rfl rfl ?_
      refine di_iald rfl hcb ha (by omega) (by omega) (fun z zf za zb zv => ?_)
      have zw : cv v i = z := cv_eq zv za zb
      have zg := hp.2.1 i i0 (by omega)
      rw [zw] at zg
      have zh : -1 ≤ z ∧ z ≤ 9999 := zf
      refine di_aload_n rfl rfl ?_
      refine dr_iload rfl rfl ?_
      refine di_iald rfl hcb ha (by omega) (by omega) (fun z2 z2f z2a z2b z2v => ?_)
      have z2w : cv v j = z2 := cv_eq z2v z2a z2b
      have z2g := hp.2.1 j j0 (by omega)
      rw [z2w] at z2g
      have z2h : -1 ≤ z2 ∧ z2 ≤ 9999 := z2f
      refine dr_stat rfl rfl rfl rfl (s_X8_areMeeting_d l hl hI3 (a0 := z) (by omega) (by omega) (a1 := z2) (by omega) (by omega) zg.2 z2g.2) (by decide) (by decide) (by decide) (Nat.le_of_ble_eq_true rfl) kNP (kIP (fun x9 xf9 xa9 xb9 => ?_))
      obtain ⟨xc9, xd9, xk9, xk8⟩ := xf9
      refine di_if_eq rfl rfl (by omega) (by omega) (fun c4 => ?_) (fun c4 => ?_)
      · exact nx (by omega)
      exfalso
      have q9 := xk9 (by omega)
      rw [← zw, ← z2w] at q9
      exact ne ⟨q9.2, q9.1⟩
  have LP : ∀ (b2 n2 : Nat), n2 ≤ 100 → moP (σ.1 a1) n2 → chn (σ.1 a1) n2 = -1 → h1.length ≤ b2 → ∀ (k : Nat) (S i : Int) (h2 : dm_H) (v2 : List Value), (100 - i).toNat < k → 0 ≤ i → i ≤ n2 → pkP (σ.1 a1) S i → App h1 h2 → h2[b2]? = some (20, v2) → arr n2 okR v2 → (∀ j : Int, 0 ≤ j → j < i → cv v2 j = chn (σ.1 a1) j.toNat) → dm_W (fun _ _ _ => True) (dm_P (QA h (RI2 (fun x => x = 1))) 5 180) l 219 5 5 180 58 [some (.ref 26), some (dI a1), some (.ref b), some (.ref b2), some (dI S), some (dI i), none, none, none] [] h2 2 116 := by
    intro b2 n2 n100 hmo hch hb2 k
    induction k with
    | zero => intro S i h2 v2 hm; exact absurd hm (Nat.not_lt_zero _)
    | succ k ih =>
      intro S i h2 v2 hm i0 i1 PS hA2 hc2 ha2 PV
      have Sg := PS.1
      have hA := App_tr hA1 hA2
      have hI2 := App_Inv hA hI
      have hM2 := MSt_Ap hM hI hA
      have e26 := App_at hA c26
      have hcb := App_at hA2 hc
      refine dr_iload rfl rfl ?_
      refine di_aload_n rfl rfl ?_
      refine di_alen (n := n2) rfl hc2 (Or.inl rfl) ha2.1 ?_
      refine di_icmp_ge rfl rfl (by omega) (by omega) (by omega) (by omega) (fun c => ?_) (fun c => ?_)
      · have ei : i = n2 := by omega
        refine di_aload_n rfl rfl ?_
        refine dr_iload_n rfl rfl ?_
        refine di_const rfl ?_
        refine dr_virt rfl rfl rfl rfl e26 (n_X8_deepestOf l hl hI2 hM2 (a1 := a1) (by omega) (by omega) (a2 := 0) (by omega) (by omega) er eq (App_at hA hu) (App_at hA hw) au aw (App_at hA h35) as hr s0 s8) (by decide) (by decide) (by decide) (Nat.le_of_ble_eq_true rfl) kNP (kIP (fun d df da db => ?_))
        obtain ⟨dc, dd, dk⟩ := df
        obtain ⟨p, hdp⟩ := dp_ex r0 hok
        have hd : d = cnt f0 (hoP p) n := by
          have k9 := deep_0 (z := 0) r0 hdp rfl rfl
          rw [k9, ← en, Int.toNat_natCast] at dk
          exact dk.symm
        have dB := cnt_b f0 (hoP p) n
        rw [← hd] at dB
        refine di_istore (ls2 := [some (.ref 26), some (dI a1), some (.ref b), some (.ref b2), some (dI S), some (dI d), none, none, none]) rfl rfl rfl ?_
        refine di_aload_n rfl rfl ?_
        refine dr_iload rfl rfl ?_
        refine dr_stat rfl rfl rfl rfl (s_X8_unheldIn_f l hl hI2 (b0 := b) (n0 := n) (v0 := v) hcb ha (by omega) (a1 := S) (by omega) (by omega) (hv := hp.2.1)) (by decide) (by decide) (by decide) (Nat.le_of_ble_eq_true rfl) kNP (kIP (fun y yf ya yb => ?_))
        obtain ⟨yc, yd, yk⟩ := yf
        rw [pk_uh hTa rn tn okn (by omega) rfl hv ei hch PS] at yk
        refine di_if_gt rfl rfl (by omega) (by omega) (fun c9 => by omega) (fun _ => ?_)
        refine di_aload_n rfl rfl ?_
        refine dr_iload_n rfl rfl ?_
        refine dr_virt rfl rfl rfl rfl e26 (n_X8_roomCount_x l hl hI2 hM2 (a1 := a1) (by omega) (by omega) er eq (App_at hA hu) (App_at hA hw) au aw (App_at hA h35) as hr s0 s8 hT) (by decide) (by decide) (by decide) (Nat.le_of_ble_eq_true rfl) kAN (kAI (fun m h4 hA4 mf ma mb => ?_))
        obtain ⟨mg, rv, hX, hmx⟩ := mf
        have hX : RM (cR (σ.1 a1)) (zF (σ.1 a1)) rv := hX
        rw [← hp.1.1] at hX hmx
        have em : m = d := rm_eqG rn okn (RM_cg hX (fun j j0 j1 => cR_eq rn tn j0 j1)) hmx hdp (by rw [Int.toNat_natCast]; exact hd)
        have hB := App_tr hA hA4
        have hB2 := App_tr hA2 hA4
        have hI4 := App_Inv hB hI
        refine dr_iload rfl rfl ?_
        refine di_icmp_eq rfl rfl (by omega) (by omega) (by omega) (by omega) (fun _ => ?_) (fun c9 => absurd em c9)
        refine di_aload_n rfl rfl ?_
        refine dr_stat rfl rfl rfl rfl (s_X8_roomsOf_f l hl hI4 (b0 := b) (n0 := n) (v0 := v) (App_at hB2 hc) ha n8 hp.2.1) (by decide) (by decide) (by decide) (Nat.le_of_ble_eq_true rfl) kAN (kRW (fun h5 hA5 b3 n3 v3 hq hb3 hc3 ha3 => ?_))
        obtain ⟨rfl, hR, h8⟩ := hq
        have hC := App_tr hB hA5
        have hC2 := App_tr hB2 hA5
        refine di_astore (ls2 := [some (.ref 26), some (dI a1), some (.ref b), some (.ref b2), some (dI S), some (dI d), some (.ref b3), none, none]) rfl rfl rfl ?_
        refine di_const rfl ?_
        refine di_istore (ls2 := [some (.ref 26), some (dI a1), some (.ref b), some (.ref b2), some (dI S), some (dI d), some (.ref b3), some (dI 0), none]) rfl rfl rfl ?_
        refine dr_iload rfl rfl ?_
        refine di_aload_n rfl rfl ?_
        have hcb5 := App_at hC2 hc
        have hc25 := App_at (App_tr hA4 hA5) hc2
        have PV2 : ∀ j : Int, 0 ≤ j → j < n2 → cv v2 j = chn (σ.1 a1) j.toNat := fun j j0 j1 => PV j j0 (by omega)
        refine di_alen (n := n3) rfl hcb5 (Or.inl rfl) ha.1 ?_
        refine di_icmp_ge rfl rfl (by omega) (by omega) (by omega) (by omega) (fun c2 => ?_) (fun c2 => ?_)
        · refine di_const rfl ?_
          refine di_istore (ls2 := [some (.ref 26), some (dI a1), some (.ref b), some (.ref b2), some (dI S), some (dI d), some (.ref b3), some (dI (-1)), none]) rfl rfl rfl ?_
          refine di_const rfl ?_
          refine di_istore (ls2 := [some (.ref 26), some (dI a1), some (.ref b), some (.ref b2), some (dI S), some (dI d), some (.ref b3), some (dI (-1)), some (dI 0)]) rfl rfl rfl ?_
          exact LS b2 S d b3 h5 n2 v2 v3 p hC hcb5 hc25 ha2 n100 hmo hch PV2 hdp hd (by omega) (by omega) _ (-1) 0 (Nat.lt_succ_self _) (by omega) (by have := pwI_8 (r := (n3 : Int)) (by omega) (by omega); omega) (by omega) (by omega) (fun _ => fw_0)
        · refine di_const rfl ?_
          refine di_istore (ls2 := [some (.ref 26), some (dI a1), some (.ref b), some (.ref b2), some (dI S), some (dI d), some (.ref b3), some (dI 0), some (dI 0)]) rfl rfl rfl ?_
          exact LB b2 S d b3 h5 n2 v2 v3 p hC hcb5 hc25 ha2 n100 hmo hch PV2 hdp hd (by omega) (by omega) hc3 ha3 hR _ 0 0 (Nat.lt_succ_self _) (by omega) (by omega) (by omega) (by omega)
      have hmi : moP (σ.1 a1) (i + 1).toNat := fun j hj => hmo j (by omega)
      refine di_aload_n rfl rfl ?_
      refine dr_iload rfl rfl ?_
      refine di_aload_n rfl rfl ?_
      refine dr_iload_n rfl rfl ?_
      refine dr_iload rfl rfl ?_
      refine dr_virt rfl rfl rfl rfl e26 (n_X8_chosenAt l hl hI2 hM2 (a1 := a1) (by omega) (by omega) (a2 := i) (by omega) (by omega) er eq (App_at hA hu) (App_at hA hw) au aw (App_at hA h35) as hr s0 s8) (by decide) (by decide) (by decide) (Nat.le_of_ble_eq_true rfl) kNP (kIP (fun y yf ya yb => ?_))
      obtain ⟨yc, yd, ym, yk⟩ := yf
      refine pdsX rfl hc2 ha2 (by omega) (by omega) ⟨by omega, by omega⟩ hb2 hA2 (fun h3 hA3 us3 hc3 ha3 hs3 hk3 => ?_)
      have hB := App_tr hA1 hA3
      have hI3 := App_Inv hB hI
      have hM3 := MSt_Ap hM hI hB
      refine dr_iload rfl rfl ?_
      refine di_const rfl ?_
      refine di_aload_n rfl rfl ?_
      refine dr_iload_n rfl rfl ?_
      refine di_aload_n rfl rfl ?_
      refine dr_iload rfl rfl ?_
      refine di_iald rfl hc3 ha3 (by omega) (by omega) (fun x xf xa xb xv => ?_)
      have xw : cv us3 i = x := cv_eq xv xa xb
      have xy : x = y := by rw [← xw]; exact stt_at hs3 i0
      subst xy
      refine dr_virt rfl rfl rfl rfl (App_at hB c26) (n_X8_rankOf l hl hI3 hM3 (a1 := a1) (by omega) (by omega) (a2 := x) (by omega) (by omega) er eq (App_at hB hu) (App_at hB hw) au aw (App_at hB h35) as hr s0 s8) (by decide) (by decide) (by decide) (Nat.le_of_ble_eq_true rfl) kNP (kIP (fun z zf za zb => ?_))
      obtain ⟨zc, zd, zk⟩ := zf
      have ez : nF (σ.1 a1) (ltP (chn (σ.1 a1) i.toNat)) = z := by rw [yk]; exact zk.symm
      have zx := pk_x hTa rn (by omega) hmi i0 ez
      refine di_shl8 rfl (by omega) (by omega) (fun x2 x2a x2b x2e => ?_)
      have PS2 := pk_s hTa rn okn (by omega) i0 hmi PS ez x2e
      have Sg2 := PS2.1
      refine di_iadd rfl ?_
      refine di_istore (ls2 := [some (.ref 26), some (dI a1), some (.ref b), some (.ref b2), some (dI (S + x2)), some (dI i), none, none, none]) rfl rfl rfl ?_
      refine di_iinc (ls2 := [some (.ref 26), some (dI a1), some (.ref b), some (.ref b2), some (dI (S + x2)), some (dI (i + 1)), none, none, none]) rfl rfl rfl rfl ?_
      refine dr_goto rfl rfl ?_
      exact ih (S + x2) (i + 1) h3 us3 (by omega) (by omega) (by omega) PS2 hA3 hc3 ha3 (fun j j0 j1 => by
        by_cases e : j = i
        · rw [e, stt_at hs3 i0]; exact yk.symm
        · rw [stt_ne hs3 j0 e]; exact PV j j0 (by omega))
  have LR : ∀ (k : Nat) (i : Int), (8 - i).toNat < k → 0 ≤ i → i ≤ n → dm_W (fun _ _ _ => True) (dm_P (QA h (RI2 (fun x => x = 1))) 5 180) l 219 5 5 180 8 [some (.ref 26), some (dI a1), some (.ref b), some (dI i), none, none, none, none, none] [] h1 1 16 := by
    intro k
    induction k with
    | zero => intro i hm; exact absurd hm (Nat.not_lt_zero _)
    | succ k ih =>
      intro i hm i0 i1
      refine dr_iload_n rfl rfl ?_
      refine di_aload_n rfl rfl ?_
      refine di_alen (n := n) rfl hc (Or.inl rfl) ha.1 ?_
      refine di_icmp_ge rfl rfl (by omega) (by omega) (by omega) (by omega) (fun c => ?_) (fun c => ?_)
      · refine di_aload_n rfl rfl ?_
        refine dr_iload_n rfl rfl ?_
        refine dr_virt rfl rfl rfl rfl d26 (n_X8_mostOf l hl hI1 hM1 (a1 := a1) (by omega) (by omega) er eq (App_at hA1 hu) (App_at hA1 hw) au aw (App_at hA1 h35) as hr s0 s8) (by decide) (by decide) (by decide) (Nat.le_of_ble_eq_true rfl) kNP (kIP (fun y yf ya yb => ?_))
        obtain ⟨yc, yd, yk⟩ := yf
        obtain ⟨-, hmo, hch⟩ := most_d r0 hok yk
        obtain ⟨n2, hn2⟩ := Int.eq_ofNat_of_zero_le (show 0 ≤ y by omega)
        have e2 : y.toNat = n2 := by omega
        rw [e2] at hmo hch
        refine pnw rfl hn2 (by omega) (by omega) (by omega) (fun h2 hA2 b2 hb2 vs hc2 ha2 => ?_)
        refine dm_cew (ce2 := 2) (sl2 := 116) (by omega) (by omega) ?_
        refine di_astore_n (ls2 := [some (.ref 26), some (dI a1), some (.ref b), some (.ref b2), none, none, none, none, none]) rfl rfl rfl ?_
        refine di_const rfl ?_
        refine di_istore (ls2 := [some (.ref 26), some (dI a1), some (.ref b), some (.ref b2), some (dI 0), none, none, none, none]) rfl rfl rfl ?_
        refine di_const rfl ?_
        refine di_istore (ls2 := [some (.ref 26), some (dI a1), some (.ref b), some (.ref b2), some (dI 0), some (dI 0), none, none, none]) rfl rfl rfl ?_
        exact LP b2 n2 (by omega) hmo hch hb2 _ 0 0 h2 vs (Nat.lt_succ_self _) (by omega) (by omega) pk_0 hA2 hc2 ha2 (fun j j0 j1 => by omega)
      have go : dm_W (fun _ _ _ => True) (dm_P (QA h (RI2 (fun x => x = 1))) 5 180) l 219 5 5 180 38 [some (.ref 26), some (dI a1), some (.ref b), some (dI i), none, none, none, none, none] [] h1 1 16 := by
        refine di_iinc (ls2 := [some (.ref 26), some (dI a1), some (.ref b), some (dI (i + 1)), none, none, none, none, none]) rfl rfl rfl rfl ?_
        refine dr_goto rfl rfl ?_
        exact ih (i + 1) (by omega) (by omega) (by omega)
      refine di_aload_n rfl rfl ?_
      refine dr_iload_n rfl rfl ?_
      refine di_iald rfl hc ha (by omega) (by omega) (fun x xf xa xb xv => ?_)
      have xw : cv v i = x := cv_eq xv xa xb
      have xg := hp.2.1 i i0 (by omega)
      rw [xw] at xg
      refine di_const rfl ?_
      refine di_icmp_eq rfl rfl (by omega) (by omega) (by omega) (by omega) (fun c9 => by omega) (fun _ => ?_)
      refine dr_iload_n rfl rfl ?_
      refine di_if_le rfl rfl (by omega) (by omega) (fun c2 => ?_) (fun c2 => ?_)
      · exact go
      refine di_aload_n rfl rfl ?_
      refine dr_iload_n rfl rfl ?_
      refine di_iald rfl hc ha (by omega) (by omega) (fun y yf ya yb yv => ?_)
      have yw : cv v i = y := cv_eq yv ya yb
      refine di_aload_n rfl rfl ?_
      refine dr_iload_n rfl rfl ?_
      refine di_const rfl ?_
      refine di_isub rfl ?_
      refine di_iald rfl hc ha (by omega) (by omega) (fun z zf za zb zv => ?_)
      have zw : cv v (i - 1) = z := cv_eq zv za zb
      have lt : z < y := by
        rw [← yw, ← zw, hv i i0 (by omega), hv (i - 1) (by omega) (by omega)]
        exact t0 (i - 1) i (by omega) (by omega) (by omega)
      refine di_icmp_gt rfl rfl (by omega) (by omega) (by omega) (by omega) (fun _ => ?_) (fun c9 => by omega)
      exact go
  exact LR _ 0 (Nat.lt_succ_self _) (by omega) (by omega)
/-! ===== the model's isSound ===== -/
set_option maxHeartbeats 4000000 in
set_option maxRecDepth 100000 in
theorem n_X8_isAllSound (l : Launch) (hl : l.stackTraces = false) {kc km : Int} {h : dm_H} (hI : Inv kc km h) {th : Int} {σ : St} (hM : MSt km th σ h) (hT : sSt σ) : dm_M l 221 6 46 1636 [.ref 26] h (QA h (RI2 (fun x => x = 1))) := by
  obtain ⟨ni, c26, -, -⟩ := hM.1
  refine dm_M_of dk_221 hl rfl (Nat.le_of_ble_eq_true rfl) ?_
  show dm_W (fun _ _ _ => True) (dm_P (QA h (RI2 (fun x => x = 1))) 46 1636) l 221 6 46 1636 0 [some (.ref 26), none] [] h 0 0
  refine di_const rfl ?_
  refine di_istore_n (ls2 := [some (.ref 26), some (dI 0)]) rfl rfl rfl ?_
  have L : ∀ (k : Nat) (i : Int) (cn sn : Nat) (h2 : dm_H), (8 - i).toNat < k → 0 ≤ i → i ≤ 3 → cn + 5 * (8 - i).toNat ≤ 45 → sn + 180 * (8 - i).toNat ≤ 1620 → App h h2 → dm_W (fun _ _ _ => True) (dm_P (QA h (RI2 (fun x => x = 1))) 46 1636) l 221 6 46 1636 2 [some (.ref 26), some (dI i)] [] h2 cn sn := by
    intro k
    induction k with
    | zero => intro i cn sn h2 hm; exact absurd hm (Nat.not_lt_zero _)
    | succ k ih =>
      intro i cn sn h2 hm i0 i1 hc hs hA
      have hI2 := App_Inv hA hI
      have hM2 := MSt_Ap hM hI hA
      refine dr_iload_n rfl rfl ?_
      refine di_const rfl ?_
      refine di_icmp_ge rfl rfl (by omega) (by omega) (by omega) (by omega) (fun c => ?_) (fun c => ?_)
      · refine di_aload_n rfl rfl ?_
        refine dr_virt rfl rfl rfl rfl (App_at hA c26) (n_X8_isPartSound l hl hI2 hM2 hT) (by decide) (by omega) (by omega) (Nat.le_of_ble_eq_true rfl) kAN (kAI (fun y h3 hA3 yf ya yb => ?_))
        have yf : y = 1 := yf
        subst yf
        exact dr_iret (ty := .boolean) rfl rfl (nar_z (by omega) (by omega)) (by omega) (by omega) ⟨App_tr hA hA3, 1, rfl, by omega, by omega, rfl⟩
      refine di_aload_n rfl rfl ?_
      refine dr_iload_n rfl rfl ?_
      refine dr_virt rfl rfl rfl rfl (App_at hA c26) (n_X8_isBookSound l hl hI2 hM2 (a1 := i) (by omega) (by omega) hT) (by decide) (by omega) (by omega) (Nat.le_of_ble_eq_true rfl) kAN (kAI (fun y h3 hA3 yf ya yb => ?_))
      have yf : y = 1 := yf
      subst yf
      refine di_if_ne rfl rfl (by omega) (by omega) (fun _ => ?_) (fun c9 => absurd c9 (by decide))
      refine di_iinc (ls2 := [some (.ref 26), some (dI (i + 1))]) rfl rfl rfl rfl ?_
      refine dr_goto rfl rfl ?_
      exact ih (i + 1) (cn + 5) (sn + 180) h3 (by omega) (by omega) (by omega) (by omega) (by omega) (App_tr hA hA3)
  exact L _ 0 0 0 h (Nat.lt_succ_self _) (by omega) (by omega) (by omega) (by omega) App_rf
set_option maxHeartbeats 4000000 in
set_option maxRecDepth 100000 in
theorem n_X8_isSound (l : Launch) (hl : l.stackTraces = false) {kc km : Int} {h : dm_H} (hI : Inv kc km h) {th : Int} {σ : St} (hM : MSt km th σ h) (hT : sSt σ) : dm_M l 222 7 46 1636 [.ref 26] h (QMA kc km h (0, 1, σ)) := by
  obtain ⟨⟨ni, c26, ni0, ni1⟩, ⟨⟨R1, R2⟩, ⟨R3, R4⟩, ⟨R5, R6⟩, ⟨R7, R8⟩, ⟨R9, R10⟩, ⟨R11, R12⟩, R13⟩, ⟨th0, th1⟩, -⟩ := id hM
  refine dm_M_of dk_222 hl rfl (Nat.le_of_ble_eq_true rfl) ?_
  show dm_W (fun _ _ _ => True) (dm_P (QMA kc km h (0, 1, σ)) 46 1636) l 222 7 46 1636 0 [some (.ref 26)] [] h 0 0
  refine di_aload_n rfl rfl ?_
  refine di_const rfl ?_
  refine pfX rfl c26 (Nat.le_of_ble_eq_true rfl) rfl hI (by decide) (T37_md (by omega) (by omega) (by omega) (by omega) (by omega) (by omega) (by omega) (by omega) R13) (fun h1 hI1 hk1 hc1 => ?_)
  have hM1 : MSt km 0 σ h1 := MSt_md hM hk1 (ni' := ni) hc1 rfl ⟨⟨R1, R2⟩, ⟨R3, R4⟩, ⟨R5, R6⟩, ⟨R7, R8⟩, ⟨R9, R10⟩, ⟨R11, R12⟩, R13⟩ ⟨by omega, by omega⟩ ⟨ni0, ni1⟩
  refine di_aload_n rfl rfl ?_
  refine dr_virt rfl rfl rfl rfl hc1 (n_X8_isAllSound l hl hI1 hM1 hT) (by decide) (by decide) (by decide) (Nat.le_of_ble_eq_true rfl) kAN (kAI (fun y h3 hA3 yf ya yb => ?_))
  have yf : y = 1 := yf
  subst yf
  exact dr_iret (ty := .boolean) rfl rfl (nar_z (by omega) (by omega)) (by decide) (by decide) (QMA_ok (App_Inv hA3 hI1) (FrN_tr (FrM_N (FrM_I hk1 (by decide) (by decide))) (App_N hA3)) (MSt_Ap hM1 hI1 hA3) (by omega) (by omega) rfl)
/-! ===== house, told on both sides ===== -/
def wq (x : Int) : Int := (Int32.ofInt x).toInt
theorem wq_b {x : Int} : -2147483648 ≤ wq x ∧ wq x < 2147483648 := ⟨Int32.le_toInt _, Int32.toInt_lt _⟩
theorem wq_d {x : Int} : dI (wq x) = dI x := congrArg Value.int (Int32.ofInt_toInt _)
noncomputable def anHouse (σ : St) (kc a : Int) : Int := if a = 0 then zF (σ.1 0) + zF (σ.1 1) + zF (σ.1 2) else if a = 1 then σ.2.1.1 else if a = 2 then (if σ.2.2.1 = -1 then 0 else if σ.2.2.2.1 = 0 then 1 else 2) else if a = 3 then wq σ.2.2.2.2.2.2 else wq kc
noncomputable def spHouse (σ : St) (kc a : Int) : Int × Int × St := if a < 0 ∨ 4 < a then (1, 0, σ) else (0, anHouse σ kc a, σ)
theorem ho_no {σ : St} {kc a : Int} (h : a < 0 ∨ 4 < a) : spHouse σ kc a = (1, 0, σ) := if_pos h
theorem ho_ok {σ : St} {kc a x : Int} (h : 0 ≤ a ∧ a ≤ 4) (e : anHouse σ kc a = x) : spHouse σ kc a = (0, x, σ) := by
  unfold spHouse; rw [if_neg (by omega), e]
theorem ho_0 {σ : St} {kc x : Int} (e : zF (σ.1 0) + zF (σ.1 1) + zF (σ.1 2) = x) : anHouse σ kc 0 = x := (if_pos rfl).trans e
theorem ho_1 {σ : St} {kc : Int} : anHouse σ kc 1 = σ.2.1.1 := by unfold anHouse; rw [if_neg (by decide), if_pos rfl]
theorem ho_2 {σ : St} {kc x : Int} (e : (if σ.2.2.1 = -1 then (0 : Int) else if σ.2.2.2.1 = 0 then 1 else 2) = x) : anHouse σ kc 2 = x := by unfold anHouse; rw [if_neg (by decide), if_neg (by decide), if_pos rfl]; exact e
theorem ho_3 {σ : St} {kc : Int} : anHouse σ kc 3 = wq σ.2.2.2.2.2.2 := by unfold anHouse; rw [if_neg (by decide), if_neg (by decide), if_neg (by decide), if_pos rfl]
theorem ho_4 {σ : St} {kc : Int} : anHouse σ kc 4 = wq kc := by unfold anHouse; rw [if_neg (by decide), if_neg (by decide), if_neg (by decide), if_neg (by decide)]
theorem hs_0a {σ : St} (h : σ.2.2.1 = -1) : (if σ.2.2.1 = -1 then (0 : Int) else if σ.2.2.2.1 = 0 then 1 else 2) = 0 := if_pos h
theorem hs_1a {σ : St} (h : σ.2.2.1 ≠ -1) (h2 : σ.2.2.2.1 = 0) : (if σ.2.2.1 = -1 then (0 : Int) else if σ.2.2.2.1 = 0 then 1 else 2) = 1 := by rw [if_neg h, if_pos h2]
theorem hs_2a {σ : St} (h : σ.2.2.1 ≠ -1) (h2 : σ.2.2.2.1 ≠ 0) : (if σ.2.2.1 = -1 then (0 : Int) else if σ.2.2.2.1 = 0 then 1 else 2) = 2 := by rw [if_neg h, if_neg h2]
set_option maxHeartbeats 4000000 in
set_option maxRecDepth 100000 in
theorem f_X6_countOfAll (l : Launch) (hl : l.stackTraces = false) {kc km : Int} {h : dm_H} (hI : Inv kc km h) {B : Int} {σ : St} (hS : CSt B σ h) : dm_M l 105 1 0 0 [.ref 0] h (QP h (RI (fun x => zF (σ.1 0) + zF (σ.1 1) + zF (σ.1 2) = x)) []) := by
  refine dm_M_of dk_105 hl rfl (Nat.le_of_ble_eq_true rfl) ?_
  show dm_W (fun _ _ _ => True) (dm_P (QP h (RI (fun x => zF (σ.1 0) + zF (σ.1 1) + zF (σ.1 2) = x)) []) 0 0) l 105 1 0 0 0 [some (.ref 0), none, none] [] h 0 0
  obtain ⟨rr, cr1, cr2, hc⟩ := I_cls hI
  have zb : ∀ k : Int, 0 ≤ k → k ≤ 2 → 0 ≤ zF (σ.1 k) ∧ zF (σ.1 k) ≤ 8 := fun k k0 k1 => by
    obtain ⟨s, m, u, w, hcA, hr, -, -, -⟩ := CSt_bk hS (k := k) (b := (17 + 3 * k).toNat) k0 k1 (by omega)
    rw [zF_eq hr]
    exact ⟨hcA.2.2.2.2.2.1, hcA.2.2.2.2.2.2.1⟩
  have z0 := zb 0 (by omega) (by omega)
  have z1 := zb 1 (by omega) (by omega)
  have z2 := zb 2 (by omega) (by omega)
  refine di_const rfl ?_
  refine di_istore_n (ls2 := [some (.ref 0), some (dI 0), none]) rfl rfl rfl ?_
  refine di_const rfl ?_
  refine di_istore_n (ls2 := [some (.ref 0), some (dI 0), some (dI 0)]) rfl rfl rfl ?_
  have st : ∀ (i m : Int), 0 ≤ i → i ≤ 2 → 0 ≤ m → m ≤ 16 → dm_W (fun _ _ _ => True) (dm_P (QP h (RI (fun x => zF (σ.1 0) + zF (σ.1 1) + zF (σ.1 2) = x)) []) 0 0) l 105 1 0 0 4 [some (.ref 0), some (dI (m + zF (σ.1 i))), some (dI (i + 1))] [] h 0 0 → dm_W (fun _ _ _ => True) (dm_P (QP h (RI (fun x => zF (σ.1 0) + zF (σ.1 1) + zF (σ.1 2) = x)) []) 0 0) l 105 1 0 0 4 [some (.ref 0), some (dI m), some (dI i)] [] h 0 0 := by
    intro i m i0 i1 m0 m1 K
    refine dr_iload_n rfl rfl ?_
    refine di_const rfl ?_
    refine di_icmp_ge rfl rfl (by omega) (by omega) (by omega) (by omega) (fun c => by omega) (fun c => ?_)
    refine dr_iload_n rfl rfl ?_
    refine di_aload_n rfl rfl ?_
    refine dr_getf rfl hc rfl ?_
    refine dr_iload_n rfl rfl ?_
    refine paaB rfl (I_bks hI) (by omega) (by omega) (fun r9 hr9 hk9 => ?_)
    obtain ⟨s, m2, u, w, hcA, hr, ht, ma, mb⟩ := CSt_bk hS (k := i) i0 i1 hk9
    have ez : zF (σ.1 i) = s := zF_eq hr
    refine dr_virt rfl rfl rfl rfl hcA.1 (f_X0_count l hl hI hr9 hcA) (by decide) (by decide) (by decide) (Nat.le_of_ble_eq_true rfl) kNP (kIP (fun y yf ya yb => ?_))
    obtain ⟨yc, yd, ye⟩ := yf
    have e9 : y = zF (σ.1 i) := by omega
    subst e9
    refine di_iadd rfl ?_
    refine di_istore_n (ls2 := [some (.ref 0), some (dI (m + zF (σ.1 i))), some (dI i)]) rfl rfl rfl ?_
    refine di_iinc (ls2 := [some (.ref 0), some (dI (m + zF (σ.1 i))), some (dI (i + 1))]) rfl rfl rfl rfl ?_
    refine dr_goto rfl rfl ?_
    exact K
  refine st 0 0 (by omega) (by omega) (by omega) (by omega) ?_
  refine st (0 + 1) (0 + zF (σ.1 0)) (by omega) (by omega) (by omega) (by omega) ?_
  refine st (0 + 1 + 1) (0 + zF (σ.1 0) + zF (σ.1 (0 + 1))) (by omega) (by omega) (by show 0 ≤ 0 + zF (σ.1 0) + zF (σ.1 1); omega) (by show 0 + zF (σ.1 0) + zF (σ.1 1) ≤ 16; omega) ?_
  show dm_W (fun _ _ _ => True) (dm_P (QP h (RI (fun x => zF (σ.1 0) + zF (σ.1 1) + zF (σ.1 2) = x)) []) 0 0) l 105 1 0 0 4 [some (.ref 0), some (dI (0 + zF (σ.1 0) + zF (σ.1 1) + zF (σ.1 2))), some (dI 3)] [] h 0 0
  refine dr_iload_n rfl rfl ?_
  refine di_const rfl ?_
  refine di_icmp_ge rfl rfl (by omega) (by omega) (by omega) (by omega) (fun _ => ?_) (fun c => absurd c (by decide))
  refine dr_iload_n rfl rfl ?_
  exact dr_iret (ty := .int) rfl rfl rfl (by decide) (by decide) ⟨rfl, _, (by omega), by omega, by omega, rfl⟩
set_option maxHeartbeats 4000000 in
set_option maxRecDepth 100000 in
theorem f_X6_stateOfHand (l : Launch) (hl : l.stackTraces = false) {kc km : Int} {h : dm_H} (hI : Inv kc km h) {B : Int} {σ : St} (hS : CSt B σ h) (hB : B ≤ 100000) : dm_M l 106 2 0 0 [.ref 0] h (QP h (RI (fun x => (if σ.2.2.1 = -1 then (0 : Int) else if σ.2.2.2.1 = 0 then 1 else 2) = x)) []) := by
  refine dm_M_of dk_106 hl rfl (Nat.le_of_ble_eq_true rfl) ?_
  show dm_W (fun _ _ _ => True) (dm_P (QP h (RI (fun x => (if σ.2.2.1 = -1 then (0 : Int) else if σ.2.2.2.1 = 0 then 1 else 2) = x)) []) 0 0) l 106 2 0 0 0 [some (.ref 0)] [] h 0 0
  obtain ⟨rr, cr1, cr2, hc⟩ := I_cls hI
  obtain ⟨⟨⟨mv, hbb, sn, nx, ho, q1, q2, q3, q4, q5, q6, q7, q8, q9⟩, -⟩, -⟩ := id hS
  refine di_aload_n rfl rfl ?_
  refine dr_getf rfl hc rfl ?_
  refine dr_getf rfl q1 rfl ?_
  refine dr_stat rfl rfl rfl rfl (s_X6_isBook l hl hI (a0 := σ.2.2.1) (by omega) (by omega)) (by decide) (by decide) (by decide) (Nat.le_of_ble_eq_true rfl) kNP (kIP (fun y yf ya yb => ?_))
  obtain ⟨y0, y1, y2, y3⟩ := yf
  refine di_if_ne rfl rfl (by omega) (by omega) (fun c => ?_) (fun c => ?_)
  · have g0 : 0 ≤ σ.2.2.1 := (y2 (by omega)).1
    refine di_aload_n rfl rfl ?_
    refine dr_getf rfl hc rfl ?_
    refine di_aload_n rfl rfl ?_
    refine dr_getf rfl hc rfl ?_
    refine di_aload_n rfl rfl ?_
    refine dr_getf rfl hc rfl ?_
    refine dr_getf rfl q1 rfl ?_
    refine paaB rfl (I_bks hI) (by omega) (by omega) (fun r9 hr9 hk9 => ?_)
    obtain ⟨s, m2, u, w, hcA, hr, ht, ma, mb⟩ := CSt_bk hS (k := σ.2.2.1) g0 q2.2 hk9
    obtain ⟨sn2, nx2, ho2, p1, p2, p3, p4, p5, p6, p7, p8, p9⟩ := hl_mv hS g0 hk9 hcA
    refine dr_virt rfl rfl rfl rfl q1 (f_X2_isLost l hl hI p1 hr9 hcA (by omega) (by omega)) (by decide) (by decide) (by decide) (Nat.le_of_ble_eq_true rfl) kNP (kIP (fun z zf za zb => ?_))
    obtain ⟨zc, zd, zk, zk2⟩ := zf
    refine di_if_eq rfl rfl (by omega) (by omega) (fun c2 => ?_) (fun c2 => ?_)
    · refine di_const rfl ?_
      have e : sn2 = m2 := zk2 (by omega)
      have e2 : σ.2.2.2.1 = 0 := by
        rcases p9 with ⟨-, x⟩ | ⟨x, -⟩
        · omega
        · exact x
      exact dr_iret (ty := .int) rfl rfl rfl (by decide) (by decide) ⟨rfl, 1, hs_1a (by omega) e2, by omega, by omega, rfl⟩
    · refine di_const rfl ?_
      refine dr_goto rfl rfl ?_
      have e : sn2 ≠ m2 := zk (by omega)
      have e2 : σ.2.2.2.1 ≠ 0 := by
        rcases p9 with ⟨x, -⟩ | ⟨-, x, -⟩
        · omega
        · exact absurd x e
      exact dr_iret (ty := .int) rfl rfl rfl (by decide) (by decide) ⟨rfl, 2, hs_2a (by omega) e2, by omega, by omega, rfl⟩
  · refine di_const rfl ?_
    have e := y3 (by omega)
    exact dr_iret (ty := .int) rfl rfl rfl (by decide) (by decide) ⟨rfl, 0, hs_0a (by omega), by omega, by omega, rfl⟩
set_option maxHeartbeats 4000000 in
set_option maxRecDepth 100000 in
theorem c_X6_house (l : Launch) (hl : l.stackTraces = false) {kc km : Int} {h : dm_H} (hI : Inv kc km h) {B : Int} {σ : St} (hS : CSt B σ h) (hB : B ≤ 80000) {a1 : Int} (h1a : -2147483648 ≤ a1) (h1b : a1 ≤ 2147483647) : dm_M l 99 6 8 48 [.ref 0, dI (a1)] h (QX kc km h B XA XS (spHouse σ kc a1)) := by
  refine dm_M_of dk_99 hl rfl (Nat.le_of_ble_eq_true rfl) ?_
  show dm_W (fun _ _ _ => True) (dm_P (QX kc km h B XA XS (spHouse σ kc a1)) 8 48) l 99 6 8 48 0 [some (.ref 0), some (dI (a1))] [] h 0 0
  obtain ⟨rr, cr1, cr2, hc⟩ := I_cls hI
  refine dr_iload_n rfl rfl ?_
  refine di_const rfl ?_
  refine dr_stat rfl rfl rfl rfl (f_X6_needUpTo l hl hI (a0 := a1) (by omega) (by omega) (a1 := 4) (by omega) (by omega)) (by decide) (by decide) (by decide) (Nat.le_of_ble_eq_true rfl) (fun Y h9 q9 => by obtain ⟨rfl, rfl, hC⟩ := q9; exact dr_out rfl (by decide) (by decide) (QX_1 (a := 0) hI FrC_rf hS (by omega) (ho_no hC))) (kPXV (fun q16 => ?_))
  refine dr_iload_n rfl rfl ?_
  rcases (by omega : (a1 < 0 ∨ 3 < a1) ∨ a1 = 0 ∨ a1 = 1 ∨ a1 = 2 ∨ a1 = 3) with c2 | c2 | c2 | c2 | c2
  · refine di_tabOut rfl (by omega) (by omega) c2 rfl ?_
    have e4 : a1 = 4 := by omega
    subst e4
    refine di_aload_n rfl rfl ?_
    refine dr_getf rfl hc rfl ?_
    rw [show dI kc = dI (wq kc) from wq_d.symm]
    exact dr_iret (ty := .int) rfl rfl rfl (by decide) (by decide) (QX_ok hI FrC_rf hS (by omega) (ho_ok (by omega) ho_4))
  · refine di_tabIn 0 rfl (by omega) (by omega) (by omega) (by omega) rfl rfl ?_
    subst c2
    refine di_aload_n rfl rfl ?_
    refine dr_virt rfl rfl rfl rfl hc (f_X6_countOfAll l hl hI hS) (by decide) (by decide) (by decide) (Nat.le_of_ble_eq_true rfl) kNP (kIP (fun y yf ya yb => ?_))
    exact dr_iret (ty := .int) rfl rfl rfl (by decide) (by decide) (QX_ok hI FrC_rf hS (by omega) (ho_ok (by omega) (ho_0 yf)))
  · refine di_tabIn 1 rfl (by omega) (by omega) (by omega) (by omega) rfl rfl ?_
    subst c2
    obtain ⟨p1, p2, -⟩ := hS.2
    refine di_aload_n rfl rfl ?_
    refine dr_getf rfl hc rfl ?_
    refine dr_getf rfl p1 rfl ?_
    exact dr_iret (ty := .int) rfl rfl rfl (by decide) (by decide) (QX_ok hI FrC_rf hS (by omega) (ho_ok (by omega) ho_1))
  · refine di_tabIn 2 rfl (by omega) (by omega) (by omega) (by omega) rfl rfl ?_
    subst c2
    refine di_aload_n rfl rfl ?_
    refine dr_virt rfl rfl rfl rfl hc (f_X6_stateOfHand l hl hI hS (by omega)) (by decide) (by decide) (by decide) (Nat.le_of_ble_eq_true rfl) kNP (kIP (fun y yf ya yb => ?_))
    exact dr_iret (ty := .int) rfl rfl rfl (by decide) (by decide) (QX_ok hI FrC_rf hS (by omega) (ho_ok (by omega) (ho_2 yf)))
  · refine di_tabIn 3 rfl (by omega) (by omega) (by omega) (by omega) rfl rfl ?_
    subst c2
    obtain ⟨k9, hz⟩ := hS.1.2
    refine di_aload_n rfl rfl ?_
    refine dr_getf rfl hz rfl ?_
    rw [show dI σ.2.2.2.2.2.2 = dI (wq σ.2.2.2.2.2.2) from wq_d.symm]
    exact dr_iret (ty := .int) rfl rfl rfl (by decide) (by decide) (QX_ok hI FrC_rf hS (by omega) (ho_ok (by omega) ho_3))
set_option maxHeartbeats 4000000 in
set_option maxRecDepth 100000 in
theorem n_X8_houseTold (l : Launch) (hl : l.stackTraces = false) {kc km : Int} {h : dm_H} (hI : Inv kc km h) {th : Int} {σ : St} (hM : MSt km th σ h) {a1 : Int} (h1a : 0 ≤ a1) (h1b : a1 ≤ 4) : dm_M l 213 0 0 0 [.ref 26, dI (a1)] h (QP h (RI (fun x => anHouse σ km a1 = x)) []) := by
  obtain ⟨⟨ni, c26, ni0, ni1⟩, ⟨⟨R1, R2⟩, ⟨R3, R4⟩, ⟨R5, R6⟩, ⟨R7, R8⟩, ⟨R9, R10⟩, ⟨R11, R12⟩, R13⟩, ⟨th0, th1⟩, -⟩ := id hM
  refine dm_M_of dk_213 hl rfl (Nat.le_of_ble_eq_true rfl) ?_
  show dm_W (fun _ _ _ => True) (dm_P (QP h (RI (fun x => anHouse σ km a1 = x)) []) 0 0) l 213 0 0 0 0 [some (.ref 26), some (dI (a1))] [] h 0 0
  refine dr_iload_n rfl rfl ?_
  rcases (by omega : (a1 < 0 ∨ 3 < a1) ∨ a1 = 0 ∨ a1 = 1 ∨ a1 = 2 ∨ a1 = 3) with c2 | c2 | c2 | c2 | c2
  · refine di_tabOut rfl (by omega) (by omega) c2 rfl ?_
    have e4 : a1 = 4 := by omega
    subst e4
    refine di_aload_n rfl rfl ?_
    refine dr_getf rfl c26 rfl ?_
    rw [show dI km = dI (wq km) from wq_d.symm]
    exact dr_iret (ty := .int) rfl rfl rfl (by decide) (by decide) ⟨rfl, wq km, ho_4, wq_b.1, wq_b.2, rfl⟩
  · refine di_tabIn 0 rfl (by omega) (by omega) (by omega) (by omega) rfl rfl ?_
    subst c2
    obtain ⟨r, q, u, w, us, er, eq, hu, hw, au, aw, h35, as, hr, s0, s8⟩ := MSt_bk hM (k := 0) (by omega) (by omega)
    obtain ⟨-, -, -, us2, k1, k2, k3⟩ := id hM
    have e0 : us2 = us := by
      have := k1.symm.trans h35
      simp only [Option.some.injEq, Prod.mk.injEq, true_and] at this
      exact this
    subst e0
    have zz : ∀ k : Int, 0 ≤ k → k ≤ 2 → zF (σ.1 k) = cv us2 k ∧ 0 ≤ cv us2 k ∧ cv us2 k ≤ 8 := fun k k0 k9 => by
      obtain ⟨u9, w9, -, hp⟩ := k3 k k0 k9
      exact ⟨zF_eq hp, arr_cv as k0 (by omega)⟩
    have z0 := zz 0 (by omega) (by omega)
    have z1 := zz 1 (by omega) (by omega)
    have z2 := zz 2 (by omega) (by omega)
    refine di_aload_n rfl rfl ?_
    refine dr_getf rfl c26 rfl ?_
    refine di_const rfl ?_
    refine di_iald rfl h35 as (by omega) (by omega) (fun x xf xa xb xv => ?_)
    have xw : cv us2 0 = x := cv_eq xv xa xb
    refine di_aload_n rfl rfl ?_
    refine dr_getf rfl c26 rfl ?_
    refine di_const rfl ?_
    refine di_iald rfl h35 as (by omega) (by omega) (fun y yf ya yb yv => ?_)
    have yw : cv us2 1 = y := cv_eq yv ya yb
    refine di_iadd rfl ?_
    refine di_aload_n rfl rfl ?_
    refine dr_getf rfl c26 rfl ?_
    refine di_const rfl ?_
    refine di_iald rfl h35 as (by omega) (by omega) (fun z zf za zb zv => ?_)
    have zw : cv us2 2 = z := cv_eq zv za zb
    refine di_iadd rfl ?_
    exact dr_iret (ty := .int) rfl rfl rfl (by decide) (by decide) ⟨rfl, _, ho_0 (by rw [z0.1, z1.1, z2.1, xw, yw, zw]), by omega, by omega, rfl⟩
  · refine di_tabIn 1 rfl (by omega) (by omega) (by omega) (by omega) rfl rfl ?_
    subst c2
    refine di_aload_n rfl rfl ?_
    refine dr_getf rfl c26 rfl ?_
    exact dr_iret (ty := .int) rfl rfl rfl (by decide) (by decide) ⟨rfl, _, ho_1, by omega, by omega, rfl⟩
  · refine di_tabIn 2 rfl (by omega) (by omega) (by omega) (by omega) rfl rfl ?_
    subst c2
    refine di_aload_n rfl rfl ?_
    refine dr_getf rfl c26 rfl ?_
    refine di_const rfl ?_
    refine di_icmp_ne rfl rfl (by omega) (by omega) (by omega) (by omega) (fun c => ?_) (fun c => ?_)
    · refine di_aload_n rfl rfl ?_
      refine dr_getf rfl c26 rfl ?_
      refine di_if_eq rfl rfl (by omega) (by omega) (fun c3 => ?_) (fun c3 => ?_)
      · refine di_const rfl ?_
        exact dr_iret (ty := .int) rfl rfl rfl (by decide) (by decide) ⟨rfl, 1, ho_2 (hs_1a c c3), by omega, by omega, rfl⟩
      · refine di_const rfl ?_
        refine dr_goto rfl rfl ?_
        exact dr_iret (ty := .int) rfl rfl rfl (by decide) (by decide) ⟨rfl, 2, ho_2 (hs_2a c c3), by omega, by omega, rfl⟩
    · refine di_const rfl ?_
      refine dr_goto rfl rfl ?_
      exact dr_iret (ty := .int) rfl rfl rfl (by decide) (by decide) ⟨rfl, 0, ho_2 (hs_0a (by omega)), by omega, by omega, rfl⟩
  · refine di_tabIn 3 rfl (by omega) (by omega) (by omega) (by omega) rfl rfl ?_
    subst c2
    refine di_aload_n rfl rfl ?_
    refine dr_getf rfl c26 rfl ?_
    rw [show dI ni = dI (wq σ.2.2.2.2.2.2) from ni1.2.trans wq_d.symm]
    exact dr_iret (ty := .int) rfl rfl rfl (by decide) (by decide) ⟨rfl, wq _, ho_3, wq_b.1, wq_b.2, rfl⟩
set_option maxHeartbeats 4000000 in
set_option maxRecDepth 100000 in
theorem n_X8_house (l : Launch) (hl : l.stackTraces = false) {kc km : Int} {h : dm_H} (hI : Inv kc km h) {th : Int} {σ : St} (hM : MSt km th σ h) {a1 : Int} (h1a : -2147483648 ≤ a1) (h1b : a1 ≤ 2147483647) : dm_M l 214 8 0 0 [.ref 26, dI (a1)] h (QM9 kc km h (spHouse σ km a1)) := by
  obtain ⟨⟨ni, c26, ni0, ni1⟩, -⟩ := id hM
  refine dm_M_of dk_214 hl rfl (Nat.le_of_ble_eq_true rfl) ?_
  show dm_W (fun _ _ _ => True) (dm_P (QM9 kc km h (spHouse σ km a1)) 0 0) l 214 8 0 0 0 [some (.ref 26), some (dI (a1))] [] h 0 0
  have no : a1 < 0 ∨ 4 < a1 → dm_W (fun _ _ _ => True) (dm_P (QM9 kc km h (spHouse σ km a1)) 0 0) l 214 8 0 0 10 [some (.ref 26), some (dI (a1))] [.ref 26] h 0 0 := fun hn => by
    refine di_const rfl ?_
    refine dr_goto rfl rfl ?_
    refine di_const rfl ?_
    refine dr_virt rfl rfl rfl rfl c26 (f_X8_start1 l hl hI hM (a2 := 1) (by omega) (by omega)) (by decide) (by decide) (by decide) (Nat.le_of_ble_eq_true rfl) kNQN (kNQ (fun h2 hI2 hF2 hM2 => ?_))
    refine di_if_eq rfl rfl (by omega) (by omega) (fun c9 => by exfalso; omega) (fun _ => ?_)
    refine di_const rfl ?_
    exact dr_iret (ty := .int) rfl rfl rfl (by decide) (by decide) (QM_no (x := 0) hI2 hF2 hM2 (by omega) (by omega) (by omega) (ho_no hn))
  refine di_aload_n rfl rfl ?_
  refine dr_iload_n rfl rfl ?_
  refine di_if_lt rfl rfl (by omega) (by omega) (fun c => no (Or.inl c)) (fun c => ?_)
  refine dr_iload_n rfl rfl ?_
  refine di_const rfl ?_
  refine di_icmp_le rfl rfl (by omega) (by omega) (by omega) (by omega) (fun c2 => ?_) (fun c2 => no (Or.inr (by omega)))
  refine di_const rfl ?_
  refine di_const rfl ?_
  refine dr_virt rfl rfl rfl rfl c26 (f_X8_start0 l hl hI hM (a2 := 1) (by omega) (by omega)) (by decide) (by decide) (by decide) (Nat.le_of_ble_eq_true rfl) kNQN (kNQ (fun h2 hI2 hF2 hM2 => ?_))
  refine di_if_eq rfl rfl (by omega) (by omega) (fun _ => ?_) (fun c9 => by exfalso; omega)
  obtain ⟨ni2, c262, -, -⟩ := hM2.1
  refine di_aload_n rfl rfl ?_
  refine dr_iload_n rfl rfl ?_
  refine dr_virt rfl rfl rfl rfl c262 (n_X8_houseTold l hl hI2 hM2 (a1 := a1) (by omega) (by omega)) (by decide) (by decide) (by decide) (Nat.le_of_ble_eq_true rfl) kNP (kIP (fun y yf ya yb => ?_))
  exact dr_iret (ty := .int) rfl rfl rfl (by decide) (by decide) (QM_ok hI2 hF2 hM2 (by omega) (by omega) (ho_ok (by omega) yf))
/-! ===== the digest ===== -/
def ds (d : Int64) (v : Int) : Int64 := d * Int64.ofNat 31 + (Int32.ofInt v).toInt64
def dsN (d : Int64) (g : Int → Int) : Nat → Int64
  | 0 => d
  | n + 1 => ds (dsN d g n) (g n)
theorem dsN_s {d j : Int64} {g : Int → Int} {i : Int} (i0 : 0 ≤ i) (e : j = dsN d g i.toNat) : ds j (g i) = dsN d g (i + 1).toNat := by
  have e1 : (i + 1).toNat = i.toNat + 1 := by omega
  have e2 : ((i.toNat : Nat) : Int) = i := by omega
  rw [e1, e]
  show ds _ (g i) = ds _ (g (i.toNat : Nat))
  rw [e2]
noncomputable def dB (F : Int → Int) (d : Int64) : Int64 := ds (ds (ds (dsN (ds (dsN d (anBook F) 6) (anMost F)) (anChosen F) 3) (anDeep F 0)) (anDeep F 1)) (anRooms F)
noncomputable def dC (F : Int → Int) (d : Int64) (r : Int) : Int64 := ds (ds (ds (ds (ds d (cR F r)) (F (cR F r))) (anRoomOf F (cR F r))) (anNear F 0 (cR F r))) (anNear F 3 (cR F r))
noncomputable def dS (F : Int → Int) (d : Int64) : Nat → Int64
  | 0 => d
  | n + 1 => dC F (dS F d n) n
theorem dS_s {F : Int → Int} {d j : Int64} {i : Int} (i0 : 0 ≤ i) (e : j = dS F d i.toNat) : dC F j i = dS F d (i + 1).toNat := by
  have e1 : (i + 1).toNat = i.toNat + 1 := by omega
  have e2 : ((i.toNat : Nat) : Int) = i := by omega
  rw [e1, e]
  show dC F _ i = dC F _ (i.toNat : Nat)
  rw [e2]
noncomputable def dBk (σ : St) (d : Int64) : Nat → Int64
  | 0 => d
  | n + 1 => dS (σ.1 n) (dB (σ.1 n) (dBk σ d n)) (zF (σ.1 n)).toNat
theorem dBk_s {σ : St} {d j : Int64} {i : Int} (i0 : 0 ≤ i) (e : j = dBk σ d i.toNat) : dS (σ.1 i) (dB (σ.1 i) j) (zF (σ.1 i)).toNat = dBk σ d (i + 1).toNat := by
  have e1 : (i + 1).toNat = i.toNat + 1 := by omega
  have e2 : ((i.toNat : Nat) : Int) = i := by omega
  rw [e1, e]
  show dS (σ.1 i) _ _ = dS (σ.1 (i.toNat : Nat)) _ _
  rw [e2]
noncomputable def digD (σ : St) (kc : Int) : Int64 := dBk σ (dsN (Int64.ofNat 7945) (anHouse σ kc) 5) 3
noncomputable def dig (σ : St) (kc : Int) : Int64 := ds (if σ.2.1.1 = -1 then digD σ kc else dsN (digD σ kc) (anPart σ) 6) 1
theorem dig_n {σ : St} {kc : Int} {j : Int64} (h : σ.2.1.1 = -1) (e : j = digD σ kc) : ds j 1 = dig σ kc := by unfold dig; rw [if_pos h, e]
theorem dig_y {σ : St} {kc : Int} {j : Int64} (h : σ.2.1.1 ≠ -1) (e : j = dsN (digD σ kc) (anPart σ) 6) : ds j 1 = dig σ kc := by unfold dig; rw [if_neg h, e]
def QD (kc km : Int) (h : dm_H) (B : Int) (σ : St) (d : Int64) : dm_Rs := fun r h' => Inv kc km h' ∧ FrC h h' ∧ CSt B σ h' ∧ r = .inl (some (.long d))
theorem FrT_C {h h1 : dm_H} (a : FrT h h1) : FrC h h1 := ⟨a.1, fun j x => a.2 j (by omega)⟩
section QDR
variable {E : dm_Ex} {P : dm_Po} {l : Launch} {z d MC MS pc ce sl : Nat} {ls : List (Option Value)} {st : List Value} {h : dm_H} {kc km B a : Int} {σ : St} {X1 X2 : String} {q : Int × Int × St} {D : Int64}
theorem kQX0 (e : q = (0, a, σ)) (kk : ∀ h1 : dm_H, Inv kc km h1 → FrC h h1 → CSt B σ h1 → dm_W E P l z d MC MS pc ls (dI a :: st) h1 ce sl) : ∀ (v : Option Value) (h1 : dm_H), QX kc km h B X1 X2 q (.inl v) h1 → dm_W E P l z d MC MS pc ls (v.toList ++ st) h1 ce sl := by
  subst e
  rintro v h1 ⟨x, y, w, ⟨e1, e2⟩ | ⟨e1, e2⟩ | ⟨e1, e2⟩⟩
  · cases e2; exact kk h1 x y w
  · cases e2
  · cases e2
theorem kQX0N (e : q = (0, a, σ)) : ∀ (Y : String) (h1 : dm_H), QX kc km h B X1 X2 q (.inr Y) h1 → dm_T9 E P l z d MC MS Y pc ls h1 ce sl := by
  subst e
  rintro Y h1 ⟨x, y, w, ⟨e1, e2⟩ | ⟨e1, e2⟩ | ⟨e1, e2⟩⟩
  · cases e2
  · exact absurd (show (0 : Int) = 1 from e1) (by decide)
  · exact absurd (show (0 : Int) = 2 from e1) (by decide)
theorem kQD (kk : ∀ h1 : dm_H, Inv kc km h1 → FrC h h1 → CSt B σ h1 → dm_W E P l z d MC MS pc ls (.long D :: st) h1 ce sl) : ∀ (v : Option Value) (h1 : dm_H), QD kc km h B σ D (.inl v) h1 → dm_W E P l z d MC MS pc ls (v.toList ++ st) h1 ce sl := by
  rintro v h1 ⟨x, y, w, e⟩
  cases e
  exact kk h1 x y w
theorem kQDN : ∀ (Y : String) (h1 : dm_H), QD kc km h B σ D (.inr Y) h1 → dm_T9 E P l z d MC MS Y pc ls h1 ce sl := fun _ _ q => by cases q.2.2.2
theorem kQS1 (kk : ∀ h1 : dm_H, Inv kc km h1 → FrT h h1 → dm_W E P l z d MC MS pc ls (dI 1 :: st) h1 ce sl) : ∀ (v : Option Value) (h1 : dm_H), QS1 kc km h (.inl v) h1 → dm_W E P l z d MC MS pc ls (v.toList ++ st) h1 ce sl := by
  rintro v h1 ⟨x, y, e⟩
  cases e
  exact kk h1 x y
theorem kQS1N : ∀ (Y : String) (h1 : dm_H), QS1 kc km h (.inr Y) h1 → dm_T9 E P l z d MC MS Y pc ls h1 ce sl := fun _ _ q => by cases q.2.2
end QDR
theorem ob_0 {σ : St} {b k : Int} (h : 0 ≤ b ∧ b ≤ 2) (h2 : 0 ≤ k ∧ k ≤ 5) : spOfBook σ b k = (0, anBook (σ.1 b) k, σ) := by unfold spOfBook; rw [if_neg (by omega), if_neg (by omega)]
theorem op_0 {σ : St} {k : Int} (h2 : 0 ≤ k ∧ k ≤ 5) (h : σ.2.1.1 ≠ -1) : spOfPart σ k = (0, anPart σ k, σ) := by unfold spOfPart; rw [if_neg (by omega), if_neg h]
theorem mo_0s {σ : St} {b : Int} (h : 0 ≤ b ∧ b ≤ 2) : spMost σ b = (0, anMost (σ.1 b), σ) := by unfold spMost; rw [if_neg (by omega)]
theorem ch_0s {σ : St} {b k : Int} (h : 0 ≤ b ∧ b ≤ 2) (h2 : 0 ≤ k) : spChosen σ b k = (0, anChosen (σ.1 b) k, σ) := by unfold spChosen; rw [if_neg (by omega), if_neg (by omega)]
theorem de_0s {σ : St} {b k : Int} (h : 0 ≤ b ∧ b ≤ 2) : spDeepest σ b k = (0, anDeep (σ.1 b) k, σ) := by unfold spDeepest; rw [if_neg (by omega)]
theorem ro_0s {σ : St} {b : Int} (h : 0 ≤ b ∧ b ≤ 2) : spRooms σ b = (0, anRooms (σ.1 b), σ) := by unfold spRooms; rw [if_neg (by omega)]
theorem rf_0s {σ : St} {b f t c : Int} (h : 0 ≤ b ∧ b ≤ 2) (h2 : 0 ≤ f ∧ f ≤ t ∧ t ≤ 99) (e : 100 * t + f = c) : spRoomOf σ b f t = (0, anRoomOf (σ.1 b) c, σ) := by unfold spRoomOf; rw [if_neg (by omega), if_neg (by omega), e]
theorem ne_0s {σ : St} {b f t k c : Int} (h : 0 ≤ b ∧ b ≤ 2) (h2 : 0 ≤ f ∧ f ≤ t ∧ t ≤ 99) (h3 : 0 ≤ k ∧ k ≤ 5) (e : 100 * t + f = c) : spNear σ b f t k = (0, anNear (σ.1 b) k c, σ) := by unfold spNear; rw [if_neg (by omega), if_neg (by omega), e]
set_option maxHeartbeats 4000000 in
set_option maxRecDepth 100000 in
theorem f_X6_digestBook (l : Launch) (hl : l.stackTraces = false) {kc km : Int} {h : dm_H} (hI : Inv kc km h) {B : Int} {σ : St} (hS : CSt B σ h) (hB : B ≤ 80000) {a1 : Int64} {a2 : Int} (h2a : 0 ≤ a2) (h2b : a2 ≤ 2) : dm_M l 103 7 104 624 [.ref 0, .long a1, dI a2] h (QD kc km h B σ (dB (σ.1 a2) a1)) := by
  refine dm_M_of dk_103 hl rfl (Nat.le_of_ble_eq_true rfl) ?_
  show dm_W (fun _ _ _ => True) (dm_P (QD kc km h B σ (dB (σ.1 a2) a1)) 104 624) l 103 7 104 624 0 [some (.ref 0), some (.long a1), none, some (dI a2), none, none, none] [] h 0 0
  have L2 : ∀ (k : Nat) (i : Int) (j : Int64) (h2 : dm_H) (ce sl : Nat), (3 - i).toNat < k → 0 ≤ i → i ≤ 3 → ce + 8 * (3 - i).toNat ≤ 80 → sl + 48 * (3 - i).toNat ≤ 480 → Inv kc km h2 → FrC h h2 → CSt B σ h2 → j = dsN (ds (dsN a1 (anBook (σ.1 a2)) 6) (anMost (σ.1 a2))) (anChosen (σ.1 a2)) i.toNat → dm_W (fun _ _ _ => True) (dm_P (QD kc km h B σ (dB (σ.1 a2) a1)) 104 624) l 103 7 104 624 53 [some (.ref 0), some (.long a1), none, some (dI a2), some (.long j), none, some (dI (i))] [] h2 ce sl := by
    intro k
    induction k with
    | zero => intro i j h2 ce sl hm; exact absurd hm (Nat.not_lt_zero _)
    | succ k ih =>
      intro i j h2 ce sl hm i0 i1 hce hsl hI2 hF2 hS2 ej
      refine dr_iload rfl rfl ?_
      refine di_const rfl ?_
      refine di_icmp_gt rfl rfl (by omega) (by omega) (by omega) (by omega) (fun c => ?_) (fun c => ?_)
      · have ei : i = 3 := by omega
        subst ei
        show dm_W (fun _ _ _ => True) (dm_P (QD kc km h B σ (dB (σ.1 a2) a1)) 104 624) l 103 7 104 624 82 [some (.ref 0), some (.long a1), none, some (dI a2), some (.long j), none, some (dI (3))] [] h2 ce sl
        refine dr_lload rfl rfl ?_
        refine dr_ldc2 rfl ?_
        refine dr_lmul rfl rfl ?_
        refine di_aload_n rfl rfl ?_
        refine dr_iload_n rfl rfl ?_
        refine di_const rfl ?_
        obtain ⟨rc5, rc5a, rc5b, c5⟩ := I_cls hI2
        refine dr_virt rfl rfl rfl rfl c5 (c_X6_deepest l hl hI2 hS2 (by omega) (a1 := a2) (by omega) (by omega) (a2 := 0) (by omega) (by omega)) (by decide) (by omega) (by omega) (Nat.le_of_ble_eq_true rfl) (kQX0N (de_0s ⟨h2a, h2b⟩)) (kQX0 (de_0s ⟨h2a, h2b⟩) (fun h1 hI2 hF3 hS4 => ?_))
        have hF6 := FrC_tr hF2 hF3
        refine dr_i2l rfl rfl ?_
        refine dr_ladd rfl (v := ds j (anDeep (σ.1 a2) 0)) rfl ?_
        refine di_lstore (ls2 := [some (.ref 0), some (.long a1), none, some (dI a2), some (.long (ds j (anDeep (σ.1 a2) 0))), none, some (dI (3))]) rfl rfl rfl rfl ?_
        refine dr_lload rfl rfl ?_
        refine dr_ldc2 rfl ?_
        refine dr_lmul rfl rfl ?_
        refine di_aload_n rfl rfl ?_
        refine dr_iload_n rfl rfl ?_
        refine di_const rfl ?_
        obtain ⟨rc11, rc11a, rc11b, c11⟩ := I_cls hI2
        refine dr_virt rfl rfl rfl rfl c11 (c_X6_deepest l hl hI2 hS4 (by omega) (a1 := a2) (by omega) (by omega) (a2 := 1) (by omega) (by omega)) (by decide) (by omega) (by omega) (Nat.le_of_ble_eq_true rfl) (kQX0N (de_0s ⟨h2a, h2b⟩)) (kQX0 (de_0s ⟨h2a, h2b⟩) (fun h7 hI8 hF9 hS10 => ?_))
        have hF12 := FrC_tr hF6 hF9
        refine dr_i2l rfl rfl ?_
        refine dr_ladd rfl (v := ds (ds j (anDeep (σ.1 a2) 0)) (anDeep (σ.1 a2) 1)) rfl ?_
        refine di_lstore (ls2 := [some (.ref 0), some (.long a1), none, some (dI a2), some (.long (ds (ds j (anDeep (σ.1 a2) 0)) (anDeep (σ.1 a2) 1))), none, some (dI (3))]) rfl rfl rfl rfl ?_
        refine dr_lload rfl rfl ?_
        refine dr_ldc2 rfl ?_
        refine dr_lmul rfl rfl ?_
        refine di_aload_n rfl rfl ?_
        refine dr_iload_n rfl rfl ?_
        obtain ⟨rc17, rc17a, rc17b, c17⟩ := I_cls hI8
        refine dr_virt rfl rfl rfl rfl c17 (c_X6_rooms l hl hI8 hS10 (by omega) (a1 := a2) (by omega) (by omega)) (by decide) (by omega) (by omega) (Nat.le_of_ble_eq_true rfl) (kQX0N (ro_0s ⟨h2a, h2b⟩)) (kQX0 (ro_0s ⟨h2a, h2b⟩) (fun h13 hI14 hF15 hS16 => ?_))
        have hF18 := FrC_tr hF12 hF15
        refine dr_i2l rfl rfl ?_
        refine dr_ladd rfl (v := ds (ds (ds j (anDeep (σ.1 a2) 0)) (anDeep (σ.1 a2) 1)) (anRooms (σ.1 a2))) rfl ?_
        exact dr_lret rfl rfl (by omega) (by omega) ⟨hI14, hF18, hS16, by rw [ej]; rfl⟩
      refine dr_lload rfl rfl ?_
      refine dr_ldc2 rfl ?_
      refine dr_lmul rfl rfl ?_
      refine di_aload_n rfl rfl ?_
      refine dr_iload_n rfl rfl ?_
      refine dr_iload rfl rfl ?_
      obtain ⟨rc23, rc23a, rc23b, c23⟩ := I_cls hI2
      refine dr_virt rfl rfl rfl rfl c23 (c_X6_chosen l hl hI2 hS2 (by omega) (a1 := a2) (by omega) (by omega) (a2 := i) (by omega) (by omega)) (by decide) (by omega) (by omega) (Nat.le_of_ble_eq_true rfl) (kQX0N (ch_0s ⟨h2a, h2b⟩ i0)) (kQX0 (ch_0s ⟨h2a, h2b⟩ i0) (fun h19 hI20 hF21 hS22 => ?_))
      have hF24 := FrC_tr hF2 hF21
      refine dr_i2l rfl rfl ?_
      refine dr_ladd rfl (v := ds j (anChosen (σ.1 a2) i)) rfl ?_
      refine di_lstore (ls2 := [some (.ref 0), some (.long a1), none, some (dI a2), some (.long (ds j (anChosen (σ.1 a2) i))), none, some (dI (i))]) rfl rfl rfl rfl ?_
      refine di_iinc (ls2 := [some (.ref 0), some (.long a1), none, some (dI a2), some (.long (ds j (anChosen (σ.1 a2) i))), none, some (dI (i + 1))]) rfl rfl rfl rfl ?_
      refine dr_goto rfl rfl ?_
      exact ih (i + 1) _ h19 _ _ (by omega) (by omega) (by omega) (by omega) (by omega) hI20 hF24 hS22 (dsN_s i0 ej)
  have L1 : ∀ (k : Nat) (i : Int) (j : Int64) (h2 : dm_H) (ce sl : Nat), (6 - i).toNat < k → 0 ≤ i → i ≤ 6 → ce + 8 * (6 - i).toNat ≤ 48 → sl + 48 * (6 - i).toNat ≤ 288 → Inv kc km h2 → FrC h h2 → CSt B σ h2 → j = dsN a1 (anBook (σ.1 a2)) i.toNat → dm_W (fun _ _ _ => True) (dm_P (QD kc km h B σ (dB (σ.1 a2) a1)) 104 624) l 103 7 104 624 6 [some (.ref 0), some (.long a1), none, some (dI a2), some (.long j), none, some (dI (i))] [] h2 ce sl := by
    intro k
    induction k with
    | zero => intro i j h2 ce sl hm; exact absurd hm (Nat.not_lt_zero _)
    | succ k ih =>
      intro i j h2 ce sl hm i0 i1 hce hsl hI2 hF2 hS2 ej
      refine dr_iload rfl rfl ?_
      refine di_const rfl ?_
      refine di_icmp_gt rfl rfl (by omega) (by omega) (by omega) (by omega) (fun c => ?_) (fun c => ?_)
      · have ei : i = 6 := by omega
        subst ei
        refine dr_lload rfl rfl ?_
        refine dr_ldc2 rfl ?_
        refine dr_lmul rfl rfl ?_
        refine di_aload_n rfl rfl ?_
        refine dr_iload_n rfl rfl ?_
        obtain ⟨rc29, rc29a, rc29b, c29⟩ := I_cls hI2
        refine dr_virt rfl rfl rfl rfl c29 (c_X6_most l hl hI2 hS2 (by omega) (a1 := a2) (by omega) (by omega)) (by decide) (by omega) (by omega) (Nat.le_of_ble_eq_true rfl) (kQX0N (mo_0s ⟨h2a, h2b⟩)) (kQX0 (mo_0s ⟨h2a, h2b⟩) (fun h25 hI26 hF27 hS28 => ?_))
        have hF30 := FrC_tr hF2 hF27
        refine dr_i2l rfl rfl ?_
        refine dr_ladd rfl (v := ds j (anMost (σ.1 a2))) rfl ?_
        refine di_lstore (ls2 := [some (.ref 0), some (.long a1), none, some (dI a2), some (.long (ds j (anMost (σ.1 a2)))), none, some (dI (6))]) rfl rfl rfl rfl ?_
        refine di_const rfl ?_
        refine di_istore (ls2 := [some (.ref 0), some (.long a1), none, some (dI a2), some (.long (ds j (anMost (σ.1 a2)))), none, some (dI (0))]) rfl rfl rfl ?_
        exact L2 _ 0 _ h25 _ _ (Nat.lt_succ_self _) (by omega) (by omega) (by omega) (by omega) hI26 hF30 hS28 (by rw [ej]; rfl)
      refine dr_lload rfl rfl ?_
      refine dr_ldc2 rfl ?_
      refine dr_lmul rfl rfl ?_
      refine di_aload_n rfl rfl ?_
      refine dr_iload_n rfl rfl ?_
      refine dr_iload rfl rfl ?_
      obtain ⟨rc35, rc35a, rc35b, c35⟩ := I_cls hI2
      refine dr_virt rfl rfl rfl rfl c35 (c_X6_ofBook l hl hI2 hS2 (by omega) (a1 := a2) (by omega) (by omega) (a2 := i) (by omega) (by omega)) (by decide) (by omega) (by omega) (Nat.le_of_ble_eq_true rfl) (kQX0N (ob_0 ⟨h2a, h2b⟩ ⟨i0, by omega⟩)) (kQX0 (ob_0 ⟨h2a, h2b⟩ ⟨i0, by omega⟩) (fun h31 hI32 hF33 hS34 => ?_))
      have hF36 := FrC_tr hF2 hF33
      refine dr_i2l rfl rfl ?_
      refine dr_ladd rfl (v := ds j (anBook (σ.1 a2) i)) rfl ?_
      refine di_lstore (ls2 := [some (.ref 0), some (.long a1), none, some (dI a2), some (.long (ds j (anBook (σ.1 a2) i))), none, some (dI (i))]) rfl rfl rfl rfl ?_
      refine di_iinc (ls2 := [some (.ref 0), some (.long a1), none, some (dI a2), some (.long (ds j (anBook (σ.1 a2) i))), none, some (dI (i + 1))]) rfl rfl rfl rfl ?_
      refine dr_goto rfl rfl ?_
      exact ih (i + 1) _ h31 _ _ (by omega) (by omega) (by omega) (by omega) (by omega) hI32 hF36 hS34 (dsN_s i0 ej)
  refine dr_lload_n rfl rfl ?_
  refine di_lstore (ls2 := [some (.ref 0), some (.long a1), none, some (dI a2), some (.long a1), none, none]) rfl rfl rfl rfl ?_
  refine di_const rfl ?_
  refine di_istore (ls2 := [some (.ref 0), some (.long a1), none, some (dI a2), some (.long a1), none, some (dI (0))]) rfl rfl rfl ?_
  exact L1 _ 0 a1 h 0 0 (Nat.lt_succ_self _) (by omega) (by omega) (by omega) (by omega) hI FrC_rf hS rfl
set_option maxHeartbeats 4000000 in
set_option maxRecDepth 100000 in
theorem f_X6_digestSpans (l : Launch) (hl : l.stackTraces = false) {kc km : Int} {h : dm_H} (hI : Inv kc km h) {B : Int} {σ : St} (hS : CSt B σ h) (hB : B ≤ 80000) {a1 : Int64} {a2 : Int} (h2a : 0 ≤ a2) (h2b : a2 ≤ 2) : dm_M l 104 7 193 1158 [.ref 0, .long a1, dI a2] h (QD kc km h B σ (dS (σ.1 a2) a1 (zF (σ.1 a2)).toNat)) := by
  refine dm_M_of dk_104 hl rfl (Nat.le_of_ble_eq_true rfl) ?_
  show dm_W (fun _ _ _ => True) (dm_P (QD kc km h B σ (dS (σ.1 a2) a1 (zF (σ.1 a2)).toNat)) 193 1158) l 104 7 193 1158 0 [some (.ref 0), some (.long a1), none, some (dI a2), none, none, none, none, none, none] [] h 0 0
  refine dr_lload_n rfl rfl ?_
  refine di_lstore (ls2 := [some (.ref 0), some (.long a1), none, some (dI a2), some (.long a1), none, none, none, none, none]) rfl rfl rfl rfl ?_
  obtain ⟨rr, cr1, cr2, hc0⟩ := I_cls hI
  refine di_aload_n rfl rfl ?_
  refine dr_iload_n rfl rfl ?_
  refine dr_virt rfl rfl rfl rfl hc0 (f_X6_bookAt l hl hI (a1 := a2) (by omega) (by omega)) (by decide) (by decide) (by decide) (Nat.le_of_ble_eq_true rfl) (fun Y h9 q9 => by obtain ⟨rfl, rfl, hC⟩ := q9; omega) (kPXR (fun b ⟨hb, kb, b0, b1⟩ => ?_))
  refine di_astore (ls2 := [some (.ref 0), some (.long a1), none, some (dI a2), some (.long a1), none, some (.ref b), none, none, none]) rfl rfl rfl ?_
  refine di_const rfl ?_
  refine di_istore (ls2 := [some (.ref 0), some (.long a1), none, some (dI a2), some (.long a1), none, some (.ref b), some (dI (0)), none, none]) rfl rfl rfl ?_
  have L : ∀ (k : Nat) (i : Int) (j : Int64) (o1 o2 : Option Value) (h2 : dm_H) (ce sl : Nat), (8 - i).toNat < k → 0 ≤ i → i ≤ zF (σ.1 a2) → ce + 24 * (8 - i).toNat ≤ 193 → sl + 144 * (8 - i).toNat ≤ 1158 → Inv kc km h2 → FrC h h2 → CSt B σ h2 → j = dS (σ.1 a2) a1 i.toNat → dm_W (fun _ _ _ => True) (dm_P (QD kc km h B σ (dS (σ.1 a2) a1 (zF (σ.1 a2)).toNat)) 193 1158) l 104 7 193 1158 13 [some (.ref 0), some (.long a1), none, some (dI a2), some (.long j), none, some (.ref b), some (dI (i)), o1, o2] [] h2 ce sl := by
    intro k
    induction k with
    | zero => intro i j o1 o2 h2 ce sl hm; exact absurd hm (Nat.not_lt_zero _)
    | succ k ih =>
      intro i j o1 o2 h2 ce sl hm i0 i1 hce hsl hI2 hF2 hS2 ej
      obtain ⟨s, m, u, w, hA, hr, ht, ma, mb⟩ := CSt_bk hS2 (k := a2) h2a h2b kb
      have ez : zF (σ.1 a2) = s := zF_eq hr
      have s8 := hA.2.2.2.2.2.2.1
      refine dr_iload rfl rfl ?_
      refine di_aload rfl rfl ?_
      refine dr_virt rfl rfl rfl rfl hA.1 (f_X0_count l hl hI2 hb hA) (by decide) (by omega) (by omega) (Nat.le_of_ble_eq_true rfl) kNP (kIP (fun y yf ya yb => ?_))
      obtain ⟨yc, yd, ye⟩ := yf
      refine di_icmp_ge rfl rfl (by omega) (by omega) (by omega) (by omega) (fun c => ?_) (fun c => ?_)
      · refine dr_lload rfl rfl ?_
        exact dr_lret rfl rfl (by omega) (by omega) ⟨hI2, hF2, hS2, by rw [ej, show i = zF (σ.1 a2) by omega]⟩
      have hok := (CA_arr hA).1 i i0 (by omega)
      have h9 := Rep_yes hr i0 (show i < s by omega) rfl
      have h8 := Rep_at hr i0 (show i < s by omega)
      have eR : cR (σ.1 a2) i = cv u i := cR_eq hr ht i0 (by omega)
      refine di_aload rfl rfl ?_
      refine dr_iload rfl rfl ?_
      refine dr_virt rfl rfl rfl rfl hA.1 (f_X0_fromAt l hl hI2 hb hA (a1 := i) (by omega) (by omega)) (by decide) (by omega) (by omega) (Nat.le_of_ble_eq_true rfl) kNP (kIP (fun f ff fa fb => ?_))
      obtain ⟨-, -, fk, -, -⟩ := ff
      have fk := fk i0 (by omega)
      refine di_istore (ls2 := [some (.ref 0), some (.long a1), none, some (dI a2), some (.long j), none, some (.ref b), some (dI (i)), some (dI (f)), o2]) rfl rfl rfl ?_
      refine di_aload rfl rfl ?_
      refine dr_iload rfl rfl ?_
      refine dr_virt rfl rfl rfl rfl hA.1 (f_X0_toAt l hl hI2 hb hA (a1 := i) (by omega) (by omega)) (by decide) (by omega) (by omega) (Nat.le_of_ble_eq_true rfl) kNP (kIP (fun t tf ta tb => ?_))
      obtain ⟨-, -, tk, -, -⟩ := tf
      have tk := tk i0 (by omega)
      refine di_istore (ls2 := [some (.ref 0), some (.long a1), none, some (dI a2), some (.long j), none, some (.ref b), some (dI (i)), some (dI (f)), some (dI (t))]) rfl rfl rfl ?_
      have e100 : 100 * t + f = cv u i := by omega
      have hft : 0 ≤ f ∧ f ≤ t ∧ t ≤ 99 := by omega
      refine dr_lload rfl rfl ?_
      refine dr_ldc2 rfl ?_
      refine dr_lmul rfl rfl ?_
      refine di_aload rfl rfl ?_
      refine dr_iload rfl rfl ?_
      refine dr_virt rfl rfl rfl rfl hA.1 (f_X0_codeAt l hl hI2 hb hA (a1 := i) (by omega) (by omega)) (by decide) (by omega) (by omega) (Nat.le_of_ble_eq_true rfl) kNP (kIP (fun y37 y37f y37a y37b => ?_))
      obtain ⟨-, -, y37k, -, -⟩ := y37f
      have y37k := y37k i0 (by omega)
      subst y37k
      refine dr_i2l rfl rfl ?_
      refine dr_ladd rfl (v := ds j (cv u i)) rfl ?_
      refine di_lstore (ls2 := [some (.ref 0), some (.long a1), none, some (dI a2), some (.long (ds j (cv u i))), none, some (.ref b), some (dI (i)), some (dI (f)), some (dI (t))]) rfl rfl rfl rfl ?_
      refine dr_lload rfl rfl ?_
      refine dr_ldc2 rfl ?_
      refine dr_lmul rfl rfl ?_
      refine di_aload rfl rfl ?_
      refine dr_iload rfl rfl ?_
      refine dr_virt rfl rfl rfl rfl hA.1 (f_X0_noteAt l hl hI2 hb hA (a1 := i) (by omega) (by omega)) (by decide) (by omega) (by omega) (Nat.le_of_ble_eq_true rfl) kNP (kIP (fun y38 y38f y38a y38b => ?_))
      obtain ⟨-, -, y38k, -, -⟩ := y38f
      have y38k := y38k i0 (by omega)
      subst y38k
      refine dr_i2l rfl rfl ?_
      refine dr_ladd rfl (v := ds (ds j (cv u i)) (cv w i)) rfl ?_
      refine di_lstore (ls2 := [some (.ref 0), some (.long a1), none, some (dI a2), some (.long (ds (ds j (cv u i)) (cv w i))), none, some (.ref b), some (dI (i)), some (dI (f)), some (dI (t))]) rfl rfl rfl rfl ?_
      refine dr_lload rfl rfl ?_
      refine dr_ldc2 rfl ?_
      refine dr_lmul rfl rfl ?_
      refine di_aload_n rfl rfl ?_
      refine dr_iload_n rfl rfl ?_
      refine dr_iload rfl rfl ?_
      refine dr_iload rfl rfl ?_
      obtain ⟨rc43, rc43a, rc43b, c43⟩ := I_cls hI2
      refine dr_virt rfl rfl rfl rfl c43 (c_X6_roomOf l hl hI2 hS2 (by omega) (a1 := a2) (by omega) (by omega) (a2 := f) (by omega) (by omega) (a3 := t) (by omega) (by omega)) (by decide) (by omega) (by omega) (Nat.le_of_ble_eq_true rfl) (kQX0N (rf_0s ⟨h2a, h2b⟩ hft e100)) (kQX0 (rf_0s ⟨h2a, h2b⟩ hft e100) (fun h39 hI40 hF41 hS42 => ?_))
      have hF44 := FrC_tr hF2 hF41
      refine dr_i2l rfl rfl ?_
      refine dr_ladd rfl (v := ds (ds (ds j (cv u i)) (cv w i)) (anRoomOf (σ.1 a2) (cv u i))) rfl ?_
      refine di_lstore (ls2 := [some (.ref 0), some (.long a1), none, some (dI a2), some (.long (ds (ds (ds j (cv u i)) (cv w i)) (anRoomOf (σ.1 a2) (cv u i)))), none, some (.ref b), some (dI (i)), some (dI (f)), some (dI (t))]) rfl rfl rfl rfl ?_
      refine dr_lload rfl rfl ?_
      refine dr_ldc2 rfl ?_
      refine dr_lmul rfl rfl ?_
      refine di_aload_n rfl rfl ?_
      refine dr_iload_n rfl rfl ?_
      refine dr_iload rfl rfl ?_
      refine dr_iload rfl rfl ?_
      refine di_const rfl ?_
      obtain ⟨rc49, rc49a, rc49b, c49⟩ := I_cls hI40
      refine dr_virt rfl rfl rfl rfl c49 (c_X6_near l hl hI40 hS42 (by omega) (a1 := a2) (by omega) (by omega) (a2 := f) (by omega) (by omega) (a3 := t) (by omega) (by omega) (a4 := 0) (by omega) (by omega)) (by decide) (by omega) (by omega) (Nat.le_of_ble_eq_true rfl) (kQX0N (ne_0s ⟨h2a, h2b⟩ hft ⟨by decide, by decide⟩ e100)) (kQX0 (ne_0s ⟨h2a, h2b⟩ hft ⟨by decide, by decide⟩ e100) (fun h45 hI46 hF47 hS48 => ?_))
      have hF50 := FrC_tr hF44 hF47
      refine dr_i2l rfl rfl ?_
      refine dr_ladd rfl (v := ds (ds (ds (ds j (cv u i)) (cv w i)) (anRoomOf (σ.1 a2) (cv u i))) (anNear (σ.1 a2) 0 (cv u i))) rfl ?_
      refine di_lstore (ls2 := [some (.ref 0), some (.long a1), none, some (dI a2), some (.long (ds (ds (ds (ds j (cv u i)) (cv w i)) (anRoomOf (σ.1 a2) (cv u i))) (anNear (σ.1 a2) 0 (cv u i)))), none, some (.ref b), some (dI (i)), some (dI (f)), some (dI (t))]) rfl rfl rfl rfl ?_
      refine dr_lload rfl rfl ?_
      refine dr_ldc2 rfl ?_
      refine dr_lmul rfl rfl ?_
      refine di_aload_n rfl rfl ?_
      refine dr_iload_n rfl rfl ?_
      refine dr_iload rfl rfl ?_
      refine dr_iload rfl rfl ?_
      refine di_const rfl ?_
      obtain ⟨rc55, rc55a, rc55b, c55⟩ := I_cls hI46
      refine dr_virt rfl rfl rfl rfl c55 (c_X6_near l hl hI46 hS48 (by omega) (a1 := a2) (by omega) (by omega) (a2 := f) (by omega) (by omega) (a3 := t) (by omega) (by omega) (a4 := 3) (by omega) (by omega)) (by decide) (by omega) (by omega) (Nat.le_of_ble_eq_true rfl) (kQX0N (ne_0s ⟨h2a, h2b⟩ hft ⟨by decide, by decide⟩ e100)) (kQX0 (ne_0s ⟨h2a, h2b⟩ hft ⟨by decide, by decide⟩ e100) (fun h51 hI52 hF53 hS54 => ?_))
      have hF56 := FrC_tr hF50 hF53
      refine dr_i2l rfl rfl ?_
      refine dr_ladd rfl (v := ds (ds (ds (ds (ds j (cv u i)) (cv w i)) (anRoomOf (σ.1 a2) (cv u i))) (anNear (σ.1 a2) 0 (cv u i))) (anNear (σ.1 a2) 3 (cv u i))) rfl ?_
      refine di_lstore (ls2 := [some (.ref 0), some (.long a1), none, some (dI a2), some (.long (ds (ds (ds (ds (ds j (cv u i)) (cv w i)) (anRoomOf (σ.1 a2) (cv u i))) (anNear (σ.1 a2) 0 (cv u i))) (anNear (σ.1 a2) 3 (cv u i)))), none, some (.ref b), some (dI (i)), some (dI (f)), some (dI (t))]) rfl rfl rfl rfl ?_
      refine di_iinc (ls2 := [some (.ref 0), some (.long a1), none, some (dI a2), some (.long (ds (ds (ds (ds (ds j (cv u i)) (cv w i)) (anRoomOf (σ.1 a2) (cv u i))) (anNear (σ.1 a2) 0 (cv u i))) (anNear (σ.1 a2) 3 (cv u i)))), none, some (.ref b), some (dI (i + 1)), some (dI (f)), some (dI (t))]) rfl rfl rfl rfl ?_
      refine dr_goto rfl rfl ?_
      exact ih (i + 1) _ _ _ h51 _ _ (by omega) (by omega) (by omega) (by omega) (by omega) hI52 hF56 hS54 (by rw [← dS_s i0 ej]; unfold dC; rw [eR, h8.2.2])
  have z0 : 0 ≤ zF (σ.1 a2) := by
    obtain ⟨s, m, u, w, hA, hr, -, -, -⟩ := CSt_bk hS (k := a2) h2a h2b kb
    rw [zF_eq hr]; exact hr.1.1
  exact L _ 0 a1 none none h 1 6 (Nat.lt_succ_self _) (by omega) z0 (by omega) (by omega) hI FrC_rf hS rfl
set_option maxHeartbeats 4000000 in
set_option maxRecDepth 100000 in
theorem c_X6_digest (l : Launch) (hl : l.stackTraces = false) {kc km : Int} {h : dm_H} (hI : Inv kc km h) {B : Int} {σ : St} (hS : CSt B σ h) (hB : B ≤ 80000) : dm_M l 102 10 980 5900 [.ref 0] h (QD kc km h B σ (dig σ kc)) := by
  refine dm_M_of dk_102 hl rfl (Nat.le_of_ble_eq_true rfl) ?_
  show dm_W (fun _ _ _ => True) (dm_P (QD kc km h B σ (dig σ kc)) 980 5900) l 102 10 980 5900 0 [some (.ref 0), none, none, none] [] h 0 0
  obtain ⟨pq1, pq2, -⟩ := id hS.2
  have L4 : ∀ (j : Int64) (o : Option Value) (h2 : dm_H) (ce sl : Nat), ce ≤ 979 → sl ≤ 5874 → Inv kc km h2 → FrC h h2 → CSt B σ h2 → ds j 1 = dig σ kc → dm_W (fun _ _ _ => True) (dm_P (QD kc km h B σ (dig σ kc)) 980 5900) l 102 10 980 5900 94 [some (.ref 0), some (.long j), none, o] [] h2 ce sl := by
    intro j o h2 ce sl hce hsl hI2 hF2 hS2 ej
    obtain ⟨rr, cr1, cr2, hc0⟩ := I_cls hI2
    refine dr_lload_n rfl rfl ?_
    refine dr_ldc2 rfl ?_
    refine dr_lmul rfl rfl ?_
    refine di_aload_n rfl rfl ?_
    refine dr_virt rfl rfl rfl rfl hc0 (c_X6_isSound l hl hI2 hS2 (by omega)) (by decide) (by omega) (by omega) (Nat.le_of_ble_eq_true rfl) kQS1N (kQS1 (fun h3 hI3 hF3 => ?_))
    refine di_if_eq rfl rfl (by omega) (by omega) (fun c9 => absurd c9 (by decide)) (fun _ => ?_)
    refine di_const rfl ?_
    refine dr_goto rfl rfl ?_
    refine dr_i2l rfl rfl ?_
    refine dr_ladd rfl (v := ds j 1) rfl ?_
    exact dr_lret rfl rfl (by omega) (by omega) ⟨hI3, FrC_tr hF2 (FrT_C hF3), CSt_T hS2 hF3, by rw [ej]⟩
  have L3 : σ.2.1.1 ≠ -1 → ∀ (k : Nat) (i : Int) (j : Int64) (h2 : dm_H) (ce sl : Nat), (6 - i).toNat < k → 0 ≤ i → i ≤ 6 → ce + 8 * (6 - i).toNat ≤ 979 → sl + 48 * (6 - i).toNat ≤ 5874 → Inv kc km h2 → FrC h h2 → CSt B σ h2 → j = dsN (digD σ kc) (anPart σ) i.toNat → dm_W (fun _ _ _ => True) (dm_P (QD kc km h B σ (dig σ kc)) 980 5900) l 102 10 980 5900 70 [some (.ref 0), some (.long j), none, some (dI (i))] [] h2 ce sl := by
    intro hp
    intro k
    induction k with
    | zero => intro i j h2 ce sl hm; exact absurd hm (Nat.not_lt_zero _)
    | succ k ih =>
      intro i j h2 ce sl hm i0 i1 hce hsl hI2 hF2 hS2 ej
      refine dr_iload_n rfl rfl ?_
      refine di_const rfl ?_
      refine di_icmp_gt rfl rfl (by omega) (by omega) (by omega) (by omega) (fun c => ?_) (fun c => ?_)
      · have ei : i = 6 := by omega
        subst ei
        exact L4 j _ h2 ce sl (by omega) (by omega) hI2 hF2 hS2 (dig_y hp ej)
      refine dr_lload_n rfl rfl ?_
      refine dr_ldc2 rfl ?_
      refine dr_lmul rfl rfl ?_
      refine di_aload_n rfl rfl ?_
      refine dr_iload_n rfl rfl ?_
      obtain ⟨rc61, rc61a, rc61b, c61⟩ := I_cls hI2
      refine dr_virt rfl rfl rfl rfl c61 (c_X6_ofPart l hl hI2 hS2 (by omega) (a1 := i) (by omega) (by omega)) (by decide) (by omega) (by omega) (Nat.le_of_ble_eq_true rfl) (kQX0N (op_0 ⟨i0, by omega⟩ hp)) (kQX0 (op_0 ⟨i0, by omega⟩ hp) (fun h57 hI58 hF59 hS60 => ?_))
      have hF62 := FrC_tr hF2 hF59
      refine dr_i2l rfl rfl ?_
      refine dr_ladd rfl (v := ds j (anPart σ i)) rfl ?_
      refine di_lstore_n (ls2 := [some (.ref 0), some (.long (ds j (anPart σ i))), none, some (dI (i))]) rfl rfl rfl rfl ?_
      refine di_iinc (ls2 := [some (.ref 0), some (.long (ds j (anPart σ i))), none, some (dI (i + 1))]) rfl rfl rfl rfl ?_
      refine dr_goto rfl rfl ?_
      exact ih (i + 1) _ h57 _ _ (by omega) (by omega) (by omega) (by omega) (by omega) hI58 hF62 hS60 (dsN_s i0 ej)
  have L2 : ∀ (k : Nat) (i : Int) (j : Int64) (h2 : dm_H) (ce sl : Nat), (3 - i).toNat < k → 0 ≤ i → i ≤ 3 → ce + 297 * (3 - i).toNat ≤ 931 → sl + 1782 * (3 - i).toNat ≤ 5586 → Inv kc km h2 → FrC h h2 → CSt B σ h2 → j = dBk σ (dsN (Int64.ofNat 7945) (anHouse σ kc) 5) i.toNat → dm_W (fun _ _ _ => True) (dm_P (QD kc km h B σ (dig σ kc)) 980 5900) l 102 10 980 5900 32 [some (.ref 0), some (.long j), none, some (dI (i))] [] h2 ce sl := by
    intro k
    induction k with
    | zero => intro i j h2 ce sl hm; exact absurd hm (Nat.not_lt_zero _)
    | succ k ih =>
      intro i j h2 ce sl hm i0 i1 hce hsl hI2 hF2 hS2 ej
      obtain ⟨rr, cr1, cr2, hc0⟩ := I_cls hI2
      refine dr_iload_n rfl rfl ?_
      refine di_const rfl ?_
      refine di_icmp_ge rfl rfl (by omega) (by omega) (by omega) (by omega) (fun c => ?_) (fun c => ?_)
      · have ei : i = 3 := by omega
        subst ei
        have ej : j = digD σ kc := ej
        obtain ⟨p1, p2, -⟩ := id hS2.2
        refine di_aload_n rfl rfl ?_
        refine dr_getf rfl hc0 rfl ?_
        refine dr_getf rfl p1 rfl ?_
        refine dr_stat rfl rfl rfl rfl (s_X6_isBook l hl hI2 (a0 := σ.2.1.1) (by omega) (by omega)) (by decide) (by omega) (by omega) (Nat.le_of_ble_eq_true rfl) kNP (kIP (fun y yf ya yb => ?_))
        obtain ⟨y0, y1, y2, y3⟩ := yf
        refine di_if_eq rfl rfl (by omega) (by omega) (fun c3 => ?_) (fun c3 => ?_)
        · have e := y3 (by omega)
          exact L4 j _ h2 ce sl (by omega) (by omega) hI2 hF2 hS2 (dig_n (by omega) ej)
        · have e := y2 (by omega)
          refine di_const rfl ?_
          refine di_istore_n (ls2 := [some (.ref 0), some (.long j), none, some (dI (0))]) rfl rfl rfl ?_
          exact L3 (by omega) _ 0 j h2 ce sl (Nat.lt_succ_self _) (by omega) (by omega) (by omega) (by omega) hI2 hF2 hS2 ej
      refine di_aload_n rfl rfl ?_
      refine di_aload_n rfl rfl ?_
      refine dr_lload_n rfl rfl ?_
      refine dr_iload_n rfl rfl ?_
      refine dr_virt rfl rfl rfl rfl hc0 (f_X6_digestBook l hl hI2 hS2 hB (a1 := j) (a2 := i) i0 (by omega)) (by decide) (by omega) (by omega) (Nat.le_of_ble_eq_true rfl) kQDN (kQD (fun h3 hI3 hF3 hS3 => ?_))
      obtain ⟨rr3, cr31, cr32, hc3⟩ := I_cls hI3
      refine dr_iload_n rfl rfl ?_
      refine dr_virt rfl rfl rfl rfl hc3 (f_X6_digestSpans l hl hI3 hS3 hB (a1 := dB (σ.1 i) j) (a2 := i) i0 (by omega)) (by decide) (by omega) (by omega) (Nat.le_of_ble_eq_true rfl) kQDN (kQD (fun h4 hI4 hF4 hS4 => ?_))
      refine di_lstore_n (ls2 := [some (.ref 0), some (.long (dS (σ.1 i) (dB (σ.1 i) j) (zF (σ.1 i)).toNat)), none, some (dI (i))]) rfl rfl rfl rfl ?_
      refine di_iinc (ls2 := [some (.ref 0), some (.long (dS (σ.1 i) (dB (σ.1 i) j) (zF (σ.1 i)).toNat)), none, some (dI (i + 1))]) rfl rfl rfl rfl ?_
      refine dr_goto rfl rfl ?_
      exact ih (i + 1) _ h4 _ _ (by omega) (by omega) (by omega) (by omega) (by omega) hI4 (FrC_tr hF2 (FrC_tr hF3 hF4)) hS4 (dBk_s i0 ej)
  have L1 : ∀ (k : Nat) (i : Int) (j : Int64) (h2 : dm_H) (ce sl : Nat), (5 - i).toNat < k → 0 ≤ i → i ≤ 5 → ce + 8 * (5 - i).toNat ≤ 40 → sl + 48 * (5 - i).toNat ≤ 240 → Inv kc km h2 → FrC h h2 → CSt B σ h2 → j = dsN (Int64.ofNat 7945) (anHouse σ kc) i.toNat → dm_W (fun _ _ _ => True) (dm_P (QD kc km h B σ (dig σ kc)) 980 5900) l 102 10 980 5900 6 [some (.ref 0), some (.long j), none, some (dI (i))] [] h2 ce sl := by
    intro k
    induction k with
    | zero => intro i j h2 ce sl hm; exact absurd hm (Nat.not_lt_zero _)
    | succ k ih =>
      intro i j h2 ce sl hm i0 i1 hce hsl hI2 hF2 hS2 ej
      refine dr_iload_n rfl rfl ?_
      refine di_const rfl ?_
      refine di_icmp_gt rfl rfl (by omega) (by omega) (by omega) (by omega) (fun c => ?_) (fun c => ?_)
      · have ei : i = 5 := by omega
        subst ei
        refine di_const rfl ?_
        refine di_istore_n (ls2 := [some (.ref 0), some (.long j), none, some (dI (0))]) rfl rfl rfl ?_
        exact L2 _ 0 j h2 ce sl (Nat.lt_succ_self _) (by omega) (by omega) (by omega) (by omega) hI2 hF2 hS2 ej
      refine dr_lload_n rfl rfl ?_
      refine dr_ldc2 rfl ?_
      refine dr_lmul rfl rfl ?_
      refine di_aload_n rfl rfl ?_
      refine dr_iload_n rfl rfl ?_
      obtain ⟨rc67, rc67a, rc67b, c67⟩ := I_cls hI2
      refine dr_virt rfl rfl rfl rfl c67 (c_X6_house l hl hI2 hS2 (by omega) (a1 := i) (by omega) (by omega)) (by decide) (by omega) (by omega) (Nat.le_of_ble_eq_true rfl) (kQX0N (ho_ok ⟨i0, by omega⟩ rfl)) (kQX0 (ho_ok ⟨i0, by omega⟩ rfl) (fun h63 hI64 hF65 hS66 => ?_))
      have hF68 := FrC_tr hF2 hF65
      refine dr_i2l rfl rfl ?_
      refine dr_ladd rfl (v := ds j (anHouse σ kc i)) rfl ?_
      refine di_lstore_n (ls2 := [some (.ref 0), some (.long (ds j (anHouse σ kc i))), none, some (dI (i))]) rfl rfl rfl rfl ?_
      refine di_iinc (ls2 := [some (.ref 0), some (.long (ds j (anHouse σ kc i))), none, some (dI (i + 1))]) rfl rfl rfl rfl ?_
      refine dr_goto rfl rfl ?_
      exact ih (i + 1) _ h63 _ _ (by omega) (by omega) (by omega) (by omega) (by omega) hI64 hF68 hS66 (dsN_s i0 ej)
  refine dr_ldc2 rfl ?_
  refine di_lstore_n (ls2 := [some (.ref 0), some (.long (Int64.ofNat 7945)), none, none]) rfl rfl rfl rfl ?_
  refine di_const rfl ?_
  refine di_istore_n (ls2 := [some (.ref 0), some (.long (Int64.ofNat 7945)), none, some (dI (0))]) rfl rfl rfl ?_
  exact L1 _ 0 _ h 0 0 (Nat.lt_succ_self _) (by omega) (by omega) (by omega) (by omega) hI FrC_rf hS rfl
/-! ===== the digest, the model's ===== -/
def RLd (D : Int64) : Option Value → dm_H → Prop := fun v _ => v = some (.long D)
def QMD (kc km : Int) (h : dm_H) (σ : St) (D : Int64) : dm_Rs := fun r h' => Inv kc km h' ∧ FrN h h' ∧ MSt km 0 σ h' ∧ r = .inl (some (.long D))
section QMDR
variable {E : dm_Ex} {P : dm_Po} {l : Launch} {z d MC MS pc ce sl : Nat} {ls : List (Option Value)} {st : List Value} {h : dm_H} {kc km : Int} {σ : St} {D : Int64}
theorem kALd (kk : ∀ h1 : dm_H, App h h1 → dm_W E P l z d MC MS pc ls (.long D :: st) h1 ce sl) : ∀ (v : Option Value) (h1 : dm_H), QA h (RLd D) (.inl v) h1 → dm_W E P l z d MC MS pc ls (v.toList ++ st) h1 ce sl := by
  rintro v h1 ⟨x, e⟩
  have e : v = some (.long D) := e
  subst e
  exact kk h1 x
theorem kQMD (kk : ∀ h1 : dm_H, Inv kc km h1 → FrN h h1 → MSt km 0 σ h1 → dm_W E P l z d MC MS pc ls (.long D :: st) h1 ce sl) : ∀ (v : Option Value) (h1 : dm_H), QMD kc km h σ D (.inl v) h1 → dm_W E P l z d MC MS pc ls (v.toList ++ st) h1 ce sl := by
  rintro v h1 ⟨x, y, w, e⟩
  cases e
  exact kk h1 x y w
theorem kQMDN : ∀ (Y : String) (h1 : dm_H), QMD kc km h σ D (.inr Y) h1 → dm_T9 E P l z d MC MS Y pc ls h1 ce sl := fun _ _ q => by cases q.2.2.2
end QMDR
theorem an_near0 {F : Int → Int} {c x : Int} (e : (0 : Int) < 2 → x = grt F (soP 0 c)) : anNear F 0 c = x := by
  rw [e (by decide)]; unfold anNear; rw [if_pos (by decide), if_pos (by decide)]
theorem an_near3 {F : Int → Int} {c x : Int} (e : ¬ (3 : Int) < 2 → x = lst F (soP 3 c)) : anNear F 3 c = x := by
  rw [e (by decide)]; unfold anNear; rw [if_pos (by decide), if_neg (by decide)]
set_option maxHeartbeats 4000000 in
set_option maxRecDepth 100000 in
theorem n_X8_bookDigest (l : Launch) (hl : l.stackTraces = false) {kc km : Int} {h : dm_H} (hI : Inv kc km h) {th : Int} {σ : St} (hM : MSt km th σ h) (hT : sSt σ) {a1 : Int64} {a2 : Int} (h2a : 0 ≤ a2) (h2b : a2 ≤ 2) : dm_M l 223 5 20 320 [.ref 26, .long a1, dI a2] h (QA h (RLd (dS (σ.1 a2) (dB (σ.1 a2) a1) (zF (σ.1 a2)).toNat))) := by
  obtain ⟨ni, c26, -, -⟩ := hM.1
  obtain ⟨r, q, u, w, us, er, eq, hu, hw, au, aw, h35, as, hr, s0, s8⟩ := MSt_bk hM (k := a2) h2a h2b
  have hTa : sRp (σ.1 a2) := hT a2 h2a h2b
  obtain ⟨f0, g0, q0, r0, t0⟩ := id hTa
  have ez : zF (σ.1 a2) = cv us a2 := zF_eq hr
  have es : q0 = cv us a2 := Rep_sz r0 hr
  refine dm_M_of dk_223 hl rfl (Nat.le_of_ble_eq_true rfl) ?_
  show dm_W (fun _ _ _ => True) (dm_P (QA h (RLd (dS (σ.1 a2) (dB (σ.1 a2) a1) (zF (σ.1 a2)).toNat))) 20 320) l 223 5 20 320 0 [some (.ref 26), some (.long a1), none, some (dI a2), none, none, none, none] [] h 0 0
  have L3 : ∀ (k : Nat) (i : Int) (j : Int64) (o : Option Value) (h2 : dm_H) (ce sl : Nat), (8 - i).toNat < k → 0 ≤ i → i ≤ zF (σ.1 a2) → ce + 2 * (8 - i).toNat ≤ 20 → sl + 32 * (8 - i).toNat ≤ 320 → App h h2 → j = dS (σ.1 a2) (dB (σ.1 a2) a1) i.toNat → dm_W (fun _ _ _ => True) (dm_P (QA h (RLd (dS (σ.1 a2) (dB (σ.1 a2) a1) (zF (σ.1 a2)).toNat))) 20 320) l 223 5 20 320 133 [some (.ref 26), some (.long a1), none, some (dI a2), some (.long j), none, some (dI (i)), o] [] h2 ce sl := by
    intro k
    induction k with
    | zero => intro i j o h2 ce sl hm; exact absurd hm (Nat.not_lt_zero _)
    | succ k ih =>
      intro i j o h2 ce sl hm i0 i1 hce hsl hA ej
      have hI2 := App_Inv hA hI
      have hM2 := MSt_Ap hM hI hA
      refine dr_iload rfl rfl ?_
      refine di_aload_n rfl rfl ?_
      refine dr_getf rfl (App_at hA c26) rfl ?_
      refine dr_iload_n rfl rfl ?_
      refine di_iald rfl (App_at hA h35) as (by omega) (by omega) (fun x xf xa xb xv => ?_)
      have xw : cv us a2 = x := cv_eq xv xa xb
      refine di_icmp_ge rfl rfl (by omega) (by omega) (by omega) (by omega) (fun c => ?_) (fun c => ?_)
      · refine dr_lload rfl rfl ?_
        exact dr_lret rfl rfl (by omega) (by omega) ⟨hA, by rw [ej, show i = zF (σ.1 a2) by omega]; rfl⟩
      refine di_aload_n rfl rfl ?_
      refine dr_iload_n rfl rfl ?_
      refine dr_iload rfl rfl ?_
      refine dr_virt rfl rfl rfl rfl (App_at hA c26) (n_X8_codeAt l hl hI2 hM2 (a1 := a2) (by omega) (by omega) (a2 := i) (by omega) (by omega) er eq (App_at hA hu) (App_at hA hw) au aw (App_at hA h35) as hr s0 s8 ) (by decide) (by omega) (by omega) (Nat.le_of_ble_eq_true rfl) kNP (kIP (fun y1 y1f y1a y1b => ?_))
      obtain ⟨-, -, y1k⟩ := y1f
      have y1c : cR (σ.1 a2) i = y1 := by rw [(rkC_s y1k r0 t0).1 i0 (by omega), cR_eq r0 t0 i0 (by omega)]
      clear y1k
      subst y1c
      refine di_istore (ls2 := [some (.ref 26), some (.long a1), none, some (dI a2), some (.long j), none, some (dI (i)), some (dI (cR (σ.1 a2) i))]) rfl rfl rfl ?_
      refine dr_lload rfl rfl ?_
      refine dr_ldc2 rfl ?_
      refine dr_lmul rfl rfl ?_
      refine dr_iload rfl rfl ?_
      refine dr_i2l rfl rfl ?_
      refine dr_ladd rfl (v := ds j (cR (σ.1 a2) i)) rfl ?_
      refine di_lstore (ls2 := [some (.ref 26), some (.long a1), none, some (dI a2), some (.long (ds j (cR (σ.1 a2) i))), none, some (dI (i)), some (dI (cR (σ.1 a2) i))]) rfl rfl rfl rfl ?_
      refine dr_lload rfl rfl ?_
      refine dr_ldc2 rfl ?_
      refine dr_lmul rfl rfl ?_
      refine di_aload_n rfl rfl ?_
      refine dr_iload_n rfl rfl ?_
      refine dr_iload rfl rfl ?_
      refine dr_virt rfl rfl rfl rfl (App_at hA c26) (n_X8_noteAt l hl hI2 hM2 (a1 := a2) (by omega) (by omega) (a2 := cR (σ.1 a2) i) (by omega) (by omega) er eq (App_at hA hu) (App_at hA hw) au aw (App_at hA h35) as hr s0 s8 ) (by decide) (by omega) (by omega) (Nat.le_of_ble_eq_true rfl) kNP (kIP (fun y2 y2f y2a y2b => ?_))
      obtain ⟨-, -, y2k⟩ := y2f
      subst y2k
      refine dr_i2l rfl rfl ?_
      refine dr_ladd rfl (v := ds (ds j (cR (σ.1 a2) i)) ((σ.1 a2) (cR (σ.1 a2) i))) rfl ?_
      refine di_lstore (ls2 := [some (.ref 26), some (.long a1), none, some (dI a2), some (.long (ds (ds j (cR (σ.1 a2) i)) ((σ.1 a2) (cR (σ.1 a2) i)))), none, some (dI (i)), some (dI (cR (σ.1 a2) i))]) rfl rfl rfl rfl ?_
      refine dr_lload rfl rfl ?_
      refine dr_ldc2 rfl ?_
      refine dr_lmul rfl rfl ?_
      refine di_aload_n rfl rfl ?_
      refine dr_iload_n rfl rfl ?_
      refine dr_iload rfl rfl ?_
      refine dr_virt rfl rfl rfl rfl (App_at hA c26) (n_X8_roomAt l hl hI2 hM2 (a1 := a2) (by omega) (by omega) (a2 := cR (σ.1 a2) i) (by omega) (by omega) er eq (App_at hA hu) (App_at hA hw) au aw (App_at hA h35) as hr s0 s8 hT) (by decide) (by omega) (by omega) (Nat.le_of_ble_eq_true rfl) kAN (kAI (fun y3 h4 hA5 y3f y3a y3b => ?_))
      have hA6 := App_tr hA hA5
      have hI7 := App_Inv hA6 hI
      have hM8 := MSt_Ap hM hI hA6
      have y3k : anRoomOf (σ.1 a2) (cR (σ.1 a2) i) = y3 := y3f
      clear y3f
      subst y3k
      refine dr_i2l rfl rfl ?_
      refine dr_ladd rfl (v := ds (ds (ds j (cR (σ.1 a2) i)) ((σ.1 a2) (cR (σ.1 a2) i))) (anRoomOf (σ.1 a2) (cR (σ.1 a2) i))) rfl ?_
      refine di_lstore (ls2 := [some (.ref 26), some (.long a1), none, some (dI a2), some (.long (ds (ds (ds j (cR (σ.1 a2) i)) ((σ.1 a2) (cR (σ.1 a2) i))) (anRoomOf (σ.1 a2) (cR (σ.1 a2) i)))), none, some (dI (i)), some (dI (cR (σ.1 a2) i))]) rfl rfl rfl rfl ?_
      refine dr_lload rfl rfl ?_
      refine dr_ldc2 rfl ?_
      refine dr_lmul rfl rfl ?_
      refine di_aload_n rfl rfl ?_
      refine dr_iload_n rfl rfl ?_
      refine dr_iload rfl rfl ?_
      refine di_const rfl ?_
      refine dr_virt rfl rfl rfl rfl (App_at hA6 c26) (n_X8_nearest l hl hI7 hM8 (a1 := a2) (by omega) (by omega) (a2 := cR (σ.1 a2) i) (by omega) (by omega) (a3 := 0) (by omega) (by omega) er eq (App_at hA6 hu) (App_at hA6 hw) au aw (App_at hA6 h35) as hr s0 s8 ) (by decide) (by omega) (by omega) (Nat.le_of_ble_eq_true rfl) kNP (kIP (fun y9 y9f y9a y9b => ?_))
      obtain ⟨-, -, -, y9k, -⟩ := y9f
      have y9k := an_near0 y9k
      subst y9k
      refine dr_i2l rfl rfl ?_
      refine dr_ladd rfl (v := ds (ds (ds (ds j (cR (σ.1 a2) i)) ((σ.1 a2) (cR (σ.1 a2) i))) (anRoomOf (σ.1 a2) (cR (σ.1 a2) i))) (anNear (σ.1 a2) 0 (cR (σ.1 a2) i))) rfl ?_
      refine di_lstore (ls2 := [some (.ref 26), some (.long a1), none, some (dI a2), some (.long (ds (ds (ds (ds j (cR (σ.1 a2) i)) ((σ.1 a2) (cR (σ.1 a2) i))) (anRoomOf (σ.1 a2) (cR (σ.1 a2) i))) (anNear (σ.1 a2) 0 (cR (σ.1 a2) i)))), none, some (dI (i)), some (dI (cR (σ.1 a2) i))]) rfl rfl rfl rfl ?_
      refine dr_lload rfl rfl ?_
      refine dr_ldc2 rfl ?_
      refine dr_lmul rfl rfl ?_
      refine di_aload_n rfl rfl ?_
      refine dr_iload_n rfl rfl ?_
      refine dr_iload rfl rfl ?_
      refine di_const rfl ?_
      refine dr_virt rfl rfl rfl rfl (App_at hA6 c26) (n_X8_nearest l hl hI7 hM8 (a1 := a2) (by omega) (by omega) (a2 := cR (σ.1 a2) i) (by omega) (by omega) (a3 := 3) (by omega) (by omega) er eq (App_at hA6 hu) (App_at hA6 hw) au aw (App_at hA6 h35) as hr s0 s8 ) (by decide) (by omega) (by omega) (Nat.le_of_ble_eq_true rfl) kNP (kIP (fun y10 y10f y10a y10b => ?_))
      obtain ⟨-, -, -, -, y10k⟩ := y10f
      have y10k := an_near3 y10k
      subst y10k
      refine dr_i2l rfl rfl ?_
      refine dr_ladd rfl (v := ds (ds (ds (ds (ds j (cR (σ.1 a2) i)) ((σ.1 a2) (cR (σ.1 a2) i))) (anRoomOf (σ.1 a2) (cR (σ.1 a2) i))) (anNear (σ.1 a2) 0 (cR (σ.1 a2) i))) (anNear (σ.1 a2) 3 (cR (σ.1 a2) i))) rfl ?_
      refine di_lstore (ls2 := [some (.ref 26), some (.long a1), none, some (dI a2), some (.long (ds (ds (ds (ds (ds j (cR (σ.1 a2) i)) ((σ.1 a2) (cR (σ.1 a2) i))) (anRoomOf (σ.1 a2) (cR (σ.1 a2) i))) (anNear (σ.1 a2) 0 (cR (σ.1 a2) i))) (anNear (σ.1 a2) 3 (cR (σ.1 a2) i)))), none, some (dI (i)), some (dI (cR (σ.1 a2) i))]) rfl rfl rfl rfl ?_
      refine di_iinc (ls2 := [some (.ref 26), some (.long a1), none, some (dI a2), some (.long (ds (ds (ds (ds (ds j (cR (σ.1 a2) i)) ((σ.1 a2) (cR (σ.1 a2) i))) (anRoomOf (σ.1 a2) (cR (σ.1 a2) i))) (anNear (σ.1 a2) 0 (cR (σ.1 a2) i))) (anNear (σ.1 a2) 3 (cR (σ.1 a2) i)))), none, some (dI (i + 1)), some (dI (cR (σ.1 a2) i))]) rfl rfl rfl rfl ?_
      refine dr_goto rfl rfl ?_
      exact ih (i + 1) _ _ h4 _ _ (by omega) (by omega) (by omega) (by omega) (by omega) hA6 (by rw [← dS_s i0 ej]; rfl)
  have L2 : ∀ (k : Nat) (i : Int) (j : Int64) (h2 : dm_H), (3 - i).toNat < k → 0 ≤ i → i ≤ 3 → App h h2 → j = dsN (ds (dsN a1 (anBook (σ.1 a2)) 6) (anMost (σ.1 a2))) (anChosen (σ.1 a2)) i.toNat → dm_W (fun _ _ _ => True) (dm_P (QA h (RLd (dS (σ.1 a2) (dB (σ.1 a2) a1) (zF (σ.1 a2)).toNat))) 20 320) l 223 5 20 320 54 [some (.ref 26), some (.long a1), none, some (dI a2), some (.long j), none, some (dI (i)), none] [] h2 0 0 := by
    intro k
    induction k with
    | zero => intro i j h2 hm; exact absurd hm (Nat.not_lt_zero _)
    | succ k ih =>
      intro i j h2 hm i0 i1 hA ej
      have hI2 := App_Inv hA hI
      have hM2 := MSt_Ap hM hI hA
      refine dr_iload rfl rfl ?_
      refine di_const rfl ?_
      refine di_icmp_ge rfl rfl (by omega) (by omega) (by omega) (by omega) (fun c => ?_) (fun c => ?_)
      · have ei : i = 3 := by omega
        subst ei
        refine dr_lload rfl rfl ?_
        refine dr_ldc2 rfl ?_
        refine dr_lmul rfl rfl ?_
        refine di_aload_n rfl rfl ?_
        refine dr_iload_n rfl rfl ?_
        refine di_const rfl ?_
        refine dr_virt rfl rfl rfl rfl (App_at hA c26) (n_X8_deepestOf l hl hI2 hM2 (a1 := a2) (by omega) (by omega) (a2 := 0) (by omega) (by omega) er eq (App_at hA hu) (App_at hA hw) au aw (App_at hA h35) as hr s0 s8 ) (by decide) (by omega) (by omega) (Nat.le_of_ble_eq_true rfl) kNP (kIP (fun y11 y11f y11a y11b => ?_))
        obtain ⟨-, -, y11k⟩ := y11f
        subst y11k
        refine dr_i2l rfl rfl ?_
        refine dr_ladd rfl (v := ds j (anDeep (σ.1 a2) 0)) rfl ?_
        refine di_lstore (ls2 := [some (.ref 26), some (.long a1), none, some (dI a2), some (.long (ds j (anDeep (σ.1 a2) 0))), none, some (dI (3)), none]) rfl rfl rfl rfl ?_
        refine dr_lload rfl rfl ?_
        refine dr_ldc2 rfl ?_
        refine dr_lmul rfl rfl ?_
        refine di_aload_n rfl rfl ?_
        refine dr_iload_n rfl rfl ?_
        refine di_const rfl ?_
        refine dr_virt rfl rfl rfl rfl (App_at hA c26) (n_X8_deepestOf l hl hI2 hM2 (a1 := a2) (by omega) (by omega) (a2 := 1) (by omega) (by omega) er eq (App_at hA hu) (App_at hA hw) au aw (App_at hA h35) as hr s0 s8 ) (by decide) (by omega) (by omega) (Nat.le_of_ble_eq_true rfl) kNP (kIP (fun y12 y12f y12a y12b => ?_))
        obtain ⟨-, -, y12k⟩ := y12f
        subst y12k
        refine dr_i2l rfl rfl ?_
        refine dr_ladd rfl (v := ds (ds j (anDeep (σ.1 a2) 0)) (anDeep (σ.1 a2) 1)) rfl ?_
        refine di_lstore (ls2 := [some (.ref 26), some (.long a1), none, some (dI a2), some (.long (ds (ds j (anDeep (σ.1 a2) 0)) (anDeep (σ.1 a2) 1))), none, some (dI (3)), none]) rfl rfl rfl rfl ?_
        refine dr_lload rfl rfl ?_
        refine dr_ldc2 rfl ?_
        refine dr_lmul rfl rfl ?_
        refine di_aload_n rfl rfl ?_
        refine dr_iload_n rfl rfl ?_
        refine dr_virt rfl rfl rfl rfl (App_at hA c26) (n_X8_roomCount l hl hI2 hM2 (a1 := a2) (by omega) (by omega) er eq (App_at hA hu) (App_at hA hw) au aw (App_at hA h35) as hr s0 s8 hT) (by decide) (by omega) (by omega) (Nat.le_of_ble_eq_true rfl) kAN (kAI (fun y13 h14 hA15 y13f y13a y13b => ?_))
        have hA16 := App_tr hA hA15
        have hI17 := App_Inv hA16 hI
        have hM18 := MSt_Ap hM hI hA16
        obtain ⟨-, y13k⟩ := y13f
        subst y13k
        refine dr_i2l rfl rfl ?_
        refine dr_ladd rfl (v := ds (ds (ds j (anDeep (σ.1 a2) 0)) (anDeep (σ.1 a2) 1)) (anRooms (σ.1 a2))) rfl ?_
        refine di_lstore (ls2 := [some (.ref 26), some (.long a1), none, some (dI a2), some (.long (ds (ds (ds j (anDeep (σ.1 a2) 0)) (anDeep (σ.1 a2) 1)) (anRooms (σ.1 a2)))), none, some (dI (3)), none]) rfl rfl rfl rfl ?_
        refine di_const rfl ?_
        refine di_istore (ls2 := [some (.ref 26), some (.long a1), none, some (dI a2), some (.long (ds (ds (ds j (anDeep (σ.1 a2) 0)) (anDeep (σ.1 a2) 1)) (anRooms (σ.1 a2)))), none, some (dI (0)), none]) rfl rfl rfl ?_
        exact L3 _ 0 _ none h14 _ _ (Nat.lt_succ_self _) (by omega) (by omega) (by omega) (by omega) hA16 (by rw [ej]; rfl)
      refine dr_lload rfl rfl ?_
      refine dr_ldc2 rfl ?_
      refine dr_lmul rfl rfl ?_
      refine di_aload_n rfl rfl ?_
      refine dr_iload_n rfl rfl ?_
      refine dr_iload rfl rfl ?_
      refine dr_virt rfl rfl rfl rfl (App_at hA c26) (n_X8_chosenAt l hl hI2 hM2 (a1 := a2) (by omega) (by omega) (a2 := i) (by omega) (by omega) er eq (App_at hA hu) (App_at hA hw) au aw (App_at hA h35) as hr s0 s8 ) (by decide) (by omega) (by omega) (Nat.le_of_ble_eq_true rfl) kNP (kIP (fun y19 y19f y19a y19b => ?_))
      obtain ⟨-, -, -, y19k⟩ := y19f
      have y19k : anChosen (σ.1 a2) i = y19 := y19k
      subst y19k
      refine dr_i2l rfl rfl ?_
      refine dr_ladd rfl (v := ds j (anChosen (σ.1 a2) i)) rfl ?_
      refine di_lstore (ls2 := [some (.ref 26), some (.long a1), none, some (dI a2), some (.long (ds j (anChosen (σ.1 a2) i))), none, some (dI (i)), none]) rfl rfl rfl rfl ?_
      refine di_iinc (ls2 := [some (.ref 26), some (.long a1), none, some (dI a2), some (.long (ds j (anChosen (σ.1 a2) i))), none, some (dI (i + 1)), none]) rfl rfl rfl rfl ?_
      refine dr_goto rfl rfl ?_
      exact ih (i + 1) _ h2 (by omega) (by omega) (by omega) hA (dsN_s i0 ej)
  have L1 : ∀ (k : Nat) (i : Int) (j : Int64) (h2 : dm_H), (6 - i).toNat < k → 0 ≤ i → i ≤ 6 → App h h2 → j = dsN a1 (anBook (σ.1 a2)) i.toNat → dm_W (fun _ _ _ => True) (dm_P (QA h (RLd (dS (σ.1 a2) (dB (σ.1 a2) a1) (zF (σ.1 a2)).toNat))) 20 320) l 223 5 20 320 6 [some (.ref 26), some (.long a1), none, some (dI a2), some (.long j), none, some (dI (i)), none] [] h2 0 0 := by
    intro k
    induction k with
    | zero => intro i j h2 hm; exact absurd hm (Nat.not_lt_zero _)
    | succ k ih =>
      intro i j h2 hm i0 i1 hA ej
      have hI2 := App_Inv hA hI
      have hM2 := MSt_Ap hM hI hA
      refine dr_iload rfl rfl ?_
      refine di_bipush rfl (by decide) ?_
      refine di_icmp_ge rfl rfl (by omega) (by omega) (by omega) (by omega) (fun c => ?_) (fun c => ?_)
      · have ei : i = 6 := by omega
        subst ei
        refine dr_lload rfl rfl ?_
        refine dr_ldc2 rfl ?_
        refine dr_lmul rfl rfl ?_
        refine di_aload_n rfl rfl ?_
        refine dr_iload_n rfl rfl ?_
        refine dr_virt rfl rfl rfl rfl (App_at hA c26) (n_X8_mostOf l hl hI2 hM2 (a1 := a2) (by omega) (by omega) er eq (App_at hA hu) (App_at hA hw) au aw (App_at hA h35) as hr s0 s8 ) (by decide) (by omega) (by omega) (Nat.le_of_ble_eq_true rfl) kNP (kIP (fun y20 y20f y20a y20b => ?_))
        obtain ⟨-, -, y20k⟩ := y20f
        subst y20k
        refine dr_i2l rfl rfl ?_
        refine dr_ladd rfl (v := ds j (anMost (σ.1 a2))) rfl ?_
        refine di_lstore (ls2 := [some (.ref 26), some (.long a1), none, some (dI a2), some (.long (ds j (anMost (σ.1 a2)))), none, some (dI (6)), none]) rfl rfl rfl rfl ?_
        refine di_const rfl ?_
        refine di_istore (ls2 := [some (.ref 26), some (.long a1), none, some (dI a2), some (.long (ds j (anMost (σ.1 a2)))), none, some (dI (0)), none]) rfl rfl rfl ?_
        exact L2 _ 0 _ h2 (Nat.lt_succ_self _) (by omega) (by omega) hA (by rw [ej]; rfl)
      refine dr_lload rfl rfl ?_
      refine dr_ldc2 rfl ?_
      refine dr_lmul rfl rfl ?_
      refine di_aload_n rfl rfl ?_
      refine dr_iload_n rfl rfl ?_
      refine dr_iload rfl rfl ?_
      refine dr_virt rfl rfl rfl rfl (App_at hA c26) (n_X8_bookTold l hl hI2 hM2 (a1 := a2) (by omega) (by omega) (a2 := i) (by omega) (by omega) er eq (App_at hA hu) (App_at hA hw) au aw (App_at hA h35) as hr s0 s8 hT) (by decide) (by omega) (by omega) (Nat.le_of_ble_eq_true rfl) kNP (kIP (fun y21 y21f y21a y21b => ?_))
      obtain ⟨-, -, y21k⟩ := y21f
      subst y21k
      refine dr_i2l rfl rfl ?_
      refine dr_ladd rfl (v := ds j (anBook (σ.1 a2) i)) rfl ?_
      refine di_lstore (ls2 := [some (.ref 26), some (.long a1), none, some (dI a2), some (.long (ds j (anBook (σ.1 a2) i))), none, some (dI (i)), none]) rfl rfl rfl rfl ?_
      refine di_iinc (ls2 := [some (.ref 26), some (.long a1), none, some (dI a2), some (.long (ds j (anBook (σ.1 a2) i))), none, some (dI (i + 1)), none]) rfl rfl rfl rfl ?_
      refine dr_goto rfl rfl ?_
      exact ih (i + 1) _ h2 (by omega) (by omega) (by omega) hA (dsN_s i0 ej)
  refine dr_lload_n rfl rfl ?_
  refine di_lstore (ls2 := [some (.ref 26), some (.long a1), none, some (dI a2), some (.long a1), none, none, none]) rfl rfl rfl rfl ?_
  refine di_const rfl ?_
  refine di_istore (ls2 := [some (.ref 26), some (.long a1), none, some (dI a2), some (.long a1), none, some (dI (0)), none]) rfl rfl rfl ?_
  exact L1 _ 0 a1 h (Nat.lt_succ_self _) (by omega) (by omega) App_rf rfl
set_option maxHeartbeats 4000000 in
set_option maxRecDepth 100000 in
theorem n_X8_digest (l : Launch) (hl : l.stackTraces = false) {kc km : Int} {h : dm_H} (hI : Inv kc km h) {th : Int} {σ : St} (hM : MSt km th σ h) (hT : sSt σ) : dm_M l 224 8 110 2700 [.ref 26] h (QMD kc km h σ (dig σ km)) := by
  obtain ⟨⟨ni, c26, ni0, ni1⟩, ⟨⟨R1, R2⟩, ⟨R3, R4⟩, ⟨R5, R6⟩, ⟨R7, R8⟩, ⟨R9, R10⟩, ⟨R11, R12⟩, R13⟩, ⟨th0, th1⟩, -⟩ := id hM
  refine dm_M_of dk_224 hl rfl (Nat.le_of_ble_eq_true rfl) ?_
  show dm_W (fun _ _ _ => True) (dm_P (QMD kc km h σ (dig σ km)) 110 2700) l 224 8 110 2700 0 [some (.ref 26), none, none, none] [] h 0 0
  refine di_aload_n rfl rfl ?_
  refine di_const rfl ?_
  refine pfX rfl c26 (Nat.le_of_ble_eq_true rfl) rfl hI (by decide) (T37_md (by omega) (by omega) (by omega) (by omega) (by omega) (by omega) (by omega) (by omega) R13) (fun h1 hI1 hk1 hc1 => ?_)
  have hM1 : MSt km 0 σ h1 := MSt_md hM hk1 (ni' := ni) hc1 rfl ⟨⟨R1, R2⟩, ⟨R3, R4⟩, ⟨R5, R6⟩, ⟨R7, R8⟩, ⟨R9, R10⟩, ⟨R11, R12⟩, R13⟩ ⟨by omega, by omega⟩ ⟨ni0, ni1⟩
  have hF1 := FrM_N (FrM_I hk1 (by decide) (by decide))
  have L4 : ∀ (j : Int64) (o : Option Value) (h2 : dm_H) (ce sl : Nat), ce ≤ 60 → sl ≤ 960 → App h1 h2 → ds j 1 = dig σ km → dm_W (fun _ _ _ => True) (dm_P (QMD kc km h σ (dig σ km)) 110 2700) l 224 8 110 2700 90 [some (.ref 26), some (.long j), none, o] [] h2 ce sl := by
    intro j o h2 ce sl hce hsl hA ej
    have hI2 := App_Inv hA hI1
    have hM2 := MSt_Ap hM1 hI1 hA
    have d26 := App_at hA hc1
    refine dr_lload_n rfl rfl ?_
    refine dr_ldc2 rfl ?_
    refine dr_lmul rfl rfl ?_
    refine di_aload_n rfl rfl ?_
    refine dr_virt rfl rfl rfl rfl d26 (n_X8_isAllSound l hl hI2 hM2 hT) (by decide) (by omega) (by omega) (Nat.le_of_ble_eq_true rfl) kAN (kAI (fun y h3 hA3 yf ya yb => ?_))
    have yf : y = 1 := yf
    subst yf
    refine di_if_eq rfl rfl (by omega) (by omega) (fun c9 => absurd c9 (by decide)) (fun _ => ?_)
    refine di_const rfl ?_
    refine dr_goto rfl rfl ?_
    refine dr_i2l rfl rfl ?_
    refine dr_ladd rfl (v := ds j 1) rfl ?_
    have hB := App_tr hA hA3
    exact dr_lret rfl rfl (by omega) (by omega) ⟨App_Inv hB hI1, FrN_tr hF1 (App_N hB), MSt_Ap hM1 hI1 hB, by rw [ej]⟩
  have L3 : ∀ (k : Nat) (i : Int) (j : Int64) (h2 : dm_H) (ce sl : Nat), (6 - i).toNat < k → 0 ≤ i → i ≤ 6 → ce ≤ 60 → sl ≤ 960 → App h1 h2 → ((σ.2.1.1 = -1 ∧ j = digD σ km) ∨ (σ.2.1.1 ≠ -1 ∧ j = dsN (digD σ km) (anPart σ) i.toNat)) → (σ.2.1.1 = -1 → i = 0) → dm_W (fun _ _ _ => True) (dm_P (QMD kc km h σ (dig σ km)) 110 2700) l 224 8 110 2700 57 [some (.ref 26), some (.long j), none, some (dI (i))] [] h2 ce sl := by
    intro k
    induction k with
    | zero => intro i j h2 ce sl hm; exact absurd hm (Nat.not_lt_zero _)
    | succ k ih =>
      intro i j h2 ce sl hm i0 i1 hce hsl hA ej ez
      have hI2 := App_Inv hA hI1
      have hM2 := MSt_Ap hM1 hI1 hA
      have d26 := App_at hA hc1
      refine dr_iload_n rfl rfl ?_
      refine di_bipush rfl (by decide) ?_
      refine di_icmp_ge rfl rfl (by omega) (by omega) (by omega) (by omega) (fun c => ?_) (fun c => ?_)
      · have ei : i = 6 := by omega
        subst ei
        rcases ej with ⟨e1, -⟩ | ⟨e1, e2⟩
        · have := ez e1; omega
        · exact L4 j _ h2 ce sl hce hsl hA (dig_y e1 e2)
      refine di_aload_n rfl rfl ?_
      refine dr_getf rfl d26 rfl ?_
      refine di_const rfl ?_
      refine di_icmp_eq rfl rfl (by omega) (by omega) (by omega) (by omega) (fun c2 => ?_) (fun c2 => ?_)
      · rcases ej with ⟨e1, e2⟩ | ⟨e1, -⟩
        · exact L4 j _ h2 ce sl hce hsl hA (dig_n e1 e2)
        · exact absurd c2 e1
      have ej : j = dsN (digD σ km) (anPart σ) i.toNat := by
        rcases ej with ⟨e1, -⟩ | ⟨-, e2⟩
        · exact absurd e1 c2
        · exact e2
      refine dr_lload_n rfl rfl ?_
      refine dr_ldc2 rfl ?_
      refine dr_lmul rfl rfl ?_
      refine di_aload_n rfl rfl ?_
      refine dr_iload_n rfl rfl ?_
      refine dr_virt rfl rfl rfl rfl d26 (n_X8_partTold l hl hI2 hM2 (a1 := i) (by omega) (by omega) (by omega)) (by decide) (by omega) (by omega) (Nat.le_of_ble_eq_true rfl) kNP (kIP (fun y22 y22f y22a y22b => ?_))
      obtain ⟨-, -, y22k⟩ := y22f
      subst y22k
      refine dr_i2l rfl rfl ?_
      refine dr_ladd rfl (v := ds j (anPart σ i)) rfl ?_
      refine di_lstore_n (ls2 := [some (.ref 26), some (.long (ds j (anPart σ i))), none, some (dI (i))]) rfl rfl rfl rfl ?_
      refine di_iinc (ls2 := [some (.ref 26), some (.long (ds j (anPart σ i))), none, some (dI (i + 1))]) rfl rfl rfl rfl ?_
      refine dr_goto rfl rfl ?_
      exact ih (i + 1) _ h2 ce sl (by omega) (by omega) (by omega) hce hsl hA (Or.inr ⟨c2, dsN_s i0 ej⟩) (fun e => absurd e c2)
  have L2 : ∀ (k : Nat) (i : Int) (j : Int64) (h2 : dm_H) (ce sl : Nat), (3 - i).toNat < k → 0 ≤ i → i ≤ 3 → ce + 20 * (3 - i).toNat ≤ 60 → sl + 320 * (3 - i).toNat ≤ 960 → App h1 h2 → j = dBk σ (dsN (Int64.ofNat 7945) (anHouse σ km) 5) i.toNat → dm_W (fun _ _ _ => True) (dm_P (QMD kc km h σ (dig σ km)) 110 2700) l 224 8 110 2700 37 [some (.ref 26), some (.long j), none, some (dI (i))] [] h2 ce sl := by
    intro k
    induction k with
    | zero => intro i j h2 ce sl hm; exact absurd hm (Nat.not_lt_zero _)
    | succ k ih =>
      intro i j h2 ce sl hm i0 i1 hce hsl hA ej
      have hI2 := App_Inv hA hI1
      have hM2 := MSt_Ap hM1 hI1 hA
      have d26 := App_at hA hc1
      refine dr_iload_n rfl rfl ?_
      refine di_const rfl ?_
      refine di_icmp_ge rfl rfl (by omega) (by omega) (by omega) (by omega) (fun c => ?_) (fun c => ?_)
      · have ei : i = 3 := by omega
        subst ei
        have ej : j = digD σ km := ej
        refine di_const rfl ?_
        refine di_istore_n (ls2 := [some (.ref 26), some (.long j), none, some (dI (0))]) rfl rfl rfl ?_
        refine L3 _ 0 j h2 ce sl (Nat.lt_succ_self _) (by omega) (by omega) (by omega) (by omega) hA ?_ (fun _ => rfl)
        by_cases e : σ.2.1.1 = -1
        · exact Or.inl ⟨e, ej⟩
        · exact Or.inr ⟨e, ej⟩
      refine di_aload_n rfl rfl ?_
      refine dr_lload_n rfl rfl ?_
      refine dr_iload_n rfl rfl ?_
      refine dr_virt rfl rfl rfl rfl d26 (n_X8_bookDigest l hl hI2 hM2 hT (a1 := j) (a2 := i) i0 (by omega)) (by decide) (by omega) (by omega) (Nat.le_of_ble_eq_true rfl) kAN (kALd (fun h3 hA3 => ?_))
      refine di_lstore_n (ls2 := [some (.ref 26), some (.long (dS (σ.1 i) (dB (σ.1 i) j) (zF (σ.1 i)).toNat)), none, some (dI (i))]) rfl rfl rfl rfl ?_
      refine di_iinc (ls2 := [some (.ref 26), some (.long (dS (σ.1 i) (dB (σ.1 i) j) (zF (σ.1 i)).toNat)), none, some (dI (i + 1))]) rfl rfl rfl rfl ?_
      refine dr_goto rfl rfl ?_
      exact ih (i + 1) _ h3 _ _ (by omega) (by omega) (by omega) (by omega) (by omega) (App_tr hA hA3) (dBk_s i0 ej)
  have L1 : ∀ (k : Nat) (i : Int) (j : Int64) (h2 : dm_H), (5 - i).toNat < k → 0 ≤ i → i ≤ 5 → App h1 h2 → j = dsN (Int64.ofNat 7945) (anHouse σ km) i.toNat → dm_W (fun _ _ _ => True) (dm_P (QMD kc km h σ (dig σ km)) 110 2700) l 224 8 110 2700 11 [some (.ref 26), some (.long j), none, some (dI (i))] [] h2 0 0 := by
    intro k
    induction k with
    | zero => intro i j h2 hm; exact absurd hm (Nat.not_lt_zero _)
    | succ k ih =>
      intro i j h2 hm i0 i1 hA ej
      have hI2 := App_Inv hA hI1
      have hM2 := MSt_Ap hM1 hI1 hA
      have d26 := App_at hA hc1
      refine dr_iload_n rfl rfl ?_
      refine di_const rfl ?_
      refine di_icmp_ge rfl rfl (by omega) (by omega) (by omega) (by omega) (fun c => ?_) (fun c => ?_)
      · have ei : i = 5 := by omega
        subst ei
        refine di_const rfl ?_
        refine di_istore_n (ls2 := [some (.ref 26), some (.long j), none, some (dI (0))]) rfl rfl rfl ?_
        exact L2 _ 0 j h2 0 0 (Nat.lt_succ_self _) (by omega) (by omega) (by omega) (by omega) hA ej
      refine dr_lload_n rfl rfl ?_
      refine dr_ldc2 rfl ?_
      refine dr_lmul rfl rfl ?_
      refine di_aload_n rfl rfl ?_
      refine dr_iload_n rfl rfl ?_
      refine dr_virt rfl rfl rfl rfl d26 (n_X8_houseTold l hl hI2 hM2 (a1 := i) (by omega) (by omega)) (by decide) (by omega) (by omega) (Nat.le_of_ble_eq_true rfl) kNP (kIP (fun y23 y23f y23a y23b => ?_))
      have y23k : anHouse σ km i = y23 := y23f
      clear y23f
      subst y23k
      refine dr_i2l rfl rfl ?_
      refine dr_ladd rfl (v := ds j (anHouse σ km i)) rfl ?_
      refine di_lstore_n (ls2 := [some (.ref 26), some (.long (ds j (anHouse σ km i))), none, some (dI (i))]) rfl rfl rfl rfl ?_
      refine di_iinc (ls2 := [some (.ref 26), some (.long (ds j (anHouse σ km i))), none, some (dI (i + 1))]) rfl rfl rfl rfl ?_
      refine dr_goto rfl rfl ?_
      exact ih (i + 1) _ h2 (by omega) (by omega) (by omega) hA (dsN_s i0 ej)
  refine dr_ldc2 rfl ?_
  refine di_lstore_n (ls2 := [some (.ref 26), some (.long (Int64.ofNat 7945)), none, none]) rfl rfl rfl rfl ?_
  refine di_const rfl ?_
  refine di_istore_n (ls2 := [some (.ref 26), some (.long (Int64.ofNat 7945)), none, some (dI (0))]) rfl rfl rfl ?_
  exact L1 _ 0 _ h1 (Nat.lt_succ_self _) (by omega) (by omega) App_rf rfl
