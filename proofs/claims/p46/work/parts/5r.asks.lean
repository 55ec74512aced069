/-! ===== the model's isBookSound ===== -/
section BS
variable {F f g : Int → Int} {s S n : Int}
theorem mo_ex (hr : Rep f g s F) (hok : okf f s) : ∃ x : Nat, moP F x ∧ chn F x = -1 := by
  have st : ∀ m : Nat, moP F m ∨ ∃ x : Nat, moP F x ∧ chn F x = -1 := by
    intro m
    induction m with
    | zero => exact Or.inl (fun j h => absurd h (Nat.not_lt_zero _))
    | succ m ih =>
      rcases ih with h | h
      · by_cases e : chn F m = -1
        · exact Or.inr ⟨m, h, e⟩
        · exact Or.inl (fun j hj => by
            by_cases q : j = m
            · rw [q]; exact e
            · exact h j (by omega))
      · exact Or.inr h
  have up : ∀ m : Nat, moP F (m + 1) → (m : Int) ≤ chn F m / 100 ∧ chn F m ≤ 9999 := by
    intro m
    induction m with
    | zero =>
      intro h
      obtain ⟨c, ⟨c0, c1⟩, c2, c3⟩ := chn_at hr (q := 0) (fun j hj => absurd hj (Nat.not_lt_zero _)) (h 0 (Nat.lt_succ_self _))
      have := (Rep_at hr c0 c1).1
      omega
    | succ m ih =>
      intro h
      have ih := ih (fun j hj => h j (by omega))
      obtain ⟨c, ⟨c0, c1⟩, c2, c3⟩ := chn_at hr (q := m + 1) (fun j hj => h j (by omega)) (h (m + 1) (Nat.lt_succ_self _))
      have c3 : chn F m / 100 < f c % 100 := c3
      have := (Rep_at hr c0 c1).1
      have := hok c c0 c1
      omega
  rcases st 101 with h | h
  · have := up 100 h; omega
  · exact h
theorem most_d (hr : Rep f g s F) (hok : okf f s) {x : Int} (e : anMost F = x) : 0 ≤ x ∧ moP F x.toNat ∧ chn F x.toNat = -1 := by
  obtain ⟨y, a, b⟩ := mo_ex hr hok
  have k := most_e (F := F) (x := (y : Int)) (by omega) (by rw [Int.toNat_natCast]; exact a) (by rw [Int.toNat_natCast]; exact b)
  rw [k] at e
  subst e
  rw [Int.toNat_natCast]
  exact ⟨by omega, a, b⟩
theorem dp_mx (F : Int → Int) : ∀ m : Nat, ∃ p : Int, (0 ≤ p ∧ p ≤ m) ∧ (∀ q : Int, 0 ≤ q → q ≤ m → dpF F q ≤ dpF F p) ∧ ∀ q : Int, 0 ≤ q → q < p → dpF F q < dpF F p
  | 0 => ⟨0, by omega, fun q h0 h1 => by
      have e : q = 0 := by omega
      rw [e]; exact Int.le_refl _, fun q h0 h1 => by omega⟩
  | m + 1 => by
    obtain ⟨p, hp, a, b⟩ := dp_mx F m
    by_cases c : dpF F p < dpF F ((m : Int) + 1)
    · exact ⟨(m : Int) + 1, by omega, fun q q0 q1 => by
        by_cases e : q = (m : Int) + 1
        · rw [e]; exact Int.le_refl _
        · have := a q q0 (by omega); omega, fun q q0 q1 => by have := a q q0 (by omega); omega⟩
    · exact ⟨p, by omega, fun q q0 q1 => by
        by_cases e : q = (m : Int) + 1
        · rw [e]; omega
        · exact a q q0 (by omega), b⟩
theorem dp_ex (hr : Rep f g s F) (hok : okf f s) : ∃ p : Int, isDp F p := by
  by_cases z : ∀ c, F c = -1
  · exact ⟨-1, Or.inl ⟨rfl, z⟩⟩
  · obtain ⟨c, hc⟩ := Classical.not_forall.mp z
    obtain ⟨j, j0, j1, e⟩ := Rep_ex hr hc
    obtain ⟨p, hp, a, b⟩ := dp_mx F 99
    have k := a (c % 100) (by omega) (by omega)
    have h1 : dpF F (c % 100) ≠ 0 := fun h => by
      have h3 := nF_z hr h c hc
      have ho := hok j j0 j1
      rw [e] at ho
      rw [hoP_t ⟨Int.le_refl _, ho⟩] at h3
      cases h3
    have h2 : 0 ≤ dpF F (c % 100) := by rw [dp_e hr]; exact (cnt_b _ _ _).1
    exact ⟨p, Or.inr ⟨⟨hp.1, by omega⟩, by omega, fun q q0 q1 => a q q0 (by omega), b⟩⟩
theorem ch_rs (hr : Rep f g s F) (hok : okf f s) {q : Nat} (h : moP F (q + 2)) : chn F q / 100 < chn F (q + 1) / 100 := by
  obtain ⟨c, ⟨c0, c1⟩, c2, c3⟩ := chn_at hr (q := q + 1) (fun j hj => h j (by omega)) (h (q + 1) (by omega))
  have c3 : chn F q / 100 < f c % 100 := c3
  have := hok c c0 c1
  omega
theorem ch_ri (hr : Rep f g s F) (hok : okf f s) {k : Nat} : ∀ m : Nat, moP F (k + m + 2) → chn F k / 100 < chn F (k + m + 1) / 100
  | 0, h => ch_rs hr hok h
  | m + 1, h => Int.lt_trans (ch_ri hr hok m (fun j hj => h j (by omega))) (ch_rs hr hok (q := k + m + 1) h)
theorem pk_s (hT : sRp F) (hr : Rep f g s F) (hok : okf f s) (s8 : s ≤ 8) {x w : Int} (n0 : 0 ≤ n) (hm : moP F (n + 1).toNat) (h : pkP F S n) (ex : nF F (ltP (chn F n.toNat)) = x) (ew : w = pwI x) : pkP F (S + w) (n + 1) := by
  have e1 : (n + 1).toNat = n.toNat + 1 := by omega
  rw [e1] at hm
  obtain ⟨c, ⟨c0, c1⟩, c2, -⟩ := chn_at hr (q := n.toNat) (fun j hj => hm j (by omega)) (hm _ (Nat.lt_succ_self _))
  have k1 := rk_ex hT hr c0 c1
  rw [← c2, ex] at k1
  have hn : ¬ ∃ j : Int, (0 ≤ j ∧ j < n) ∧ nF F (ltP (chn F j.toNat)) = x := fun ⟨j, ⟨j0, j1⟩, e⟩ => by
    obtain ⟨d, ⟨d0, d1⟩, d2, -⟩ := chn_at hr (q := j.toNat) (fun i hi => hm i (by omega)) (hm _ (by omega))
    have k2 := rk_ex hT hr d0 d1
    rw [← d2, e, k1.2] at k2
    have k3 := ch_ri hr hok (k := j.toNat) (n.toNat - j.toNat - 1) (fun i hi => hm i (by omega))
    rw [show j.toNat + (n.toNat - j.toNat - 1) + 1 = n.toNat by omega, k2.2] at k3
    omega
  exact sB_cg (sB_add h k1.1.1 (by omega) hn ew) (fun r r0 r7 => ⟨fun q => q.elim (fun ⟨j, hj, e⟩ => ⟨j, ⟨hj.1, by omega⟩, e⟩) (fun e => ⟨n, ⟨n0, by omega⟩, ex.trans e.symm⟩), fun ⟨j, hj, e⟩ => by
    by_cases c : j = n
    · rw [c, ex] at e; exact Or.inr e.symm
    · exact Or.inl ⟨j, ⟨hj.1, by omega⟩, e⟩⟩)
theorem pk_x (hT : sRp F) (hr : Rep f g s F) (s8 : s ≤ 8) {x : Int} (hm : moP F (n + 1).toNat) (n0 : 0 ≤ n) (ex : nF F (ltP (chn F n.toNat)) = x) : 0 ≤ x ∧ x ≤ 7 := by
  rw [show (n + 1).toNat = n.toNat + 1 by omega] at hm
  obtain ⟨c, ⟨c0, c1⟩, c2, -⟩ := chn_at hr (q := n.toNat) (fun j hj => hm j (by omega)) (hm _ (Nat.lt_succ_self _))
  have k1 := (rk_ex hT hr c0 c1).1
  rw [← c2, ex] at k1
  omega
theorem pk_uh (hT : sRp F) (hr : Rep f g s F) (ht : Srt f s) (hok : okf f s) (s8 : s ≤ 8) {N : Nat} {v : List Value} (eN : (N : Int) = s) (hv : ∀ j : Int, 0 ≤ j → j < N → cv v j = f j) {m : Nat} (en : n = m) (hc : chn F m = -1) (h : pkP F S n) : unC (cv v) N S = 0 := un_z (fun r r0 r1 => by
  obtain ⟨q, q1, q2, q3⟩ := ch_hl hr ht hok r0 (by omega)
  have ql : q < m := mo_le hc (fun j hj => q1 j (by omega)) (q1 q (by omega))
  obtain ⟨c, ⟨c0, c1⟩, c2, -⟩ := chn_at hr (q := q) (fun j hj => q1 j (by omega)) (q1 q (by omega))
  obtain ⟨⟨k0, k1⟩, k2⟩ := rk_ex hT hr c0 c1
  refine ⟨nF F (ltP (f c)), k0, by omega, (h.2 _ k0 (by omega)).mpr ⟨q, by omega, by rw [Int.toNat_natCast, c2]⟩, ?_⟩
  rw [hv _ k0 (by omega), hv r r0 r1, ← cR_eq hr ht k0 k1, k2, ← c2]
  exact ⟨q2, q3⟩)
end BS
set_option maxHeartbeats 4000000 in
set_option maxRecDepth 100000 in
theorem n_X8_roomCount_x (l : Launch) (hl : l.stackTraces = false) {kc km : Int} {h : dm_H} (hI : Inv kc km h) {th : Int} {σ : St} (hM : MSt km th σ h) {a1 : Int} (h1a : 0 ≤ a1) (h1b : a1 ≤ 2) {r q : Nat} {u w us : List Value} (er : (r : Int) = (28 : Nat) + a1) (eq : (q : Int) = (32 : Nat) + a1) (hu : h[r]? = some (20, u)) (hw : h[q]? = some (20, w)) (au : arr 8 okC u) (aw : arr 8 anyI w) (h35 : h[35]? = some (20, us)) (as : arr 3 okS us) (hr : Rep (cv u) (cv w) (cv us a1) (σ.1 a1)) (s0 : 0 ≤ cv us a1) (s8 : cv us a1 ≤ 8) (hT : sSt σ) : dm_M l 205 4 2 32 [.ref 26, dI a1] h (QA h (RI2 (fun x => (0 ≤ x ∧ x ≤ 9) ∧ ∃ rv : Int → Int, rmX (σ.1 a1) rv ∧ mxR rv (zF (σ.1 a1)) x))) := by
  obtain ⟨ni, c26, -, -⟩ := hM.1
  refine dm_M_of dk_205 hl rfl (Nat.le_of_ble_eq_true rfl) ?_
  show dm_W (fun _ _ _ => True) (dm_P (QA h (RI2 (fun x => (0 ≤ x ∧ x ≤ 9) ∧ ∃ rv : Int → Int, rmX (σ.1 a1) rv ∧ mxR rv (zF (σ.1 a1)) x))) 2 32) l 205 4 2 32 0 [some (.ref 26), some (dI a1), none, none, none] [] h 0 0
  refine di_aload_n rfl rfl ?_
  refine dr_iload_n rfl rfl ?_
  refine dr_virt rfl rfl rfl rfl c26 (n_X8_row l hl hI hM (a1 := a1) (by omega) (by omega) er eq hu hw au aw h35 as hr s0 s8 hT) (by decide) (by decide) (by decide) (Nat.le_of_ble_eq_true rfl) kAN (kRW (fun h1 hA1 b n v hp hb hc ha => ?_))
  have hp : rwQ (σ.1 a1) n v := hp
  have n8 := hp.1.2
  have hI1 := App_Inv hA1 hI
  refine dr_stat rfl rfl rfl rfl (s_X8_roomsOf_f l hl hI1 (b0 := b) (n0 := n) (v0 := v) hc ha n8 hp.2.1) (by decide) (by decide) (by decide) (Nat.le_of_ble_eq_true rfl) kAN (kRW (fun h2 hA2 b2 n2 v2 hq hb2 hc2 ha2 => ?_))
  have hX := rmQ_X hp hq
  obtain ⟨rfl, hR, h8⟩ := hq
  have hA := App_tr hA1 hA2
  refine di_astore_n (ls2 := [some (.ref 26), some (dI a1), some (.ref b2), none, none]) rfl rfl rfl ?_
  refine di_const rfl ?_
  refine di_istore_n (ls2 := [some (.ref 26), some (dI a1), some (.ref b2), some (dI 0), none]) rfl rfl rfl ?_
  refine di_const rfl ?_
  refine di_istore (ls2 := [some (.ref 26), some (dI a1), some (.ref b2), some (dI 0), some (dI 0)]) rfl rfl rfl ?_
  have L : ∀ (k : Nat) (m i : Int), (8 - i).toNat < k → 0 ≤ m → m ≤ 9 → 0 ≤ i → i ≤ n2 → mxR (cv v2) i m → dm_W (fun _ _ _ => True) (dm_P (QA h (RI2 (fun x => (0 ≤ x ∧ x ≤ 9) ∧ ∃ rv : Int → Int, rmX (σ.1 a1) rv ∧ mxR rv (zF (σ.1 a1)) x))) 2 32) l 205 4 2 32 14 [some (.ref 26), some (dI a1), some (.ref b2), some (dI m), some (dI i)] [] h2 2 32 := by
    intro k
    induction k with
    | zero => intro m i hm; exact absurd hm (Nat.not_lt_zero _)
    | succ k ih =>
      intro m i hm m0 m1 i0 i1 PM
      refine dr_iload rfl rfl ?_
      refine di_aload_n rfl rfl ?_
      refine di_alen (n := n2) rfl hc2 (Or.inl rfl) ha2.1 ?_
      refine di_icmp_ge rfl rfl (by omega) (by omega) (by omega) (by omega) (fun c => ?_) (fun c => ?_)
      · have ee : i = n2 := by omega
        refine dr_iload_n rfl rfl ?_
        exact dr_iret (ty := .int) rfl rfl rfl (by decide) (by decide) ⟨hA, m, ⟨⟨m0, m1⟩, ⟨cv v2, hX, by rw [← hp.1.1, ← ee]; exact PM⟩⟩, by omega, by omega, rfl⟩
      refine di_aload_n rfl rfl ?_
      refine dr_iload rfl rfl ?_
      refine di_iald rfl hc2 ha2 (by omega) (by omega) (fun x xf xa xb xv => ?_)
      have xw : cv v2 i = x := cv_eq xv xa xb
      have x8 := h8 i i0 (by omega)
      rw [xw] at x8
      refine dr_iload_n rfl rfl ?_
      refine di_icmp_lt rfl rfl (by omega) (by omega) (by omega) (by omega) (fun c2 => ?_) (fun c2 => ?_)
      · refine di_iinc (ls2 := [some (.ref 26), some (dI a1), some (.ref b2), some (dI m), some (dI (i + 1))]) rfl rfl rfl rfl ?_
        refine dr_goto rfl rfl ?_
        exact ih m (i + 1) (by omega) m0 m1 (by omega) (by omega) (mx_j PM xw c2)
      refine di_aload_n rfl rfl ?_
      refine dr_iload rfl rfl ?_
      refine di_iald rfl hc2 ha2 (by omega) (by omega) (fun y yf ya yb yv => ?_)
      have yw : cv v2 i = y := cv_eq yv ya yb
      refine di_const rfl ?_
      refine di_iadd rfl ?_
      refine di_istore_n (ls2 := [some (.ref 26), some (dI a1), some (.ref b2), some (dI (y + 1)), some (dI i)]) rfl rfl rfl ?_
      refine di_iinc (ls2 := [some (.ref 26), some (dI a1), some (.ref b2), some (dI (y + 1)), some (dI (i + 1))]) rfl rfl rfl rfl ?_
      refine dr_goto rfl rfl ?_
      exact ih (y + 1) (i + 1) (by omega) (by omega) (by omega) (by omega) (by omega) (mx_i PM i0 yw (by omega) (by omega))
  exact L _ 0 0 (Nat.lt_succ_self _) (by omega) (by omega) (by omega) (by omega) ⟨fun r r0 r1 => by omega, Or.inl rfl⟩
set_option maxHeartbeats 4000000 in
set_option maxRecDepth 100000 in
theorem n_X8_isBookSound (l : Launch) (hl : l.stackTraces = false) {kc km : Int} {h : dm_H} (hI : Inv kc km h) {th : Int} {σ : St} (hM : MSt km th σ h) {a1 : Int} (h1a : 0 ≤ a1) (h1b : a1 ≤ 2) (hT : sSt σ) : dm_M l 219 5 5 180 [.ref 26, dI a1] h (QA h (RI2 (fun x => x = 1))) := by
  obtain ⟨ni, c26, -, -⟩ := hM.1
  obtain ⟨r, q, u, w, us, er, eq, hu, hw, au, aw, h35, as, hr, s0, s8⟩ := MSt_bk hM (k := a1) h1a h1b
  have hTa : sRp (σ.1 a1) := hT a1 h1a h1b
  obtain ⟨f0, g0, q0, r0, t0⟩ := id hTa
  have es : q0 = cv us a1 := Rep_sz r0 hr
  refine dm_M_of dk_219 hl rfl (Nat.le_of_ble_eq_true rfl) ?_
  show dm_W (fun _ _ _ => True) (dm_P (QA h (RI2 (fun x => x = 1))) 5 180) l 219 5 5 180 0 [some (.ref 26), some (dI a1), none, none, none, none, none, none, none] [] h 0 0
  refine di_aload_n rfl rfl ?_
  refine dr_iload_n rfl rfl ?_
  refine dr_virt rfl rfl rfl rfl c26 (n_X8_row l hl hI hM (a1 := a1) (by omega) (by omega) er eq hu hw au aw h35 as hr s0 s8 hT) (by decide) (by decide) (by decide) (Nat.le_of_ble_eq_true rfl) kAN (kRW (fun h1 hA1 b n v hp hb hc ha => ?_))
  have hp : rwQ (σ.1 a1) n v := hp
  have n8 := hp.1.2
  have en : (n : Int) = q0 := hp.1.1.trans (zF_eq r0)
  have hI1 := App_Inv hA1 hI
  have hM1 := MSt_Ap hM hI hA1
  have d26 := App_at hA1 c26
  have hv : ∀ j : Int, 0 ≤ j → j < n → cv v j = f0 j := fun j j0 j1 => by rw [hp.2.2 j j0 j1, cR_eq r0 t0 j0 (by omega)]
  have hok : okf f0 q0 := fun j j0 j1 => by rw [← hv j j0 (by omega)]; exact (hp.2.1 j j0 (by omega)).2
  have rn : Rep f0 g0 (n : Int) (σ.1 a1) := by rw [en]; exact r0
  have tn : Srt f0 (n : Int) := by rw [en]; exact t0
  have okn : okf f0 (n : Int) := by rw [en]; exact hok
  refine di_astore_n (ls2 := [some (.ref 26), some (dI a1), some (.ref b), none, none, none, none, none, none]) rfl rfl rfl ?_
  refine di_const rfl ?_
  refine di_istore_n (ls2 := [some (.ref 26), some (dI a1), some (.ref b), some (dI 0), none, none, none, none, none]) rfl rfl rfl ?_
  have LS : ∀ (b2 : Nat) (S d : Int) (b3 : Nat) (h3 : dm_H) (n2 : Nat) (v2 v3 : List Value) (p : Int), App h h3 → h3[b]? = some (20, v) → h3[b2]? = some (20, v2) → arr n2 okR v2 → n2 ≤ 100 → moP (σ.1 a1) n2 → chn (σ.1 a1) n2 = -1 → (∀ j : Int, 0 ≤ j → j < n2 → cv v2 j = chn (σ.1 a1) j.toNat) → isDp (σ.1 a1) p → d = cnt f0 (hoP p) n → 0 ≤ d → d ≤ 8 → ∀ (k : Nat) (few t : Int), (256 - t).toNat < k → 0 ≤ t → t ≤ pwI (n : Int) → -1 ≤ few → few ≤ 8 → (0 < (n : Int) → fwP v (n : Int) few t) → dm_W (fun _ _ _ => True) (dm_P (QA h (RI2 (fun x => x = 1))) 5 180) l 219 5 5 180 200 [some (.ref 26), some (dI a1), some (.ref b), some (.ref b2), some (dI S), some (dI d), some (.ref b3), some (dI few), some (dI t)] [] h3 5 164 := by
    intro b2 S d b3 h3 n2 v2 v3 p hA hcb hc2 ha2 n100 hmo hch hpk hdp hd d0 d8 k
    have p8 := pwI_8 (r := (n : Int)) (by omega) (by omega)
    have hI3 := App_Inv hA hI
    have hM3 := MSt_Ap hM hI hA
    have e26 := App_at hA c26
    induction k with
    | zero => intro few t hm; exact absurd hm (Nat.not_lt_zero _)
    | succ k ih =>
      intro few t hm t1 t2 f1 f8 PW
      have nx : ∀ few2 : Int, -1 ≤ few2 → few2 ≤ 8 → t < pwI (n : Int) → (0 < (n : Int) → fwP v (n : Int) few2 (t + 1)) → dm_W (fun _ _ _ => True) (dm_P (QA h (RI2 (fun x => x = 1))) 5 180) l 219 5 5 180 275 [some (.ref 26), some (dI a1), some (.ref b), some (.ref b2), some (dI S), some (dI d), some (.ref b3), some (dI few2), some (dI t)] [] h3 5 164 := by
        intro few2 q0 q1 q2 qw
        refine di_iinc (ls2 := [some (.ref 26), some (dI a1), some (.ref b), some (.ref b2), some (dI S), some (dI d), some (.ref b3), some (dI few2), some (dI (t + 1))]) rfl rfl rfl rfl ?_
        refine dr_goto rfl rfl ?_
        exact ih few2 (t + 1) (by omega) (by omega) (by omega) q0 q1 qw
      refine dr_iload rfl rfl ?_
      refine di_const rfl ?_
      refine di_aload_n rfl rfl ?_
      refine di_alen (n := n) rfl hcb (Or.inl rfl) ha.1 ?_
      refine di_shl8 rfl (by omega) (by omega) (fun x xa xb xe => ?_)
      refine di_icmp_ge rfl rfl (by omega) (by omega) (by omega) (by omega) (fun c => ?_) (fun c => ?_)
      · have et : t = pwI (n : Int) := by omega
        subst et
        have one : dm_W (fun _ _ _ => True) (dm_P (QA h (RI2 (fun x => x = 1))) 5 180) l 219 5 5 180 311 [some (.ref 26), some (dI a1), some (.ref b), some (.ref b2), some (dI S), some (dI d), some (.ref b3), some (dI few), some (dI (pwI (n : Int)))] [] h3 5 164 := by
          refine di_const rfl ?_
          refine dr_goto rfl rfl ?_
          exact dr_iret (ty := .boolean) rfl rfl (nar_z (by omega) (by omega)) (by decide) (by decide) ⟨hA, 1, rfl, by omega, by omega, rfl⟩
        refine di_aload_n rfl rfl ?_
        refine di_alen (n := n) rfl hcb (Or.inl rfl) ha.1 ?_
        refine di_if_eq rfl rfl (by omega) (by omega) (fun c2 => ?_) (fun c2 => ?_)
        · exact one
        have n1 : 0 < (n : Int) := by omega
        refine di_aload_n rfl rfl ?_
        refine dr_iload_n rfl rfl ?_
        refine di_aload_n rfl rfl ?_
        refine di_const rfl ?_
        refine di_iald rfl hcb ha (by omega) (by omega) (fun y yf ya yb yv => ?_)
        have yw : cv v 0 = y := cv_eq yv ya yb
        have yg := hp.2.1 0 (by omega) (by omega)
        rw [yw] at yg
        have yh : -1 ≤ y ∧ y ≤ 9999 := yf
        refine di_bipush rfl (by decide) ?_
        refine dR_rem rfl (by omega) (by omega) (fun y2 y2a y2b y2e => ?_)
        have y2e := y2e (by omega)
        refine di_aload_n rfl rfl ?_
        refine di_aload_n rfl rfl ?_
        refine di_alen (n := n) rfl hcb (Or.inl rfl) ha.1 ?_
        refine di_const rfl ?_
        refine di_isub rfl ?_
        refine di_iald rfl hcb ha (by omega) (by omega) (fun z zf za zb zv => ?_)
        have zw : cv v ((n : Int) - 1) = z := cv_eq zv za zb
        have zg := hp.2.1 ((n : Int) - 1) (by omega) (by omega)
        rw [zw] at zg
        have zh : -1 ≤ z ∧ z ≤ 9999 := zf
        refine di_bipush rfl (by decide) ?_
        refine dR_div rfl (by omega) (by omega) (fun z2 z2a z2b z2e => ?_)
        have z2e := z2e (by omega)
        refine dr_virt rfl rfl rfl rfl e26 (n_X8_linkCount l hl hI3 hM3 (a1 := a1) (by omega) (by omega) (a2 := y2) (by omega) (by omega) (a3 := z2) (by omega) (by omega) er eq (App_at hA hu) (App_at hA hw) au aw (App_at hA h35) as hr s0 s8) (by decide) (by decide) (by decide) (Nat.le_of_ble_eq_true rfl) kNP (kIP (fun x9 xf9 xa9 xb9 => ?_))
        obtain ⟨xc9, xd9, xk9⟩ := xf9
        have e1 : y2 = cv v 0 % 100 := by rw [yw]; omega
        have e2 : z2 = cv v ((n : Int) - 1) / 100 := by rw [zw]; omega
        rw [e1, e2] at xk9
        have e3 : x9 = few := fw_lG rn tn (by omega) hv (PW n1) xk9
        refine dr_iload rfl rfl ?_
        refine di_icmp_ne rfl rfl (by omega) (by omega) (by omega) (by omega) (fun c3 => absurd e3 c3) (fun _ => ?_)
        exact one
      have t255 : t ≤ 255 := by omega
      have bt := bb_8 (s := t) t1 t255
      have bn := bb_nn t 8
      refine di_aload_n rfl rfl ?_
      refine dr_iload rfl rfl ?_
      refine di_aload_n rfl rfl ?_
      refine dr_iload rfl rfl ?_
      refine dr_stat rfl rfl rfl rfl (s_X8_isSetSound_f l hl hI3 (b0 := b) (n0 := n) (v0 := v) hcb ha n8 (A := t) t1 (by omega) (b2 := b2) (n2 := n2) (v2 := v2) hc2 ha2 n100 (a3 := d) d0 d8 (F := σ.1 a1) (f := f0) (g := g0) (p := p) rn tn okn hv hmo hch hpk hdp hd) (by decide) (by decide) (by decide) (Nat.le_of_ble_eq_true rfl) kNP (kIP (fun y yf ya yb => ?_))
      have yf : y = 1 := yf
      subst yf
      refine di_if_ne rfl rfl (by omega) (by omega) (fun _ => ?_) (fun c9 => absurd c9 (by decide))
      refine di_aload_n rfl rfl ?_
      refine di_alen (n := n) rfl hcb (Or.inl rfl) ha.1 ?_
      refine di_if_le rfl rfl (by omega) (by omega) (fun c2 => ?_) (fun c2 => ?_)
      · exact nx few f1 f8 (by omega) (fun q => by omega)
      have n1 : 0 < (n : Int) := by omega
      have tk : (few = -1 ∨ bb t 8 < few) → dm_W (fun _ _ _ => True) (dm_P (QA h (RI2 (fun x => x = 1))) 5 180) l 219 5 5 180 244 [some (.ref 26), some (dI a1), some (.ref b), some (.ref b2), some (dI S), some (dI d), some (.ref b3), some (dI few), some (dI t)] [] h3 5 164 := by
        intro c3
        refine di_aload_n rfl rfl ?_
        refine dr_iload rfl rfl ?_
        refine di_aload_n rfl rfl ?_
        refine di_const rfl ?_
        refine di_iald rfl hcb ha (by omega) (by omega) (fun y yf ya yb yv => ?_)
        have yw : cv v 0 = y := cv_eq yv ya yb
        have yg := hp.2.1 0 (by omega) (by omega)
        rw [yw] at yg
        have yh : -1 ≤ y ∧ y ≤ 9999 := yf
        refine di_bipush rfl (by decide) ?_
        refine dR_rem rfl (by omega) (by omega) (fun y2 y2a y2b y2e => ?_)
        have y2e := y2e (by omega)
        refine di_aload_n rfl rfl ?_
        refine di_aload_n rfl rfl ?_
        refine di_alen (n := n) rfl hcb (Or.inl rfl) ha.1 ?_
        refine di_const rfl ?_
        refine di_isub rfl ?_
        refine di_iald rfl hcb ha (by omega) (by omega) (fun z zf za zb zv => ?_)
        have zw : cv v ((n : Int) - 1) = z := cv_eq zv za zb
        have zg := hp.2.1 ((n : Int) - 1) (by omega) (by omega)
        rw [zw] at zg
        have zh : -1 ≤ z ∧ z ≤ 9999 := zf
        refine di_bipush rfl (by decide) ?_
        refine dR_div rfl (by omega) (by omega) (fun z2 z2a z2b z2e => ?_)
        have z2e := z2e (by omega)
        have e1 : y2 = cv v 0 % 100 := by rw [yw]; omega
        have e2 : z2 = cv v ((n : Int) - 1) / 100 := by rw [zw]; omega
        refine dr_stat rfl rfl rfl rfl (s_X8_isAllHeld_f l hl hI3 (b0 := b) (n0 := n) (v0 := v) hcb ha n8 (a1 := t) t1 t255 (a2 := y2) (by omega) (by omega) (a3 := z2) (by omega) (by omega) (hv := hp.2.1)) (by decide) (by decide) (by decide) (Nat.le_of_ble_eq_true rfl) kNP (kIP (fun x9 xf9 xa9 xb9 => ?_))
        obtain ⟨xc9, xd9, xk9, xk8⟩ := xf9
        rw [e1, e2] at xk9 xk8
        refine di_if_eq rfl rfl (by omega) (by omega) (fun c4 => ?_) (fun c4 => ?_)
        · exact nx few f1 f8 (by omega) (fun q => fw_n (PW q) (xk8 c4))
        refine dr_iload rfl rfl ?_
        refine dr_stat rfl rfl rfl rfl (s_X8_sizeOf_s l hl hI3 (a0 := t) t1 t255) (by decide) (by decide) (by decide) (Nat.le_of_ble_eq_true rfl) kNP (kIP (fun y3 y3f y3a y3b => ?_))
        obtain ⟨y3c, y3d, y3k⟩ := y3f
        refine di_istore (ls2 := [some (.ref 26), some (dI a1), some (.ref b), some (.ref b2), some (dI S), some (dI d), some (.ref b3), some (dI y3), some (dI t)]) rfl rfl rfl ?_
        exact nx y3 (by omega) (by omega) (by omega) (fun q => fw_y (PW q) t1 ⟨bn, bt⟩ (xk9 (by omega)) c3 y3k)
      refine dr_iload rfl rfl ?_
      refine di_const rfl ?_
      refine di_icmp_eq rfl rfl (by omega) (by omega) (by omega) (by omega) (fun c3 => ?_) (fun c3 => ?_)
      · exact tk (Or.inl c3)
      refine dr_iload rfl rfl ?_
      refine dr_stat rfl rfl rfl rfl (s_X8_sizeOf_s l hl hI3 (a0 := t) t1 t255) (by decide) (by decide) (by decide) (Nat.le_of_ble_eq_true rfl) kNP (kIP (fun y3 y3f y3a y3b => ?_))
      obtain ⟨y3c, y3d, y3k⟩ := y3f
      refine dr_iload rfl rfl ?_
      refine di_icmp_ge rfl rfl (by omega) (by omega) (by omega) (by omega) (fun c4 => ?_) (fun c4 => ?_)
      · exact nx few f1 f8 (by omega) (fun q => fw_k (PW q) c3 (by omega))
      · exact tk (Or.inr (by omega))
  have LB : ∀ (b2 : Nat) (S d : Int) (b3 : Nat) (h3 : dm_H) (n2 : Nat) (v2 v3 : List Value) (p : Int), App h h3 → h3[b]? = some (20, v) → h3[b2]? = some (20, v2) → arr n2 okR v2 → n2 ≤ 100 → moP (σ.1 a1) n2 → chn (σ.1 a1) n2 = -1 → (∀ j : Int, 0 ≤ j → j < n2 → cv v2 j = chn (σ.1 a1) j.toNat) → isDp (σ.1 a1) p → d = cnt f0 (hoP p) n → 0 ≤ d → d ≤ 8 → h3[b3]? = some (20, v3) → arr n okR v3 → RM (cv v) n (cv v3) → ∀ (k : Nat) (i j : Int), (9 * (8 - i) + (8 - j)).toNat < k → 0 ≤ i → i < n → 0 ≤ j → j ≤ i → dm_W (fun _ _ _ => True) (dm_P (QA h (RI2 (fun x => x = 1))) 5 180) l 219 5 5 180 146 [some (.ref 26), some (dI a1), some (.ref b), some (.ref b2), some (dI S), some (dI d), some (.ref b3), some (dI i), some (dI j)] [] h3 5 164 := by
    intro b2 S d b3 h3 n2 v2 v3 p hA hcb hc2 ha2 n100 hmo hch hpk hdp hd d0 d8 hc3 ha3 hR k
    have hI3 := App_Inv hA hI
    induction k with
    | zero => intro i j hm; exact absurd hm (Nat.not_lt_zero _)
    | succ k ih =>
      intro i j hm i0 i1 j0 j1
      have nx : j < i → dm_W (fun _ _ _ => True) (dm_P (QA h (RI2 (fun x => x = 1))) 5 180) l 219 5 5 180 182 [some (.ref 26), some (dI a1), some (.ref b), some (.ref b2), some (dI S), some (dI d), some (.ref b3), some (dI i), some (dI j)] [] h3 5 164 := by
        intro ji
        refine di_iinc (ls2 := [some (.ref 26), some (dI a1), some (.ref b), some (.ref b2), some (dI S), some (dI d), some (.ref b3), some (dI i), some (dI (j + 1))]) rfl rfl rfl rfl ?_
        refine dr_goto rfl rfl ?_
        exact ih i (j + 1) (by omega) i0 i1 (by omega) (by omega)
      refine dr_iload rfl rfl ?_
      refine dr_iload rfl rfl ?_
      refine di_icmp_ge rfl rfl (by omega) (by omega) (by omega) (by omega) (fun c => ?_) (fun c => ?_)
      · refine di_iinc (ls2 := [some (.ref 26), some (dI a1), some (.ref b), some (.ref b2), some (dI S), some (dI d), some (.ref b3), some (dI (i + 1)), some (dI j)]) rfl rfl rfl rfl ?_
        refine dr_goto rfl rfl ?_
        refine dr_iload rfl rfl ?_
        refine di_aload_n rfl rfl ?_
        refine di_alen (n := n) rfl hcb (Or.inl rfl) ha.1 ?_
        refine di_icmp_ge rfl rfl (by omega) (by omega) (by omega) (by omega) (fun c2 => ?_) (fun c2 => ?_)
        · refine di_const rfl ?_
          refine di_istore (ls2 := [some (.ref 26), some (dI a1), some (.ref b), some (.ref b2), some (dI S), some (dI d), some (.ref b3), some (dI (-1)), some (dI j)]) rfl rfl rfl ?_
          refine di_const rfl ?_
          refine di_istore (ls2 := [some (.ref 26), some (dI a1), some (.ref b), some (.ref b2), some (dI S), some (dI d), some (.ref b3), some (dI (-1)), some (dI 0)]) rfl rfl rfl ?_
          exact LS b2 S d b3 h3 n2 v2 v3 p hA hcb hc2 ha2 n100 hmo hch hpk hdp hd d0 d8 _ (-1) 0 (Nat.lt_succ_self _) (by omega) (by have := pwI_8 (r := (n : Int)) (by omega) (by omega); omega) (by omega) (by omega) (fun _ => fw_0)
        · refine di_const rfl ?_
          refine di_istore (ls2 := [some (.ref 26), some (dI a1), some (.ref b), some (.ref b2), some (dI S), some (dI d), some (.ref b3), some (dI (i + 1)), some (dI 0)]) rfl rfl rfl ?_
          exact ih (i + 1) 0 (by omega) (by omega) (by omega) (by omega) (by omega)
      refine di_aload rfl rfl ?_
      refine dr_iload rfl rfl ?_
      refine di_iald rfl hc3 ha3 (by omega) (by omega) (fun x xf xa xb xv => ?_)
      have xw : cv v3 i = x := cv_eq xv xa xb
      refine di_aload rfl rfl ?_
      refine dr_iload rfl rfl ?_
      refine di_iald rfl hc3 ha3 (by omega) (by omega) (fun y yf ya yb yv => ?_)
      have yw : cv v3 j = y := cv_eq yv ya yb
      refine di_icmp_ne rfl rfl (by omega) (by omega) (by omega) (by omega) (fun c2 => ?_) (fun c2 => ?_)
      · exact nx (by omega)
      have ne := rm_pr hR (r := i) (k := j) i0 i1 j0 (by omega) (by omega) (by rw [xw, yw]; omega)
      refine di_aload_n rfl rfl ?_
      refine dr_iload rfl rfl ?_
      refine di_iald rfl hcb ha (by omega) (by omega) (fun z zf za zb zv => ?_)
      have zw : cv v i = z := cv_eq zv za zb
      have zg := hp.2.1 i i0 (by omega)
      rw [zw] at zg
      have zh : -1 ≤ z ∧ z ≤ 9999 := zf
      refine di_aload_n rfl rfl ?_
      refine dr_iload rfl rfl ?_
      refine di_iald rfl hcb ha (by omega) (by omega) (fun z2 z2f z2a z2b z2v => ?_)
      have z2w : cv v j = z2 := cv_eq z2v z2a z2b
      have z2g := hp.2.1 j j0 (by omega)
      rw [z2w] at z2g
      have z2h : -1 ≤ z2 ∧ z2 ≤ 9999 := z2f
      refine dr_stat rfl rfl rfl rfl (s_X8_areMeeting_d l hl hI3 (a0 := z) (by omega) (by omega) (a1 := z2) (by omega) (by omega) zg.2 z2g.2) (by decide) (by decide) (by decide) (Nat.le_of_ble_eq_true rfl) kNP (kIP (fun x9 xf9 xa9 xb9 => ?_))
      obtain ⟨xc9, xd9, xk9, xk8⟩ := xf9
      refine di_if_eq rfl rfl (by omega) (by omega) (fun c4 => ?_) (fun c4 => ?_)
      · exact nx (by omega)
      exfalso
      have q9 := xk9 (by omega)
      rw [← zw, ← z2w] at q9
      exact ne ⟨q9.2, q9.1⟩
  have LP : ∀ (b2 n2 : Nat), n2 ≤ 100 → moP (σ.1 a1) n2 → chn (σ.1 a1) n2 = -1 → h1.length ≤ b2 → ∀ (k : Nat) (S i : Int) (h2 : dm_H) (v2 : List Value), (100 - i).toNat < k → 0 ≤ i → i ≤ n2 → pkP (σ.1 a1) S i → App h1 h2 → h2[b2]? = some (20, v2) → arr n2 okR v2 → (∀ j : Int, 0 ≤ j → j < i → cv v2 j = chn (σ.1 a1) j.toNat) → dm_W (fun _ _ _ => True) (dm_P (QA h (RI2 (fun x => x = 1))) 5 180) l 219 5 5 180 58 [some (.ref 26), some (dI a1), some (.ref b), some (.ref b2), some (dI S), some (dI i), none, none, none] [] h2 2 116 := by
    intro b2 n2 n100 hmo hch hb2 k
    induction k with
    | zero => intro S i h2 v2 hm; exact absurd hm (Nat.not_lt_zero _)
    | succ k ih =>
      intro S i h2 v2 hm i0 i1 PS hA2 hc2 ha2 PV
      have Sg := PS.1
      have hA := App_tr hA1 hA2
      have hI2 := App_Inv hA hI
      have hM2 := MSt_Ap hM hI hA
      have e26 := App_at hA c26
      have hcb := App_at hA2 hc
      refine dr_iload rfl rfl ?_
      refine di_aload_n rfl rfl ?_
      refine di_alen (n := n2) rfl hc2 (Or.inl rfl) ha2.1 ?_
      refine di_icmp_ge rfl rfl (by omega) (by omega) (by omega) (by omega) (fun c => ?_) (fun c => ?_)
      · have ei : i = n2 := by omega
        refine di_aload_n rfl rfl ?_
        refine dr_iload_n rfl rfl ?_
        refine di_const rfl ?_
        refine dr_virt rfl rfl rfl rfl e26 (n_X8_deepestOf l hl hI2 hM2 (a1 := a1) (by omega) (by omega) (a2 := 0) (by omega) (by omega) er eq (App_at hA hu) (App_at hA hw) au aw (App_at hA h35) as hr s0 s8) (by decide) (by decide) (by decide) (Nat.le_of_ble_eq_true rfl) kNP (kIP (fun d df da db => ?_))
        obtain ⟨dc, dd, dk⟩ := df
        obtain ⟨p, hdp⟩ := dp_ex r0 hok
        have hd : d = cnt f0 (hoP p) n := by
          have k9 := deep_0 (z := 0) r0 hdp rfl rfl
          rw [k9, ← en, Int.toNat_natCast] at dk
          exact dk.symm
        have dB := cnt_b f0 (hoP p) n
        rw [← hd] at dB
        refine di_istore (ls2 := [some (.ref 26), some (dI a1), some (.ref b), some (.ref b2), some (dI S), some (dI d), none, none, none]) rfl rfl rfl ?_
        refine di_aload_n rfl rfl ?_
        refine dr_iload rfl rfl ?_
        refine dr_stat rfl rfl rfl rfl (s_X8_unheldIn_f l hl hI2 (b0 := b) (n0 := n) (v0 := v) hcb ha (by omega) (a1 := S) (by omega) (by omega) (hv := hp.2.1)) (by decide) (by decide) (by decide) (Nat.le_of_ble_eq_true rfl) kNP (kIP (fun y yf ya yb => ?_))
        obtain ⟨yc, yd, yk⟩ := yf
        rw [pk_uh hTa rn tn okn (by omega) rfl hv ei hch PS] at yk
        refine di_if_gt rfl rfl (by omega) (by omega) (fun c9 => by omega) (fun _ => ?_)
        refine di_aload_n rfl rfl ?_
        refine dr_iload_n rfl rfl ?_
        refine dr_virt rfl rfl rfl rfl e26 (n_X8_roomCount_x l hl hI2 hM2 (a1 := a1) (by omega) (by omega) er eq (App_at hA hu) (App_at hA hw) au aw (App_at hA h35) as hr s0 s8 hT) (by decide) (by decide) (by decide) (Nat.le_of_ble_eq_true rfl) kAN (kAI (fun m h4 hA4 mf ma mb => ?_))
        obtain ⟨mg, rv, hX, hmx⟩ := mf
        have hX : RM (cR (σ.1 a1)) (zF (σ.1 a1)) rv := hX
        rw [← hp.1.1] at hX hmx
        have em : m = d := rm_eqG rn okn (RM_cg hX (fun j j0 j1 => cR_eq rn tn j0 j1)) hmx hdp (by rw [Int.toNat_natCast]; exact hd)
        have hB := App_tr hA hA4
        have hB2 := App_tr hA2 hA4
        have hI4 := App_Inv hB hI
        refine dr_iload rfl rfl ?_
        refine di_icmp_eq rfl rfl (by omega) (by omega) (by omega) (by omega) (fun _ => ?_) (fun c9 => absurd em c9)
        refine di_aload_n rfl rfl ?_
        refine dr_stat rfl rfl rfl rfl (s_X8_roomsOf_f l hl hI4 (b0 := b) (n0 := n) (v0 := v) (App_at hB2 hc) ha n8 hp.2.1) (by decide) (by decide) (by decide) (Nat.le_of_ble_eq_true rfl) kAN (kRW (fun h5 hA5 b3 n3 v3 hq hb3 hc3 ha3 => ?_))
        obtain ⟨rfl, hR, h8⟩ := hq
        have hC := App_tr hB hA5
        have hC2 := App_tr hB2 hA5
        refine di_astore (ls2 := [some (.ref 26), some (dI a1), some (.ref b), some (.ref b2), some (dI S), some (dI d), some (.ref b3), none, none]) rfl rfl rfl ?_
        refine di_const rfl ?_
        refine di_istore (ls2 := [some (.ref 26), some (dI a1), some (.ref b), some (.ref b2), some (dI S), some (dI d), some (.ref b3), some (dI 0), none]) rfl rfl rfl ?_
        refine dr_iload rfl rfl ?_
        refine di_aload_n rfl rfl ?_
        have hcb5 := App_at hC2 hc
        have hc25 := App_at (App_tr hA4 hA5) hc2
        have PV2 : ∀ j : Int, 0 ≤ j → j < n2 → cv v2 j = chn (σ.1 a1) j.toNat := fun j j0 j1 => PV j j0 (by omega)
        refine di_alen (n := n3) rfl hcb5 (Or.inl rfl) ha.1 ?_
        refine di_icmp_ge rfl rfl (by omega) (by omega) (by omega) (by omega) (fun c2 => ?_) (fun c2 => ?_)
        · refine di_const rfl ?_
          refine di_istore (ls2 := [some (.ref 26), some (dI a1), some (.ref b), some (.ref b2), some (dI S), some (dI d), some (.ref b3), some (dI (-1)), none]) rfl rfl rfl ?_
          refine di_const rfl ?_
          refine di_istore (ls2 := [some (.ref 26), some (dI a1), some (.ref b), some (.ref b2), some (dI S), some (dI d), some (.ref b3), some (dI (-1)), some (dI 0)]) rfl rfl rfl ?_
          exact LS b2 S d b3 h5 n2 v2 v3 p hC hcb5 hc25 ha2 n100 hmo hch PV2 hdp hd (by omega) (by omega) _ (-1) 0 (Nat.lt_succ_self _) (by omega) (by have := pwI_8 (r := (n3 : Int)) (by omega) (by omega); omega) (by omega) (by omega) (fun _ => fw_0)
        · refine di_const rfl ?_
          refine di_istore (ls2 := [some (.ref 26), some (dI a1), some (.ref b), some (.ref b2), some (dI S), some (dI d), some (.ref b3), some (dI 0), some (dI 0)]) rfl rfl rfl ?_
          exact LB b2 S d b3 h5 n2 v2 v3 p hC hcb5 hc25 ha2 n100 hmo hch PV2 hdp hd (by omega) (by omega) hc3 ha3 hR _ 0 0 (Nat.lt_succ_self _) (by omega) (by omega) (by omega) (by omega)
      have hmi : moP (σ.1 a1) (i + 1).toNat := fun j hj => hmo j (by omega)
      refine di_aload_n rfl rfl ?_
      refine dr_iload rfl rfl ?_
      refine di_aload_n rfl rfl ?_
      refine dr_iload_n rfl rfl ?_
      refine dr_iload rfl rfl ?_
      refine dr_virt rfl rfl rfl rfl e26 (n_X8_chosenAt l hl hI2 hM2 (a1 := a1) (by omega) (by omega) (a2 := i) (by omega) (by omega) er eq (App_at hA hu) (App_at hA hw) au aw (App_at hA h35) as hr s0 s8) (by decide) (by decide) (by decide) (Nat.le_of_ble_eq_true rfl) kNP (kIP (fun y yf ya yb => ?_))
      obtain ⟨yc, yd, ym, yk⟩ := yf
      refine pdsX rfl hc2 ha2 (by omega) (by omega) ⟨by omega, by omega⟩ hb2 hA2 (fun h3 hA3 us3 hc3 ha3 hs3 hk3 => ?_)
      have hB := App_tr hA1 hA3
      have hI3 := App_Inv hB hI
      have hM3 := MSt_Ap hM hI hB
      refine dr_iload rfl rfl ?_
      refine di_const rfl ?_
      refine di_aload_n rfl rfl ?_
      refine dr_iload_n rfl rfl ?_
      refine di_aload_n rfl rfl ?_
      refine dr_iload rfl rfl ?_
      refine di_iald rfl hc3 ha3 (by omega) (by omega) (fun x xf xa xb xv => ?_)
      have xw : cv us3 i = x := cv_eq xv xa xb
      have xy : x = y := by rw [← xw]; exact stt_at hs3 i0
      subst xy
      refine dr_virt rfl rfl rfl rfl (App_at hB c26) (n_X8_rankOf l hl hI3 hM3 (a1 := a1) (by omega) (by omega) (a2 := x) (by omega) (by omega) er eq (App_at hB hu) (App_at hB hw) au aw (App_at hB h35) as hr s0 s8) (by decide) (by decide) (by decide) (Nat.le_of_ble_eq_true rfl) kNP (kIP (fun z zf za zb => ?_))
      obtain ⟨zc, zd, zk⟩ := zf
      have ez : nF (σ.1 a1) (ltP (chn (σ.1 a1) i.toNat)) = z := by rw [yk]; exact zk.symm
      have zx := pk_x hTa rn (by omega) hmi i0 ez
      refine di_shl8 rfl (by omega) (by omega) (fun x2 x2a x2b x2e => ?_)
      have PS2 := pk_s hTa rn okn (by omega) i0 hmi PS ez x2e
      have Sg2 := PS2.1
      refine di_iadd rfl ?_
      refine di_istore (ls2 := [some (.ref 26), some (dI a1), some (.ref b), some (.ref b2), some (dI (S + x2)), some (dI i), none, none, none]) rfl rfl rfl ?_
      refine di_iinc (ls2 := [some (.ref 26), some (dI a1), some (.ref b), some (.ref b2), some (dI (S + x2)), some (dI (i + 1)), none, none, none]) rfl rfl rfl rfl ?_
      refine dr_goto rfl rfl ?_
      exact ih (S + x2) (i + 1) h3 us3 (by omega) (by omega) (by omega) PS2 hA3 hc3 ha3 (fun j j0 j1 => by
        by_cases e : j = i
        · rw [e, stt_at hs3 i0]; exact yk.symm
        · rw [stt_ne hs3 j0 e]; exact PV j j0 (by omega))
  have LR : ∀ (k : Nat) (i : Int), (8 - i).toNat < k → 0 ≤ i → i ≤ n → dm_W (fun _ _ _ => True) (dm_P (QA h (RI2 (fun x => x = 1))) 5 180) l 219 5 5 180 8 [some (.ref 26), some (dI a1), some (.ref b), some (dI i), none, none, none, none, none] [] h1 1 16 := by
    intro k
    induction k with
    | zero => intro i hm; exact absurd hm (Nat.not_lt_zero _)
    | succ k ih =>
      intro i hm i0 i1
      refine dr_iload_n rfl rfl ?_
      refine di_aload_n rfl rfl ?_
      refine di_alen (n := n) rfl hc (Or.inl rfl) ha.1 ?_
      refine di_icmp_ge rfl rfl (by omega) (by omega) (by omega) (by omega) (fun c => ?_) (fun c => ?_)
      · refine di_aload_n rfl rfl ?_
        refine dr_iload_n rfl rfl ?_
        refine dr_virt rfl rfl rfl rfl d26 (n_X8_mostOf l hl hI1 hM1 (a1 := a1) (by omega) (by omega) er eq (App_at hA1 hu) (App_at hA1 hw) au aw (App_at hA1 h35) as hr s0 s8) (by decide) (by decide) (by decide) (Nat.le_of_ble_eq_true rfl) kNP (kIP (fun y yf ya yb => ?_))
        obtain ⟨yc, yd, yk⟩ := yf
        obtain ⟨-, hmo, hch⟩ := most_d r0 hok yk
        obtain ⟨n2, hn2⟩ := Int.eq_ofNat_of_zero_le (show 0 ≤ y by omega)
        have e2 : y.toNat = n2 := by omega
        rw [e2] at hmo hch
        refine pnw rfl hn2 (by omega) (by omega) (by omega) (fun h2 hA2 b2 hb2 vs hc2 ha2 => ?_)
        refine dm_cew (ce2 := 2) (sl2 := 116) (by omega) (by omega) ?_
        refine di_astore_n (ls2 := [some (.ref 26), some (dI a1), some (.ref b), some (.ref b2), none, none, none, none, none]) rfl rfl rfl ?_
        refine di_const rfl ?_
        refine di_istore (ls2 := [some (.ref 26), some (dI a1), some (.ref b), some (.ref b2), some (dI 0), none, none, none, none]) rfl rfl rfl ?_
        refine di_const rfl ?_
        refine di_istore (ls2 := [some (.ref 26), some (dI a1), some (.ref b), some (.ref b2), some (dI 0), some (dI 0), none, none, none]) rfl rfl rfl ?_
        exact LP b2 n2 (by omega) hmo hch hb2 _ 0 0 h2 vs (Nat.lt_succ_self _) (by omega) (by omega) pk_0 hA2 hc2 ha2 (fun j j0 j1 => by omega)
      have go : dm_W (fun _ _ _ => True) (dm_P (QA h (RI2 (fun x => x = 1))) 5 180) l 219 5 5 180 38 [some (.ref 26), some (dI a1), some (.ref b), some (dI i), none, none, none, none, none] [] h1 1 16 := by
        refine di_iinc (ls2 := [some (.ref 26), some (dI a1), some (.ref b), some (dI (i + 1)), none, none, none, none, none]) rfl rfl rfl rfl ?_
        refine dr_goto rfl rfl ?_
        exact ih (i + 1) (by omega) (by omega) (by omega)
      refine di_aload_n rfl rfl ?_
      refine dr_iload_n rfl rfl ?_
      refine di_iald rfl hc ha (by omega) (by omega) (fun x xf xa xb xv => ?_)
      have xw : cv v i = x := cv_eq xv xa xb
      have xg := hp.2.1 i i0 (by omega)
      rw [xw] at xg
      refine di_const rfl ?_
      refine di_icmp_eq rfl rfl (by omega) (by omega) (by omega) (by omega) (fun c9 => by omega) (fun _ => ?_)
      refine dr_iload_n rfl rfl ?_
      refine di_if_le rfl rfl (by omega) (by omega) (fun c2 => ?_) (fun c2 => ?_)
      · exact go
      refine di_aload_n rfl rfl ?_
      refine dr_iload_n rfl rfl ?_
      refine di_iald rfl hc ha (by omega) (by omega) (fun y yf ya yb yv => ?_)
      have yw : cv v i = y := cv_eq yv ya yb
      refine di_aload_n rfl rfl ?_
      refine dr_iload_n rfl rfl ?_
      refine di_const rfl ?_
      refine di_isub rfl ?_
      refine di_iald rfl hc ha (by omega) (by omega) (fun z zf za zb zv => ?_)
      have zw : cv v (i - 1) = z := cv_eq zv za zb
      have lt : z < y := by
        rw [← yw, ← zw, hv i i0 (by omega), hv (i - 1) (by omega) (by omega)]
        exact t0 (i - 1) i (by omega) (by omega) (by omega)
      refine di_icmp_gt rfl rfl (by omega) (by omega) (by omega) (by omega) (fun _ => ?_) (fun c9 => by omega)
      exact go
  exact LR _ 0 (Nat.lt_succ_self _) (by omega) (by omega)
