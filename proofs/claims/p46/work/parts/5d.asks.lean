/-! ===== rooms, the model's ===== -/
def HsJ (f v : Int → Int) (n t k : Int) : Prop := ∀ r : Int, 0 ≤ r → r < n → (v r ≠ -1 ↔ (f r % 100 < t ∨ (f r % 100 = t ∧ r < k)))
section HSJ
variable {f : Int → Int} {V V2 : List Value} {n t k x m i : Int}
theorem HsJ_0 (h : ∀ j : Int, 0 ≤ j → j < n → cv V j = -1) (hf : ∀ j : Int, 0 ≤ j → j < n → 0 ≤ f j) : HsJ f (cv V) n 0 0 := fun r r0 r1 => by
  have := hf r r0 r1
  exact ⟨fun q => absurd (h r r0 r1) q, fun q => by omega⟩
theorem HsJ_n (h : HsJ f (cv V) n t k) (e : f k % 100 ≠ t) : HsJ f (cv V) n t (k + 1) := fun r r0 r1 => (h r r0 r1).trans ⟨fun q => by omega, fun q => by
  by_cases c : r = k
  · rw [c] at q ⊢; omega
  · omega⟩
theorem HsJ_y (h : HsJ f (cv V) n t k) (k0 : 0 ≤ k) (e : f k % 100 = t) (x0 : 0 ≤ x) (hs : stt V V2 k x) : HsJ f (cv V2) n t (k + 1) := fun r r0 r1 => by
  by_cases c : r = k
  · rw [c, stt_at hs k0]; exact ⟨fun _ => Or.inr ⟨e, by omega⟩, fun _ => by omega⟩
  · rw [stt_ne hs r0 c]; exact (h r r0 r1).trans ⟨fun q => by omega, fun q => by omega⟩
theorem HsJ_s (h : HsJ f (cv V) n t k) (e : n ≤ k) : HsJ f (cv V) n (t + 1) 0 := fun r r0 r1 => (h r r0 r1).trans ⟨fun q => by omega, fun q => by omega⟩
theorem HsJ_b (h : HsJ f (cv V) n t k) (e : f k % 100 = t) : ∀ r : Int, 0 ≤ r → r < n → (bfr f r k ↔ cv V r ≠ -1) := fun r r0 r1 => by
  refine Iff.trans ?_ (h r r0 r1).symm
  unfold bfr
  rw [e]
theorem HsJ_v (h : HsJ f (cv V) n t k) (k0 : 0 ≤ k) (k1 : k < n) (e : f k % 100 = t) : cv V k = -1 := Classical.byContradiction fun q => by
  have := (h k k0 k1).mp q
  omega
theorem HsJ_e (h : HsJ f (cv V) n t 0) (e : 100 ≤ t) : ∀ j : Int, 0 ≤ j → j < n → cv V j ≠ -1 := fun j j0 j1 => (h j j0 j1).mpr (Or.inl (by omega))
theorem mx_i {v : Int → Int} (h : mxR v i m) (i0 : 0 ≤ i) (hx : v i = x) (x0 : 0 ≤ x) (c : m ≤ x) : mxR v (i + 1) (x + 1) := ⟨fun r r0 r1 => by
  by_cases e : r = i
  · rw [e, hx]; omega
  · have := h.1 r r0 (by omega); omega, Or.inr ⟨i, ⟨i0, by omega⟩, by omega, by omega⟩⟩
theorem mx_j {v : Int → Int} (h : mxR v i m) (hx : v i = x) (c : x < m) : mxR v (i + 1) m := ⟨fun r r0 r1 => by
  by_cases e : r = i
  · rw [e, hx]; exact c
  · exact h.1 r r0 (by omega), h.2.imp id (fun ⟨r, hr, q⟩ => ⟨r, ⟨hr.1, by omega⟩, q⟩)⟩
end HSJ
def rmQ (v0 : List Value) (n0 n : Nat) (v : List Value) : Prop := n = n0 ∧ RM (cv v0) n0 (cv v) ∧ ∀ j : Int, 0 ≤ j → j < n0 → 0 ≤ cv v j ∧ cv v j ≤ 8
theorem rmQ_X {F : Int → Int} {n n2 : Nat} {v v2 : List Value} (a : rwQ F n v) (b : rmQ v n n2 v2) : rmX F (cv v2) := by
  unfold rmX
  rw [← a.1.1]
  exact RM_cg b.2.1 a.2.2
set_option maxHeartbeats 4000000 in
set_option maxRecDepth 100000 in
theorem s_X8_roomsOf_f (l : Launch) (hl : l.stackTraces = false) {kc km : Int} {h : dm_H} (hI : Inv kc km h) {b0 n0 : Nat} {v0 : List Value} (hv0 : h[b0]? = some (20, v0)) (hz0 : arr n0 okR v0) (hn0 : n0 ≤ 8) (hv : okV v0 n0) : dm_M l 204 3 1 16 [.ref b0] h (QA h (RW h (rmQ v0 n0))) := by
  refine dm_M_of dk_204 hl rfl (Nat.le_of_ble_eq_true rfl) ?_
  show dm_W (fun _ _ _ => True) (dm_P (QA h (RW h (rmQ v0 n0))) 1 16) l 204 3 1 16 0 [some (.ref b0), none, none, none] [] h 0 0
  have l0 := App_lt hv0
  refine di_aload_n rfl rfl ?_
  refine di_alen (n := n0) rfl hv0 (Or.inl rfl) hz0.1 ?_
  refine pnw rfl rfl (by omega) (by omega) (by omega) (fun h1 hA1 b hb vs hc ha => ?_)
  refine dm_cew (ce2 := 1) (sl2 := 8) (by omega) (by omega) ?_
  refine di_astore_n (ls2 := [some (.ref b0), some (.ref b), none, none]) rfl rfl rfl ?_
  refine di_const rfl ?_
  refine di_istore_n (ls2 := [some (.ref b0), some (.ref b), some (dI 0), none]) rfl rfl rfl ?_
  have LI : ∀ (q : Nat) (t k : Int) (h2 : dm_H) (v : List Value), (9 * (100 - t) + (8 - k)).toNat < q → 0 ≤ t → t < 100 → 0 ≤ k → k ≤ n0 → App h h2 → h2[b]? = some (20, v) → arr n0 okR v → HsI (cv v0) n0 (cv v) → HsJ (cv v0) (cv v) n0 t k → (∀ j : Int, 0 ≤ j → j < n0 → cv v j ≤ 8) → dm_W (fun _ _ _ => True) (dm_P (QA h (RW h (rmQ v0 n0))) 1 16) l 204 3 1 16 33 [some (.ref b0), some (.ref b), some (dI t), some (dI k)] [] h2 1 8 := by
    intro q
    induction q with
    | zero => intro t k h2 v hm; exact absurd hm (Nat.not_lt_zero _)
    | succ q ih =>
      intro t k h2 v hm t0 t1 k0 k1 hA hc ha PI PJ P8
      have hI2 := App_Inv hA hI
      have hr2 := App_at hA hv0
      refine dr_iload_n rfl rfl ?_
      refine di_aload_n rfl rfl ?_
      refine di_alen (n := n0) rfl hr2 (Or.inl rfl) hz0.1 ?_
      refine di_icmp_ge rfl rfl (by omega) (by omega) (by omega) (by omega) (fun c => ?_) (fun c => ?_)
      · refine di_iinc (ls2 := [some (.ref b0), some (.ref b), some (dI (t + 1)), some (dI k)]) rfl rfl rfl rfl ?_
        refine dr_goto rfl rfl ?_
        refine dr_iload_n rfl rfl ?_
        refine di_bipush rfl (by decide) ?_
        have PJ2 := HsJ_s PJ c
        refine di_icmp_ge rfl rfl (by omega) (by omega) (by omega) (by omega) (fun c2 => ?_) (fun c2 => ?_)
        · have hall := HsJ_e PJ2 c2
          have hRM := HsI_e PI hall
          refine di_aload_n rfl rfl ?_
          exact dr_aret rfl rfl (Or.inr ⟨_, rfl⟩) (Or.inl ⟨_, rfl⟩) (by omega) (by omega) ⟨hA, b, n0, v, ⟨rfl, hRM, fun j j0 j1 => ⟨(hRM j j0 j1).1, P8 j j0 j1⟩⟩, hb, hc, ha, rfl⟩
        · refine di_const rfl ?_
          refine di_istore_n (ls2 := [some (.ref b0), some (.ref b), some (dI (t + 1)), some (dI 0)]) rfl rfl rfl ?_
          exact ih (t + 1) 0 h2 v (by omega) (by omega) (by omega) (by omega) (by omega) hA hc ha PI PJ2 P8
      refine di_aload_n rfl rfl ?_
      refine dr_iload_n rfl rfl ?_
      refine di_iald rfl hr2 hz0 (by omega) (by omega) (fun x xf xa xb xv => ?_)
      have xw : cv v0 k = x := cv_eq xv xa xb
      have xo := hv k k0 (by omega)
      have xg : -1 ≤ x ∧ x ≤ 9999 := xf
      refine di_bipush rfl (by decide) ?_
      refine dR_rem rfl (by omega) (by omega) (fun y ya yb ye => ?_)
      have ye := ye (by omega)
      refine dr_iload_n rfl rfl ?_
      refine di_icmp_ne rfl rfl (by omega) (by omega) (by omega) (by omega) (fun c2 => ?_) (fun c2 => ?_)
      · refine di_iinc (ls2 := [some (.ref b0), some (.ref b), some (dI t), some (dI (k + 1))]) rfl rfl rfl rfl ?_
        refine dr_goto rfl rfl ?_
        exact ih t (k + 1) h2 v (by omega) t0 t1 (by omega) (by omega) hA hc ha PI (HsJ_n PJ (by rw [xw]; omega)) P8
      have e9 : cv v0 k % 100 = t := by rw [xw]; omega
      refine di_aload_n rfl rfl ?_
      refine dr_iload_n rfl rfl ?_
      refine di_aload_n rfl rfl ?_
      refine di_aload_n rfl rfl ?_
      refine dr_iload_n rfl rfl ?_
      refine dr_stat rfl rfl rfl rfl (s_X8_freeRoom_f l hl hI2 (b0 := b0) (n0 := n0) (v0 := v0) hr2 hz0 (by omega) (b1 := b) (n1 := n0) (v1 := v) hc ha (by omega) (a2 := k) (by omega) (by omega) (hv := hv) rfl (by omega)) (by decide) (by decide) (by decide) (Nat.le_of_ble_eq_true rfl) kNP (kIP (fun z zf za zb => ?_))
      obtain ⟨zc, zd, zk⟩ := zf
      refine pdsX rfl hc ha (by omega) (by omega) ⟨by omega, by omega⟩ hb hA (fun h3 hA3 us3 hc3 ha3 hs3 hk3 => ?_)
      refine di_iinc (ls2 := [some (.ref b0), some (.ref b), some (dI t), some (dI (k + 1))]) rfl rfl rfl rfl ?_
      refine dr_goto rfl rfl ?_
      exact ih t (k + 1) h3 us3 (by omega) t0 t1 (by omega) (by omega) hA3 hc3 ha3 (HsI_s PI k0 (by omega) (HsJ_v PJ k0 (by omega) e9) (HsJ_b PJ e9) zk hs3) (HsJ_y PJ k0 e9 zc hs3) (fun j j0 j1 => by
        by_cases e : j = k
        · rw [e, stt_at hs3 k0]; exact zd
        · rw [stt_ne hs3 j0 e]; exact P8 j j0 j1)
  have L : ∀ (q : Nat) (i : Int) (h2 : dm_H) (v : List Value), (8 - i).toNat < q → 0 ≤ i → i ≤ n0 → App h h2 → h2[b]? = some (20, v) → arr n0 okR v → (∀ j : Int, 0 ≤ j → j < i → cv v j = -1) → dm_W (fun _ _ _ => True) (dm_P (QA h (RW h (rmQ v0 n0))) 1 16) l 204 3 1 16 7 [some (.ref b0), some (.ref b), some (dI i), none] [] h2 1 8 := by
    intro q
    induction q with
    | zero => intro i h2 v hm; exact absurd hm (Nat.not_lt_zero _)
    | succ q ih =>
      intro i h2 v hm i0 i1 hA hc ha PZ
      refine dr_iload_n rfl rfl ?_
      refine di_aload_n rfl rfl ?_
      refine di_alen (n := n0) rfl (App_at hA hv0) (Or.inl rfl) hz0.1 ?_
      refine di_icmp_ge rfl rfl (by omega) (by omega) (by omega) (by omega) (fun c => ?_) (fun c => ?_)
      · have ee : i = n0 := by omega
        subst ee
        refine di_const rfl ?_
        refine di_istore_n (ls2 := [some (.ref b0), some (.ref b), some (dI 0), none]) rfl rfl rfl ?_
        refine dr_iload_n rfl rfl ?_
        refine di_bipush rfl (by decide) ?_
        refine di_icmp_ge rfl rfl (by omega) (by omega) (by omega) (by omega) (fun c2 => absurd c2 (by decide)) (fun _ => ?_)
        refine di_const rfl ?_
        refine di_istore_n (ls2 := [some (.ref b0), some (.ref b), some (dI 0), some (dI 0)]) rfl rfl rfl ?_
        exact LI _ 0 0 h2 v (Nat.lt_succ_self _) (by omega) (by omega) (by omega) (by omega) hA hc ha (HsI_0 PZ) (HsJ_0 PZ (fun j j0 j1 => (hv j j0 j1).1)) (fun j j0 j1 => by rw [PZ j j0 j1]; omega)
      refine di_aload_n rfl rfl ?_
      refine dr_iload_n rfl rfl ?_
      refine di_const rfl ?_
      refine pdsX rfl hc ha (by omega) (by omega) ⟨by omega, by omega⟩ hb hA (fun h3 hA3 us3 hc3 ha3 hs3 hk3 => ?_)
      refine di_iinc (ls2 := [some (.ref b0), some (.ref b), some (dI (i + 1)), none]) rfl rfl rfl rfl ?_
      refine dr_goto rfl rfl ?_
      exact ih (i + 1) h3 us3 (by omega) (by omega) (by omega) hA3 hc3 ha3 (fun j j0 j1 => by
        by_cases e : j = i
        · rw [e]; exact stt_at hs3 i0
        · rw [stt_ne hs3 j0 e]; exact PZ j j0 (by omega))
  exact L _ 0 h1 vs (Nat.lt_succ_self _) (by omega) (by omega) hA1 hc ha (fun j j0 j1 => by omega)
set_option maxHeartbeats 4000000 in
set_option maxRecDepth 100000 in
theorem n_X8_roomCount (l : Launch) (hl : l.stackTraces = false) {kc km : Int} {h : dm_H} (hI : Inv kc km h) {th : Int} {σ : St} (hM : MSt km th σ h) {a1 : Int} (h1a : 0 ≤ a1) (h1b : a1 ≤ 2) {r q : Nat} {u w us : List Value} (er : (r : Int) = (28 : Nat) + a1) (eq : (q : Int) = (32 : Nat) + a1) (hu : h[r]? = some (20, u)) (hw : h[q]? = some (20, w)) (au : arr 8 okC u) (aw : arr 8 anyI w) (h35 : h[35]? = some (20, us)) (as : arr 3 okS us) (hr : Rep (cv u) (cv w) (cv us a1) (σ.1 a1)) (s0 : 0 ≤ cv us a1) (s8 : cv us a1 ≤ 8) (hT : sSt σ) : dm_M l 205 4 2 32 [.ref 26, dI a1] h (QA h (RI2 (fun x => (0 ≤ x ∧ x ≤ 9) ∧ anRooms (σ.1 a1) = x))) := by
  obtain ⟨ni, c26, -, -⟩ := hM.1
  refine dm_M_of dk_205 hl rfl (Nat.le_of_ble_eq_true rfl) ?_
  show dm_W (fun _ _ _ => True) (dm_P (QA h (RI2 (fun x => (0 ≤ x ∧ x ≤ 9) ∧ anRooms (σ.1 a1) = x))) 2 32) l 205 4 2 32 0 [some (.ref 26), some (dI a1), none, none, none] [] h 0 0
  refine di_aload_n rfl rfl ?_
  refine dr_iload_n rfl rfl ?_
  refine dr_virt rfl rfl rfl rfl c26 (n_X8_row l hl hI hM (a1 := a1) (by omega) (by omega) er eq hu hw au aw h35 as hr s0 s8 hT) (by decide) (by decide) (by decide) (Nat.le_of_ble_eq_true rfl) kAN (kRW (fun h1 hA1 b n v hp hb hc ha => ?_))
  have hp : rwQ (σ.1 a1) n v := hp
  have n8 := hp.1.2
  have hI1 := App_Inv hA1 hI
  refine dr_stat rfl rfl rfl rfl (s_X8_roomsOf_f l hl hI1 (b0 := b) (n0 := n) (v0 := v) hc ha n8 hp.2.1) (by decide) (by decide) (by decide) (Nat.le_of_ble_eq_true rfl) kAN (kRW (fun h2 hA2 b2 n2 v2 hq hb2 hc2 ha2 => ?_))
  have hX := rmQ_X hp hq
  obtain ⟨rfl, hR, h8⟩ := hq
  have hA := App_tr hA1 hA2
  refine di_astore_n (ls2 := [some (.ref 26), some (dI a1), some (.ref b2), none, none]) rfl rfl rfl ?_
  refine di_const rfl ?_
  refine di_istore_n (ls2 := [some (.ref 26), some (dI a1), some (.ref b2), some (dI 0), none]) rfl rfl rfl ?_
  refine di_const rfl ?_
  refine di_istore (ls2 := [some (.ref 26), some (dI a1), some (.ref b2), some (dI 0), some (dI 0)]) rfl rfl rfl ?_
  have L : ∀ (k : Nat) (m i : Int), (8 - i).toNat < k → 0 ≤ m → m ≤ 9 → 0 ≤ i → i ≤ n2 → mxR (cv v2) i m → dm_W (fun _ _ _ => True) (dm_P (QA h (RI2 (fun x => (0 ≤ x ∧ x ≤ 9) ∧ anRooms (σ.1 a1) = x))) 2 32) l 205 4 2 32 14 [some (.ref 26), some (dI a1), some (.ref b2), some (dI m), some (dI i)] [] h2 2 32 := by
    intro k
    induction k with
    | zero => intro m i hm; exact absurd hm (Nat.not_lt_zero _)
    | succ k ih =>
      intro m i hm m0 m1 i0 i1 PM
      refine dr_iload rfl rfl ?_
      refine di_aload_n rfl rfl ?_
      refine di_alen (n := n2) rfl hc2 (Or.inl rfl) ha2.1 ?_
      refine di_icmp_ge rfl rfl (by omega) (by omega) (by omega) (by omega) (fun c => ?_) (fun c => ?_)
      · have ee : i = n2 := by omega
        refine dr_iload_n rfl rfl ?_
        exact dr_iret (ty := .int) rfl rfl rfl (by decide) (by decide) ⟨hA, m, ⟨⟨m0, m1⟩, rooms_e hr s8 hX (by rw [← hp.1.1, ← ee]; exact PM)⟩, by omega, by omega, rfl⟩
      refine di_aload_n rfl rfl ?_
      refine dr_iload rfl rfl ?_
      refine di_iald rfl hc2 ha2 (by omega) (by omega) (fun x xf xa xb xv => ?_)
      have xw : cv v2 i = x := cv_eq xv xa xb
      have x8 := h8 i i0 (by omega)
      rw [xw] at x8
      refine dr_iload_n rfl rfl ?_
      refine di_icmp_lt rfl rfl (by omega) (by omega) (by omega) (by omega) (fun c2 => ?_) (fun c2 => ?_)
      · refine di_iinc (ls2 := [some (.ref 26), some (dI a1), some (.ref b2), some (dI m), some (dI (i + 1))]) rfl rfl rfl rfl ?_
        refine dr_goto rfl rfl ?_
        exact ih m (i + 1) (by omega) m0 m1 (by omega) (by omega) (mx_j PM xw c2)
      refine di_aload_n rfl rfl ?_
      refine dr_iload rfl rfl ?_
      refine di_iald rfl hc2 ha2 (by omega) (by omega) (fun y yf ya yb yv => ?_)
      have yw : cv v2 i = y := cv_eq yv ya yb
      refine di_const rfl ?_
      refine di_iadd rfl ?_
      refine di_istore_n (ls2 := [some (.ref 26), some (dI a1), some (.ref b2), some (dI (y + 1)), some (dI i)]) rfl rfl rfl ?_
      refine di_iinc (ls2 := [some (.ref 26), some (dI a1), some (.ref b2), some (dI (y + 1)), some (dI (i + 1))]) rfl rfl rfl rfl ?_
      refine dr_goto rfl rfl ?_
      exact ih (y + 1) (i + 1) (by omega) (by omega) (by omega) (by omega) (by omega) (mx_i PM i0 yw (by omega) (by omega))
  exact L _ 0 0 (Nat.lt_succ_self _) (by omega) (by omega) (by omega) (by omega) ⟨fun r r0 r1 => by omega, Or.inl rfl⟩
set_option maxHeartbeats 4000000 in
set_option maxRecDepth 100000 in
theorem n_X8_roomAt (l : Launch) (hl : l.stackTraces = false) {kc km : Int} {h : dm_H} (hI : Inv kc km h) {th : Int} {σ : St} (hM : MSt km th σ h) {a1 : Int} (h1a : 0 ≤ a1) (h1b : a1 ≤ 2) {a2 : Int} (h2a : -2147483648 ≤ a2) (h2b : a2 ≤ 2147483647) {r q : Nat} {u w us : List Value} (er : (r : Int) = (28 : Nat) + a1) (eq : (q : Int) = (32 : Nat) + a1) (hu : h[r]? = some (20, u)) (hw : h[q]? = some (20, w)) (au : arr 8 okC u) (aw : arr 8 anyI w) (h35 : h[35]? = some (20, us)) (as : arr 3 okS us) (hr : Rep (cv u) (cv w) (cv us a1) (σ.1 a1)) (s0 : 0 ≤ cv us a1) (s8 : cv us a1 ≤ 8) (hT : sSt σ) : dm_M l 207 4 2 32 [.ref 26, dI a1, dI a2] h (QA h (RI2 (fun x => anRoomOf (σ.1 a1) a2 = x))) := by
  obtain ⟨ni, c26, -, -⟩ := hM.1
  have hTa := hT a1 h1a h1b
  refine dm_M_of dk_207 hl rfl (Nat.le_of_ble_eq_true rfl) ?_
  show dm_W (fun _ _ _ => True) (dm_P (QA h (RI2 (fun x => anRoomOf (σ.1 a1) a2 = x))) 2 32) l 207 4 2 32 0 [some (.ref 26), some (dI a1), some (dI a2)] [] h 0 0
  refine di_aload_n rfl rfl ?_
  refine dr_iload_n rfl rfl ?_
  refine dr_iload_n rfl rfl ?_
  refine dr_virt rfl rfl rfl rfl c26 (n_X8_at l hl hI hM (a1 := a1) (by omega) (by omega) (a2 := a2) (by omega) (by omega) er eq hu hw au aw h35 as hr s0 s8) (by decide) (by decide) (by decide) (Nat.le_of_ble_eq_true rfl) kNP (kIP (fun y yf ya yb => ?_))
  obtain ⟨yc, yd, yk⟩ := yf
  obtain ⟨f0, g0, q0, r0, t0⟩ := id hTa
  refine di_if_ge rfl rfl (by omega) (by omega) (fun c => ?_) (fun c => ?_)
  · have hq : (0 ≤ y ∧ y < cv us a1) ∧ cv u y = a2 := by
      rcases yk with ⟨e, -⟩ | ⟨e1, e2, e3⟩
      · omega
      · exact ⟨⟨e1, e2⟩, e3⟩
    have hk := rk_ex hTa hr hq.1.1 hq.1.2
    rw [hq.2] at hk
    refine di_aload_n rfl rfl ?_
    refine dr_iload_n rfl rfl ?_
    refine dr_virt rfl rfl rfl rfl c26 (n_X8_row l hl hI hM (a1 := a1) (by omega) (by omega) er eq hu hw au aw h35 as hr s0 s8 hT) (by decide) (by decide) (by decide) (Nat.le_of_ble_eq_true rfl) kAN (kRW (fun h1 hA1 b n v hp hb hc ha => ?_))
    have hp : rwQ (σ.1 a1) n v := hp
    have n8 := hp.1.2
    have hI1 := App_Inv hA1 hI
    refine dr_stat rfl rfl rfl rfl (s_X8_roomsOf_f l hl hI1 (b0 := b) (n0 := n) (v0 := v) hc ha n8 hp.2.1) (by decide) (by decide) (by decide) (Nat.le_of_ble_eq_true rfl) kAN (kRW (fun h2 hA2 b2 n2 v2 hqq hb2 hc2 ha2 => ?_))
    have hX := rmQ_X hp hqq
    obtain ⟨rfl, hR, h8⟩ := hqq
    have hA := App_tr hA1 hA2
    have hI2 := App_Inv hA hI
    have hM2 := MSt_Ap hM hI hA
    have zs : (n2 : Int) = cv us a1 := hp.1.1.trans (zF_eq hr)
    refine di_aload_n rfl rfl ?_
    refine dr_iload_n rfl rfl ?_
    refine dr_iload_n rfl rfl ?_
    refine dr_virt rfl rfl rfl rfl (App_at hA c26) (n_X8_rankOf l hl hI2 hM2 (a1 := a1) (by omega) (by omega) (a2 := a2) (by omega) (by omega) er eq (App_at hA hu) (App_at hA hw) au aw (App_at hA h35) as hr s0 s8) (by decide) (by decide) (by decide) (Nat.le_of_ble_eq_true rfl) kNP (kIP (fun z zf za zb => ?_))
    obtain ⟨zc, zd, zk⟩ := zf
    rw [← zk] at hk
    refine di_iald rfl hc2 ha2 (by omega) (by omega) (fun x xf xa xb xv => ?_)
    have xw : cv v2 z = x := cv_eq xv xa xb
    exact dr_iret (ty := .int) rfl rfl rfl (by decide) (by decide) ⟨hA, x, by rw [← xw]; exact roomOf_y r0 t0 (by have := Rep_sz hr r0; omega) hX hk.1.1 (by rw [← hp.1.1]; omega) hk.2, by omega, by omega, rfl⟩
  · refine di_const rfl ?_
    refine dr_goto rfl rfl ?_
    have hn : σ.1 a1 a2 = -1 := by
      rcases yk with ⟨-, e⟩ | ⟨e1, -⟩
      · exact e
      · omega
    exact dr_iret (ty := .int) rfl rfl rfl (by decide) (by decide) ⟨App_rf, -1, roomOf_n r0 t0 hn, by omega, by omega, rfl⟩
set_option maxHeartbeats 4000000 in
set_option maxRecDepth 100000 in
/-- EarlyendsModel.rooms -/
theorem n_X8_rooms (l : Launch) (hl : l.stackTraces = false) {kc km : Int} {h : dm_H} (hI : Inv kc km h) {th : Int} {σ : St} (hM : MSt km th σ h) {a1 : Int} (h1a : -2147483648 ≤ a1) (h1b : a1 ≤ 2147483647) (hT : sSt σ) : dm_M l 206 8 2 32 [.ref 26, dI (a1)] h (QMA kc km h (spRooms σ a1)) := by
  obtain ⟨⟨ni, c26, ni0, ni1⟩, ⟨⟨R1, R2⟩, ⟨R3, R4⟩, ⟨R5, R6⟩, ⟨R7, R8⟩, ⟨R9, R10⟩, ⟨R11, R12⟩, R13⟩, ⟨th0, th1⟩, -⟩ := id hM
  have R14 : σ.2.2.2.2.2.1 = -1 ∨ (0 ≤ σ.2.2.2.2.2.1 ∧ σ.2.2.2.2.2.1 ≤ 9999 ∧ σ.2.2.2.2.2.1 % 100 ≤ σ.2.2.2.2.2.1 / 100) := R13
  refine dm_M_of dk_206 hl rfl (Nat.le_of_ble_eq_true rfl) ?_
  show dm_W (fun _ _ _ => True) (dm_P (QMA kc km h (spRooms σ a1)) 2 32) l 206 8 2 32 0 [some (.ref 26), some (dI (a1))] [] h 0 0
  refine di_aload_n rfl rfl ?_
  refine dr_iload_n rfl rfl ?_
  refine dr_stat rfl rfl rfl rfl (f_X8_isNoBook l hl hI (a0 := a1) (by omega) (by omega)) (by decide) (by decide) (by decide) (Nat.le_of_ble_eq_true rfl) kNP (kIP (fun y1 y1f y1a y1b => ?_))
  have y1g : 0 ≤ y1 ∧ y1 ≤ 1 ∧ (y1 = 0 → 0 ≤ a1 ∧ a1 ≤ 2) ∧ (y1 = 1 → a1 < 0 ∨ 2 < a1) := y1f
  clear y1f
  refine di_const rfl ?_
  rcases (by omega : y1 = 0 ∨ y1 = 1) with ey2 | ey2
  · skip
    rw [ey2]
    refine dr_virt rfl rfl rfl rfl c26 (f_X8_start0 l hl hI hM (a2 := 1) (by omega) (by omega)) (by decide) (by decide) (by decide) (Nat.le_of_ble_eq_true rfl) kNQN (kNQ (fun h3 hI4 hF5 hM6 => ?_))
    have hF7 := FrM_tr FrM_rf hF5
    refine di_if_eq rfl rfl (by omega) (by omega) (fun _ => ?_) (fun c9 => by exfalso; omega)
    refine di_aload_n rfl rfl ?_
    refine dr_iload_n rfl rfl ?_
    obtain ⟨r8, q10, u11, w12, us13, er14, eq15, hu16, hw17, au18, aw19, hs20, as21, hr22, sa23, sb24⟩ := MSt_bk hM6 (k := a1) (by omega) (by omega)
    have hz25 : zF (σ.1 a1) = cv us13 a1 := zF_eq hr22
    have mr26 : isCR r8 := isCR_of er14 (by omega) (by omega)
    have mq27 : isNR q10 := isNR_of eq15 (by omega) (by omega)
    obtain ⟨⟨ni28, ni28c, ni28a, ni28b⟩, -⟩ := id hM6
    refine dr_virt rfl rfl rfl rfl ni28c (n_X8_roomCount l hl hI4 hM6 (a1 := a1) (by omega) (by omega) er14 eq15 hu16 hw17 au18 aw19 hs20 as21 hr22 sa23 sb24 hT) (by decide) (by decide) (by decide) (Nat.le_of_ble_eq_true rfl) kAN (kAI (fun y29 h30 hA31 y29f y29a y29b => ?_))
    obtain ⟨⟨y29c, y29d⟩, y29k⟩ := y29f
    have hI32 := App_Inv hA31 hI4
    have hM33 := MSt_Ap hM6 hI4 hA31
    have hN34 := FrN_tr (FrM_N hF7) (App_N hA31)
    have hc35 := App_at hA31 hu16
    have hc36 := App_at hA31 hw17
    have hc37 := App_at hA31 hs20
    have hc38 := App_at hA31 ni28c
    have hc39 := App_at hA31 hu16
    have hc40 := App_at hA31 hw17
    have hc41 := App_at hA31 hs20
    have e9 : anRooms (σ.1 a1) = y29 := y29k
    exact dr_iret (ty := .int) rfl rfl rfl (by decide) (by decide) (QMA_ok hI32 hN34 hM33 (by omega) (by omega) (by unfold spRooms; (try rw [e9]); (repeat' split) <;> first | rfl | (exfalso; omega) | (apply Prod.ext <;> first | rfl | (dsimp only; omega) | (apply Prod.ext <;> first | rfl | (dsimp only; omega)))))
  · skip
    rw [ey2]
    refine dr_virt rfl rfl rfl rfl c26 (f_X8_start1 l hl hI hM (a2 := 1) (by omega) (by omega)) (by decide) (by decide) (by decide) (Nat.le_of_ble_eq_true rfl) kNQN (kNQ (fun h42 hI43 hF44 hM45 => ?_))
    have hF46 := FrM_tr FrM_rf hF44
    refine di_if_eq rfl rfl (by omega) (by omega) (fun c9 => by exfalso; omega) (fun _ => ?_)
    refine di_const rfl ?_
    exact dr_iret (ty := .int) rfl rfl rfl (by decide) (by decide) (QMA_no (x := 0) hI43 (FrM_N hF46) hM45 (by omega) (by omega) (by omega) (by unfold spRooms; (repeat' split) <;> first | rfl | (exfalso; omega) | (apply Prod.ext <;> first | rfl | (dsimp only; omega) | (apply Prod.ext <;> first | rfl | (dsimp only; omega)))))
set_option maxHeartbeats 4000000 in
set_option maxRecDepth 100000 in
/-- EarlyendsModel.roomOf -/
theorem n_X8_roomOf (l : Launch) (hl : l.stackTraces = false) {kc km : Int} {h : dm_H} (hI : Inv kc km h) {th : Int} {σ : St} (hM : MSt km th σ h) {a1 : Int} (h1a : -2147483648 ≤ a1) (h1b : a1 ≤ 2147483647) {a2 : Int} (h2a : -2147483648 ≤ a2) (h2b : a2 ≤ 2147483647) {a3 : Int} (h3a : -2147483648 ≤ a3) (h3b : a3 ≤ 2147483647) (hT : sSt σ) : dm_M l 208 8 2 32 [.ref 26, dI (a1), dI (a2), dI (a3)] h (QMA kc km h (spRoomOf σ a1 a2 a3)) := by
  obtain ⟨⟨ni, c26, ni0, ni1⟩, ⟨⟨R1, R2⟩, ⟨R3, R4⟩, ⟨R5, R6⟩, ⟨R7, R8⟩, ⟨R9, R10⟩, ⟨R11, R12⟩, R13⟩, ⟨th0, th1⟩, -⟩ := id hM
  have R14 : σ.2.2.2.2.2.1 = -1 ∨ (0 ≤ σ.2.2.2.2.2.1 ∧ σ.2.2.2.2.2.1 ≤ 9999 ∧ σ.2.2.2.2.2.1 % 100 ≤ σ.2.2.2.2.2.1 / 100) := R13
  refine dm_M_of dk_208 hl rfl (Nat.le_of_ble_eq_true rfl) ?_
  show dm_W (fun _ _ _ => True) (dm_P (QMA kc km h (spRoomOf σ a1 a2 a3)) 2 32) l 208 8 2 32 0 [some (.ref 26), some (dI (a1)), some (dI (a2)), some (dI (a3))] [] h 0 0
  refine di_aload_n rfl rfl ?_
  refine dr_iload_n rfl rfl ?_
  refine dr_stat rfl rfl rfl rfl (f_X8_isNoBook l hl hI (a0 := a1) (by omega) (by omega)) (by decide) (by decide) (by decide) (Nat.le_of_ble_eq_true rfl) kNP (kIP (fun y1 y1f y1a y1b => ?_))
  have y1g : 0 ≤ y1 ∧ y1 ≤ 1 ∧ (y1 = 0 → 0 ≤ a1 ∧ a1 ≤ 2) ∧ (y1 = 1 → a1 < 0 ∨ 2 < a1) := y1f
  clear y1f
  refine di_const rfl ?_
  rcases (by omega : y1 = 0 ∨ y1 = 1) with ey2 | ey2
  · skip
    rw [ey2]
    refine dr_virt rfl rfl rfl rfl c26 (f_X8_start0 l hl hI hM (a2 := 1) (by omega) (by omega)) (by decide) (by decide) (by decide) (Nat.le_of_ble_eq_true rfl) kNQN (kNQ (fun h3 hI4 hF5 hM6 => ?_))
    have hF7 := FrM_tr FrM_rf hF5
    refine di_if_ne rfl rfl (by omega) (by omega) (fun c9 => by exfalso; omega) (fun _ => ?_)
    refine di_aload_n rfl rfl ?_
    refine dr_iload_n rfl rfl ?_
    refine dr_iload_n rfl rfl ?_
    refine dr_stat rfl rfl rfl rfl (f_X8_isNoSpan l hl hI4 (a0 := a2) (by omega) (by omega) (a1 := a3) (by omega) (by omega)) (by decide) (by decide) (by decide) (Nat.le_of_ble_eq_true rfl) kNP (kIP (fun y8 y8f y8a y8b => ?_))
    have y8g : 0 ≤ y8 ∧ y8 ≤ 1 ∧ (y8 = 0 → 0 ≤ a2 ∧ a2 ≤ a3 ∧ a3 ≤ 99) ∧ (y8 = 1 → a2 < 0 ∨ a3 < a2 ∨ 99 < a3) := y8f
    clear y8f
    refine di_const rfl ?_
    obtain ⟨⟨ni10, ni10c, ni10a, ni10b⟩, -⟩ := id hM6
    rcases (by omega : y8 = 0 ∨ y8 = 1) with ey11 | ey11
    · skip
      rw [ey11]
      refine dr_virt rfl rfl rfl rfl ni10c (f_X8_refuse0 l hl hI4 hM6 (a2 := 2) (by omega) (by omega)) (by decide) (by decide) (by decide) (Nat.le_of_ble_eq_true rfl) kNQN (kNQ (fun h12 hI13 hF14 hM15 => ?_))
      have hF16 := FrM_tr hF7 hF14
      refine di_if_eq rfl rfl (by omega) (by omega) (fun _ => ?_) (fun c9 => by exfalso; omega)
      refine di_aload_n rfl rfl ?_
      refine dr_iload_n rfl rfl ?_
      refine di_bipush rfl (by decide) ?_
      refine dr_iload_n rfl rfl ?_
      refine di_imul rfl ?_
      refine dr_iload_n rfl rfl ?_
      refine di_iadd rfl ?_
      obtain ⟨r17, q18, u19, w20, us21, er22, eq23, hu24, hw25, au26, aw27, hs28, as29, hr30, sa31, sb32⟩ := MSt_bk hM15 (k := a1) (by omega) (by omega)
      have hz33 : zF (σ.1 a1) = cv us21 a1 := zF_eq hr30
      have mr34 : isCR r17 := isCR_of er22 (by omega) (by omega)
      have mq35 : isNR q18 := isNR_of eq23 (by omega) (by omega)
      obtain ⟨⟨ni36, ni36c, ni36a, ni36b⟩, -⟩ := id hM15
      refine dr_virt rfl rfl rfl rfl ni36c (n_X8_roomAt l hl hI13 hM15 (a1 := a1) (by omega) (by omega) (a2 := ((100 * a3) + a2)) (by omega) (by omega) er22 eq23 hu24 hw25 au26 aw27 hs28 as29 hr30 sa31 sb32 hT) (by decide) (by decide) (by decide) (Nat.le_of_ble_eq_true rfl) kAN (kAI (fun y37 h38 hA39 y37f y37a y37b => ?_))
      have y37k := y37f
      have y37k : anRoomOf (σ.1 a1) ((100 * a3) + a2) = y37 := y37k
      have hI40 := App_Inv hA39 hI13
      have hM41 := MSt_Ap hM15 hI13 hA39
      have hN42 := FrN_tr (FrM_N hF16) (App_N hA39)
      have hc43 := App_at hA39 hu24
      have hc44 := App_at hA39 hw25
      have hc45 := App_at hA39 hs28
      have hc46 := App_at hA39 ni36c
      have hc47 := App_at hA39 hu24
      have hc48 := App_at hA39 hw25
      have hc49 := App_at hA39 hs28
      have e9 : anRoomOf (σ.1 a1) (100 * a3 + a2) = y37 := y37k
      exact dr_iret (ty := .int) rfl rfl rfl (by decide) (by decide) (QMA_ok hI40 hN42 hM41 (by omega) (by omega) (by unfold spRoomOf; (try rw [e9]); (repeat' split) <;> first | rfl | (exfalso; omega) | (apply Prod.ext <;> first | rfl | (dsimp only; omega) | (apply Prod.ext <;> first | rfl | (dsimp only; omega)))))
    · skip
      rw [ey11]
      refine dr_virt rfl rfl rfl rfl ni10c (f_X8_refuse1 l hl hI4 hM6 (a2 := 2) (by omega) (by omega)) (by decide) (by decide) (by decide) (Nat.le_of_ble_eq_true rfl) kNQN (kNQ (fun h50 hI51 hF52 hM53 => ?_))
      have hF54 := FrM_tr hF7 hF52
      refine di_if_eq rfl rfl (by omega) (by omega) (fun c9 => by exfalso; omega) (fun _ => ?_)
      refine di_const rfl ?_
      exact dr_iret (ty := .int) rfl rfl rfl (by decide) (by decide) (QMA_no (x := 0) hI51 (FrM_N hF54) hM53 (by omega) (by omega) (by omega) (by unfold spRoomOf; (repeat' split) <;> first | rfl | (exfalso; omega) | (apply Prod.ext <;> first | rfl | (dsimp only; omega) | (apply Prod.ext <;> first | rfl | (dsimp only; omega)))))
  · skip
    rw [ey2]
    refine dr_virt rfl rfl rfl rfl c26 (f_X8_start1 l hl hI hM (a2 := 1) (by omega) (by omega)) (by decide) (by decide) (by decide) (Nat.le_of_ble_eq_true rfl) kNQN (kNQ (fun h55 hI56 hF57 hM58 => ?_))
    have hF59 := FrM_tr FrM_rf hF57
    refine di_if_ne rfl rfl (by omega) (by omega) (fun _ => ?_) (fun c9 => by exfalso; omega)
    refine di_const rfl ?_
    exact dr_iret (ty := .int) rfl rfl rfl (by decide) (by decide) (QMA_no (x := 0) hI56 (FrM_N hF59) hM58 (by omega) (by omega) (by omega) (by unfold spRoomOf; (repeat' split) <;> first | rfl | (exfalso; omega) | (apply Prod.ext <;> first | rfl | (dsimp only; omega) | (apply Prod.ext <;> first | rfl | (dsimp only; omega)))))
