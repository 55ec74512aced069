/-! ===== the part is set; the hand ===== -/
theorem CA_I {i b : Nat} {s m : Int} {u w : List Value} {h h' : dm_H} (f : FrI i h h') (hi : i < 17) (hb : 17 ≤ b) : CA b s m u w h' ↔ CA b s m u w h := by
  unfold CA
  rw [f.2 b (by omega), f.2 (b + 1) (by omega), f.2 (b + 2) (by omega)]
theorem FrI_tr {i : Nat} {h h1 h2 : dm_H} (a : FrI i h h1) (c : FrI i h1 h2) : FrI i h h2 := ⟨c.1.trans a.1, fun j q => (c.2 j q).trans (a.2 j q)⟩
def AH (B : Int) (σ : St) (h : dm_H) : Prop := (∃ mv : Int → Int, bRel B σ mv h ∧ hRel B σ mv h) ∧ rRel σ h
theorem bRel_I {i : Nat} {B : Int} {σ : St} {mv : Int → Int} {h h' : dm_H} (hb : bRel B σ mv h) (f : FrI i h h') (hi : i < 17) : bRel B σ mv h' := fun k b k0 k1 kb => by
  obtain ⟨x, s, u, w, y1, y2, y3⟩ := hb k b k0 k1 kb
  exact ⟨x, s, u, w, (CA_I f hi (by omega)).mpr y1, y2, y3⟩
theorem AH_fr {i : Nat} {B : Int} {σ : St} {h h' : dm_H} (hA : AH B σ h) (f : FrI i h h') (hi : i < 17) (h3 : 3 ≠ i ∧ 0 ≠ i) : AH B σ h' := by
  obtain ⟨⟨mv, hb, sn, nx, ho, q1, q2, q3, q4, q5, q6, q7, q8, q9⟩, ⟨k9, hz⟩⟩ := hA
  refine ⟨⟨mv, bRel_I hb f hi, sn, nx, ho, (f.2 3 h3.1).trans q1, q2, q3, q4, q5, q6, q7, q8, fun g0 => ?_⟩, ⟨k9, (f.2 0 h3.2).trans hz⟩⟩
  rcases q9 g0 with q | ⟨x, y, z⟩
  · exact Or.inl q
  · exact Or.inr ⟨x, y, fun b s u w kb hCA => z b s u w kb ((CA_I f hi (by omega)).mp hCA)⟩
theorem hl_mv {B : Int} {σ : St} {h : dm_H} (hS : CSt B σ h) (k0 : 0 ≤ σ.2.2.1) {b : Nat} (kb : (b : Int) = 17 + 3 * σ.2.2.1) {s m : Int} {u w : List Value} (hc : CA b s m u w h) : ∃ sn nx ho : Int, h[3]? = some (4, [dI σ.2.2.1, dI sn, dI nx, dI ho]) ∧ (-1 ≤ σ.2.2.1 ∧ σ.2.2.1 ≤ 2) ∧ (0 ≤ nx ∧ nx ≤ 8) ∧ (ho = 0 ∨ ho = 1) ∧ (0 ≤ sn ∧ sn ≤ B) ∧ (σ.2.2.2.1 = 0 ∨ σ.2.2.2.1 = 1) ∧ (-1 ≤ σ.2.2.2.2.1 ∧ σ.2.2.2.2.1 ≤ 9999) ∧ (-1 ≤ σ.2.2.2.2.2.1 ∧ σ.2.2.2.2.2.1 ≤ 9999) ∧
    ((σ.2.2.2.1 = 1 ∧ sn < m) ∨ (σ.2.2.2.1 = 0 ∧ sn = m ∧ blw (cv u) s (σ.2.2.2.2.1 + 1) nx ∧ ((ho = 0 ∧ σ.2.2.2.2.2.1 = -1) ∨ (ho = 1 ∧ σ.2.2.2.2.2.1 = σ.2.2.2.2.1 ∧ 1 ≤ nx ∧ cv u (nx - 1) = σ.2.2.2.2.2.1)))) := by
  obtain ⟨⟨⟨mv, hb, sn, nx, ho, q1, q2, q3, q4, q5, q6, q7, q8, q9⟩, -⟩, -⟩ := hS
  obtain ⟨-, s9, u9, w9, y1, -⟩ := hb σ.2.2.1 b k0 q2.2 kb
  have hm := (CA_uq y1 hc).2.1
  refine ⟨sn, nx, ho, q1, q2, q3, q4, q5, q6, q7, q8, ?_⟩
  rcases q9 k0 with ⟨x, y⟩ | ⟨x, y, z⟩
  · exact Or.inl ⟨x, by rw [← hm]; exact y⟩
  · exact Or.inr ⟨x, y.trans hm, z b s u w kb (by rw [hm]; exact hc)⟩
/-- the hand set anew over a book -/
theorem CSt_H {B : Int} {σ : St} {h h' : dm_H} (hS : CSt B σ h) (f : FrI 3 h h') {k : Int} {b : Nat} (k0 : 0 ≤ k) (k1 : k ≤ 2) (kb : (b : Int) = 17 + 3 * k) {s m : Int} {u w : List Value} (hc : CA b s m u w h) (hmB : 0 ≤ m ∧ m ≤ B) {re he nx ho : Int} (h3 : h'[3]? = some (4, [dI k, dI m, dI nx, dI ho])) (n0 : 0 ≤ nx ∧ nx ≤ 8) (o0 : ho = 0 ∨ ho = 1) (r0 : -1 ≤ re ∧ re ≤ 9999) (e0 : -1 ≤ he ∧ he ≤ 9999) (hb : blw (cv u) s (re + 1) nx) (hh : (ho = 0 ∧ he = -1) ∨ (ho = 1 ∧ he = re ∧ 1 ≤ nx ∧ cv u (nx - 1) = he)) : CSt B (stH σ k 0 re he) h' := by
  obtain ⟨⟨⟨mv, hbb, -⟩, ⟨k9, hz⟩⟩, hp⟩ := hS
  have hm : mv k = m := by
    obtain ⟨-, s9, u9, w9, y1, -⟩ := hbb k b k0 k1 kb
    exact (CA_uq y1 hc).2.1
  refine ⟨⟨⟨mv, bRel_I hbb f (by decide), m, nx, ho, h3, ⟨(show -1 ≤ k by omega), k1⟩, n0, o0, hmB, Or.inl rfl, r0, e0, fun _ => Or.inr ⟨rfl, hm.symm, fun b' s' u' w' kb' hCA => ?_⟩⟩, ⟨k9, (f.2 0 (by decide)).trans hz⟩⟩, (f.2 2 (by decide)).trans hp.1, hp.2⟩
  have eb : b' = b := by
    have kb' : (b' : Int) = 17 + 3 * k := kb'
    omega
  subst eb
  have hCA2 := (CA_I f (by decide) (by omega)).mp hCA
  obtain ⟨e1, e2, e3, e4⟩ := CA_uq hCA2 hc
  subst e1; subst e3
  exact ⟨hb, hh⟩
theorem stM_s {σ : St} {k : Int} {F : Int → Int} : (stM σ k F).1 k = F := if_pos rfl
theorem stN_s {σ : St} {k : Int} {F : Int → Int} : (stN σ k F).1 k = F := if_pos rfl
theorem nx_no {f g F : Int → Int} {s re nx : Int} (hr : Rep f g s F) (hb : blw f s (re + 1) nx) (h : s ≤ nx) : lst F (fun c => decide (re < c)) = -1 := lst_no (fun c hc => by
  obtain ⟨j, j0, j1, e⟩ := hr.2.1 c hc
  have := hb.2.2.1 j j0 (by omega)
  exact decide_eq_false (by omega))
theorem nx_yes {f g F : Int → Int} {s re nx : Int} (hr : Rep f g s F) (ht : Srt f s) (hb : blw f s (re + 1) nx) (h : nx < s) : lst F (fun c => decide (re < c)) = f nx := by
  have b3 := hb.2.2.2 h
  refine lst_eq ⟨(Rep_yes hr hb.1 h rfl).2.1, decide_eq_true (by omega), fun c hc hP => ?_⟩
  obtain ⟨j, j0, j1, e⟩ := hr.2.1 c hc
  have hP := of_decide_eq_true hP
  by_cases q : j < nx
  · have := hb.2.2.1 j j0 q; omega
  · by_cases q2 : j = nx
    · rw [← e, q2]; exact Int.le_refl _
    · have := ht nx j hb.1 (by omega) j1
      omega
theorem nx_up {f : Int → Int} {s re nx : Int} (ht : Srt f s) (hb : blw f s (re + 1) nx) (h : nx < s) : blw f s (f nx + 1) (nx + 1) := by
  obtain ⟨b0, b1, b2, b3⟩ := hb
  refine ⟨by omega, by omega, fun j j0 j1 => ?_, fun h2 => ?_⟩
  · by_cases q : j = nx
    · rw [q]; omega
    · have := ht j nx j0 (by omega) h; omega
  · have := ht nx (nx + 1) b0 (by omega) h2; omega
/-- a span is taken out by the hand -/
theorem CSt_TO {B : Int} {σ : St} {h h1 h2 h4 : dm_H} (hS : CSt B σ h) (f1 : FrI 3 h h1) {k : Int} {b : Nat} (ek : k = σ.2.2.1) (k0 : 0 ≤ k) (k1 : k ≤ 2) (kb : (b : Int) = 17 + 3 * k) (f2 : FrB b h1 h2) (f3 : FrI 3 h2 h4) {s m nx : Int} {u w u' w' : List Value} (hc : CA b s m u w h) (hc' : CA b (s - 1) (m + 1) u' w' h4) (hr : Rep (cv u) (cv w) s (σ.1 k)) (ht : Srt (cv u) s) (hmB : 0 ≤ m ∧ m ≤ B) (h3 : h4[3]? = some (4, [dI k, dI (m + 1), dI (nx - 1), dI 0])) (n0 : 1 ≤ nx ∧ nx ≤ 8) (r0 : -1 ≤ σ.2.2.2.2.1 ∧ σ.2.2.2.2.1 ≤ 9999) (hb : blw (cv u) s (σ.2.2.2.2.1 + 1) nx) (e1 : σ.2.2.2.2.2.1 = σ.2.2.2.2.1) (e2 : cv u (nx - 1) = σ.2.2.2.2.2.1) (hu : ∀ j : Int, 0 ≤ j → j < s - 1 → cv u' j = delf (cv u) (nx - 1) j) (hw : ∀ j : Int, 0 ≤ j → j < s - 1 → cv w' j = delf (cv w) (nx - 1) j) :
    Rep (cv u') (cv w') (s - 1) (up (σ.1 k) σ.2.2.2.2.2.1 (-1)) ∧ CSt (B + 1) (stH (stM σ k (up (σ.1 k) σ.2.2.2.2.2.1 (-1))) k 0 σ.2.2.2.2.1 (-1)) h4 := by
  have hnx : nx ≤ s := hb.2.1
  have hR : Rep (cv u') (cv w') (s - 1) (up (σ.1 k) σ.2.2.2.2.2.1 (-1)) := by
    have := Rep_del hr (r := nx - 1) (by omega) (by omega)
    rw [e2] at this
    exact Rep_cg this hu hw
  have hT : Srt (cv u') (s - 1) := Srt_cg (Srt_del ht (r := nx - 1) (by omega) (by omega)) hu
  refine ⟨hR, ?_⟩
  obtain ⟨⟨⟨mv, hbb, -⟩, ⟨k9, hz⟩⟩, hp⟩ := hS
  refine ⟨⟨⟨fun i => if i = k then m + 1 else mv i, fun k' b' a0 a1 ab => ?_, m + 1, nx - 1, 0, h3, ⟨(show -1 ≤ k by omega), k1⟩, ⟨by omega, by omega⟩, Or.inl rfl, ⟨by omega, by omega⟩, Or.inl rfl, r0, ⟨by show (-1 : Int) ≤ -1; omega, by show (-1 : Int) ≤ 9999; omega⟩, fun _ => Or.inr ⟨rfl, ?_, fun b' s' u9 w9 kb' hCA => ?_⟩⟩, ⟨k9, ((f3.2 0 (by decide)).trans (f2.2 0 (by omega) (by omega) (by omega))).trans ((f1.2 0 (by decide)).trans hz)⟩⟩, ((f3.2 2 (by decide)).trans (f2.2 2 (by omega) (by omega) (by omega))).trans ((f1.2 2 (by decide)).trans hp.1), hp.2⟩
  · obtain ⟨x, s9, u9, w9, y1, y2, y3⟩ := hbb k' b' a0 a1 ab
    show (0 ≤ (if k' = k then m + 1 else mv k') ∧ (if k' = k then m + 1 else mv k') ≤ B + 1) ∧ ∃ (s : Int) (u w : List Value), CA b' s (if k' = k then m + 1 else mv k') u w h4 ∧ Rep (cv u) (cv w) s (if k' = k then up (σ.1 k) σ.2.2.2.2.2.1 (-1) else σ.1 k') ∧ Srt (cv u) s
    by_cases e : k' = k
    · have eb : b' = b := by omega
      subst eb
      rw [if_pos e, if_pos e]
      exact ⟨⟨by omega, by omega⟩, _, u', w', hc', hR, hT⟩
    · rw [if_neg e, if_neg e]
      have d : b + 2 < b' ∨ b' + 2 < b := by omega
      exact ⟨⟨x.1, by omega⟩, s9, u9, w9, (CA_I f3 (by decide) (by omega)).mpr ((CA_fr f2 d).mpr ((CA_I f1 (by decide) (by omega)).mpr y1)), y2, y3⟩
  · show m + 1 = (if k = k then m + 1 else mv k)
    rw [if_pos rfl]
  · have kb' : (b' : Int) = 17 + 3 * k := kb'
    have eb : b' = b := by omega
    subst eb
    have hCA : CA b' s' (if k = k then m + 1 else mv k) u9 w9 h4 := hCA
    rw [if_pos rfl] at hCA
    obtain ⟨q1, q2, q3, q4⟩ := CA_uq hCA hc'
    subst q1; subst q3
    refine ⟨?_, Or.inl ⟨rfl, rfl⟩⟩
    show blw (cv u9) (s - 1) (σ.2.2.2.2.1 + 1) (nx - 1)
    obtain ⟨b0, b1, b2, b3⟩ := hb
    refine ⟨by omega, by omega, fun j j0 j1 => ?_, fun hlt => ?_⟩
    · rw [hu j j0 (by omega)]; unfold delf; rw [if_pos j1]; exact b2 j j0 (by omega)
    · rw [hu (nx - 1) (by omega) hlt]; unfold delf; rw [if_neg (by omega), show nx - 1 + 1 = nx by omega]; exact b3 (by omega)

set_option maxRecDepth 100000 in
theorem f_X2_isLost (l : Launch) (hl : l.stackTraces = false) {kc km : Int} {h : dm_H} (hI : Inv kc km h) {hb sn nx ho : Int} (h3 : h[3]? = some (4, [dI hb, dI sn, dI nx, dI ho])) {b : Nat} (hb0 : isBk b) {s m : Int} {u w : List Value} (hc : CA b s m u w h) (hsn : -2147483648 ≤ sn) (hsn2 : sn ≤ 2147483647) : dm_M l 35 1 0 0 [.ref 3, .ref b] h (QP h (RI (fun x => 0 ≤ x ∧ x ≤ 1 ∧ (x = 1 → sn ≠ m) ∧ (x = 0 → sn = m))) []) := by
  have hm := hc.2.2.2.2.2.2.2
  refine dm_M_of dk_35 hl rfl (Nat.le_of_ble_eq_true rfl) ?_
  show dm_W (fun _ _ _ => True) (dm_P (QP h (RI (fun x => 0 ≤ x ∧ x ≤ 1 ∧ (x = 1 → sn ≠ m) ∧ (x = 0 → sn = m))) []) 0 0) l 35 1 0 0 0 [some (.ref 3), some (.ref b)] [] h 0 0
  refine di_aload_n rfl rfl ?_
  refine dr_getf rfl h3 rfl ?_
  refine di_aload_n rfl rfl ?_
  refine dr_virt rfl rfl rfl rfl hc.1 (f_X0_moves l hl hI hb0 hc) (by decide) (by decide) (by decide) (Nat.le_of_ble_eq_true rfl) kNP (kIP (fun y yf ya yb => ?_))
  obtain ⟨y0, y1, y2⟩ := yf
  refine di_icmp_eq rfl rfl (by omega) (by omega) (by omega) (by omega) (fun c => ?_) (fun c => ?_)
  · refine di_const rfl ?_
    exact dr_iret (ty := .boolean) rfl rfl (nar_z (by omega) (by omega)) (by decide) (by decide) ⟨rfl, 0, ⟨by omega, by omega, by omega, by omega⟩, by omega, by omega, rfl⟩
  · refine di_const rfl ?_
    refine dr_goto rfl rfl ?_
    exact dr_iret (ty := .boolean) rfl rfl (nar_z (by omega) (by omega)) (by decide) (by decide) ⟨rfl, 1, ⟨by omega, by omega, by omega, by omega⟩, by omega, by omega, rfl⟩

set_option maxHeartbeats 4000000 in
set_option maxRecDepth 100000 in
/-- Earlyends.part -/
theorem c_X6_part (l : Launch) (hl : l.stackTraces = false) {kc km : Int} {h : dm_H} (hI : Inv kc km h) {B : Int} {σ : St} (hS : CSt B σ h) (hB : B ≤ 80000) {a1 : Int} (h1a : -2147483648 ≤ a1) (h1b : a1 ≤ 2147483647) {a2 : Int} (h2a : -2147483648 ≤ a2) (h2b : a2 ≤ 2147483647) {a3 : Int} (h3a : -2147483648 ≤ a3) (h3b : a3 ≤ 2147483647) : dm_M l 68 6 8 48 [.ref 0, dI (a1), dI (a2), dI (a3)] h (QX kc km h (B + 20) XB XA (spPart σ a1 a2 a3)) := by
  refine dm_M_of dk_68 hl rfl (Nat.le_of_ble_eq_true rfl) ?_
  show dm_W (fun _ _ _ => True) (dm_P (QX kc km h (B + 20) XB XA (spPart σ a1 a2 a3)) 8 48) l 68 6 8 48 0 [some (.ref 0), some (dI (a1)), some (dI (a2)), some (dI (a3)), none] [] h 0 0
  refine di_aload_n rfl rfl ?_
  refine dr_iload_n rfl rfl ?_
  obtain ⟨r1, c2, c3, hc4⟩ := I_cls hI
  refine dr_virt rfl rfl rfl rfl hc4 (f_X6_bookAt l hl hI (a1 := a1) (by omega) (by omega)) (by decide) (by decide) (by decide) (Nat.le_of_ble_eq_true rfl) (fun Y h9 q9 => by obtain ⟨rfl, rfl, hC⟩ := q9; exact dr_out rfl (by decide) (by decide) (QX_1 (a := 0) hI FrC_rf hS (by omega) (by unfold spPart; (repeat' split) <;> first | rfl | (exfalso; omega) | (apply Prod.ext <;> first | rfl | (dsimp only; omega) | (apply Prod.ext <;> first | rfl | (dsimp only; omega)))))) (kPXR (fun r5 ⟨q6, q7, q8, q10⟩ => ?_))
  refine di_astore (ls2 := [some (.ref 0), some (dI (a1)), some (dI (a2)), some (dI (a3)), some (.ref r5)]) rfl rfl rfl ?_
  refine dr_iload_n rfl rfl ?_
  refine di_const rfl ?_
  refine di_icmp_lt rfl rfl (by omega) (by omega) (by omega) (by omega) (fun c11 => ?_) (fun c11 => ?_)
  · skip
    exact dr_throw rfl (by decide) rfl (by decide) (by decide) (by decide) (Nat.le_of_ble_eq_true rfl) (QX_2 (a := 0) hI FrC_rf hS (by omega) (by unfold spPart; (repeat' split) <;> first | rfl | (exfalso; omega) | (apply Prod.ext <;> first | rfl | (dsimp only; omega) | (apply Prod.ext <;> first | rfl | (dsimp only; omega)))))
  · skip
    refine dr_iload_n rfl rfl ?_
    refine di_bipush rfl (by decide) ?_
    refine di_icmp_ge rfl rfl (by omega) (by omega) (by omega) (by omega) (fun c12 => ?_) (fun c12 => ?_)
    · skip
      exact dr_throw rfl (by decide) rfl (by decide) (by decide) (by decide) (Nat.le_of_ble_eq_true rfl) (QX_2 (a := 0) hI FrC_rf hS (by omega) (by unfold spPart; (repeat' split) <;> first | rfl | (exfalso; omega) | (apply Prod.ext <;> first | rfl | (dsimp only; omega) | (apply Prod.ext <;> first | rfl | (dsimp only; omega)))))
    · skip
      refine dr_iload_n rfl rfl ?_
      refine di_const rfl ?_
      refine di_icmp_lt rfl rfl (by omega) (by omega) (by omega) (by omega) (fun c13 => ?_) (fun c13 => ?_)
      · skip
        exact dr_throw rfl (by decide) rfl (by decide) (by decide) (by decide) (Nat.le_of_ble_eq_true rfl) (QX_2 (a := 0) hI FrC_rf hS (by omega) (by unfold spPart; (repeat' split) <;> first | rfl | (exfalso; omega) | (apply Prod.ext <;> first | rfl | (dsimp only; omega) | (apply Prod.ext <;> first | rfl | (dsimp only; omega)))))
      · skip
        refine dr_iload_n rfl rfl ?_
        refine di_bipush rfl (by decide) ?_
        refine di_icmp_lt rfl rfl (by omega) (by omega) (by omega) (by omega) (fun c14 => ?_) (fun c14 => ?_)
        · skip
          refine dr_iload_n rfl rfl ?_
          refine di_const rfl ?_
          refine di_icmp_eq rfl rfl (by omega) (by omega) (by omega) (by omega) (fun c15 => ?_) (fun c15 => ?_)
          · skip
            refine di_aload_n rfl rfl ?_
            refine dr_getf rfl hc4 rfl ?_
            refine dr_iload_n rfl rfl ?_
            have pr16 := hS.2
            obtain ⟨pr16a, pr16b, pr16c, pr16d⟩ := pr16
            refine pfX rfl pr16a (Nat.le_of_ble_eq_true rfl) rfl hI (by decide) (T37_part (by omega) (by omega) (by omega)) (fun h17 hI18 hk19 hc20 => ?_)
            have hF21 := FrC_tr FrC_rf (FrC_I hk19 (by decide))
            have hc22 := (hk19.2 0 (by decide)).trans hc4
            have hA23 := AH_fr hS.1 hk19 (by decide) (by decide)
            refine di_aload_n rfl rfl ?_
            refine dr_getf rfl hc22 rfl ?_
            refine dr_iload_n rfl rfl ?_
            refine pfX rfl hc20 (Nat.le_of_ble_eq_true rfl) rfl hI18 (by decide) (T37_part (by omega) (by omega) (by omega)) (fun h24 hI25 hk26 hc27 => ?_)
            have hF28 := FrC_tr hF21 (FrC_I hk26 (by decide))
            have hc29 := (hk26.2 0 (by decide)).trans hc22
            have hA30 := AH_fr hA23 hk26 (by decide) (by decide)
            refine di_aload_n rfl rfl ?_
            refine dr_getf rfl hc29 rfl ?_
            refine dr_iload_n rfl rfl ?_
            refine pfX rfl hc27 (Nat.le_of_ble_eq_true rfl) rfl hI25 (by decide) (T37_part (by omega) (by omega) (by omega)) (fun h31 hI32 hk33 hc34 => ?_)
            have hF35 := FrC_tr hF28 (FrC_I hk33 (by decide))
            have hc36 := (hk33.2 0 (by decide)).trans hc29
            have hA37 := AH_fr hA30 hk33 (by decide) (by decide)
            have hS38 : CSt B (stP σ a1 a2 a3) h31 := ⟨hA37, hc34, ⟨(show -1 ≤ a1 by omega), (show a1 ≤ 2 by omega)⟩, ⟨(show -1 ≤ a2 by omega), (show a2 ≤ 99 by omega)⟩, ⟨(show -1 ≤ a3 by omega), (show a3 ≤ 99 by omega)⟩, (fun (e1 : 0 ≤ a2) (e2 : 0 ≤ a3) => (show a2 ≤ a3 by omega))⟩
            refine di_aload_n rfl rfl ?_
            refine dr_getf rfl hc36 rfl ?_
            refine di_aload rfl rfl ?_
            have pr39 := hS38.2
            obtain ⟨pr39a, pr39b, pr39c, pr39d⟩ := pr39
            obtain ⟨s40, m41, u42, w43, hc44, hr45, ht46, ma47, mb48⟩ := CSt_bk hS38 (k := a1) q8 q10 q7
            have sq49 : 0 ≤ s40 ∧ s40 ≤ 8 := ⟨hc44.2.2.2.2.2.1, hc44.2.2.2.2.2.2.1⟩
            have hz50 : zF ((stP σ a1 a2 a3).1 a1) = s40 := zF_eq hr45
            refine dr_virt rfl rfl rfl rfl pr39a (f_X4_countIn l hl hI32 hS38 (by omega) q6 q8 q10 q7 hc44 hr45 ht46 ma47 mb48) (by decide) (by decide) (by decide) (Nat.le_of_ble_eq_true rfl) kNP (kIP (fun y51 y51f y51a y51b => ?_))
            obtain ⟨y51c, y51d, y51k⟩ := y51f
            have y51z : y51 = nP (stP σ a1 a2 a3) := y51k
            subst y51z
            exact dr_iret (ty := .int) rfl rfl rfl (by decide) (by decide) (QX_ok hI32 hF35 hS38 (by omega) (by unfold spPart; (repeat' split) <;> first | rfl | (exfalso; omega) | (apply Prod.ext <;> first | rfl | (dsimp only; omega) | (apply Prod.ext <;> first | rfl | (dsimp only; omega)))))
          · skip
            refine dr_iload_n rfl rfl ?_
            refine di_const rfl ?_
            refine di_icmp_eq rfl rfl (by omega) (by omega) (by omega) (by omega) (fun c52 => ?_) (fun c52 => ?_)
            · skip
              refine di_aload_n rfl rfl ?_
              refine dr_getf rfl hc4 rfl ?_
              refine dr_iload_n rfl rfl ?_
              have pr53 := hS.2
              obtain ⟨pr53a, pr53b, pr53c, pr53d⟩ := pr53
              refine pfX rfl pr53a (Nat.le_of_ble_eq_true rfl) rfl hI (by decide) (T37_part (by omega) (by omega) (by omega)) (fun h54 hI55 hk56 hc57 => ?_)
              have hF58 := FrC_tr FrC_rf (FrC_I hk56 (by decide))
              have hc59 := (hk56.2 0 (by decide)).trans hc4
              have hA60 := AH_fr hS.1 hk56 (by decide) (by decide)
              refine di_aload_n rfl rfl ?_
              refine dr_getf rfl hc59 rfl ?_
              refine dr_iload_n rfl rfl ?_
              refine pfX rfl hc57 (Nat.le_of_ble_eq_true rfl) rfl hI55 (by decide) (T37_part (by omega) (by omega) (by omega)) (fun h61 hI62 hk63 hc64 => ?_)
              have hF65 := FrC_tr hF58 (FrC_I hk63 (by decide))
              have hc66 := (hk63.2 0 (by decide)).trans hc59
              have hA67 := AH_fr hA60 hk63 (by decide) (by decide)
              refine di_aload_n rfl rfl ?_
              refine dr_getf rfl hc66 rfl ?_
              refine dr_iload_n rfl rfl ?_
              refine pfX rfl hc64 (Nat.le_of_ble_eq_true rfl) rfl hI62 (by decide) (T37_part (by omega) (by omega) (by omega)) (fun h68 hI69 hk70 hc71 => ?_)
              have hF72 := FrC_tr hF65 (FrC_I hk70 (by decide))
              have hc73 := (hk70.2 0 (by decide)).trans hc66
              have hA74 := AH_fr hA67 hk70 (by decide) (by decide)
              have hS75 : CSt B (stP σ a1 a2 a3) h68 := ⟨hA74, hc71, ⟨(show -1 ≤ a1 by omega), (show a1 ≤ 2 by omega)⟩, ⟨(show -1 ≤ a2 by omega), (show a2 ≤ 99 by omega)⟩, ⟨(show -1 ≤ a3 by omega), (show a3 ≤ 99 by omega)⟩, (fun (e1 : 0 ≤ a2) (e2 : 0 ≤ a3) => (show a2 ≤ a3 by omega))⟩
              refine di_aload_n rfl rfl ?_
              refine dr_getf rfl hc73 rfl ?_
              refine di_aload rfl rfl ?_
              have pr76 := hS75.2
              obtain ⟨pr76a, pr76b, pr76c, pr76d⟩ := pr76
              obtain ⟨s77, m78, u79, w80, hc81, hr82, ht83, ma84, mb85⟩ := CSt_bk hS75 (k := a1) q8 q10 q7
              have sq86 : 0 ≤ s77 ∧ s77 ≤ 8 := ⟨hc81.2.2.2.2.2.1, hc81.2.2.2.2.2.2.1⟩
              have hz87 : zF ((stP σ a1 a2 a3).1 a1) = s77 := zF_eq hr82
              refine dr_virt rfl rfl rfl rfl pr76a (f_X4_countIn l hl hI69 hS75 (by omega) q6 q8 q10 q7 hc81 hr82 ht83 ma84 mb85) (by decide) (by decide) (by decide) (Nat.le_of_ble_eq_true rfl) kNP (kIP (fun y88 y88f y88a y88b => ?_))
              obtain ⟨y88c, y88d, y88k⟩ := y88f
              have y88z : y88 = nP (stP σ a1 a2 a3) := y88k
              subst y88z
              exact dr_iret (ty := .int) rfl rfl rfl (by decide) (by decide) (QX_ok hI69 hF72 hS75 (by omega) (by unfold spPart; (repeat' split) <;> first | rfl | (exfalso; omega) | (apply Prod.ext <;> first | rfl | (dsimp only; omega) | (apply Prod.ext <;> first | rfl | (dsimp only; omega)))))
            · skip
              refine dr_iload_n rfl rfl ?_
              refine dr_iload_n rfl rfl ?_
              refine di_icmp_le rfl rfl (by omega) (by omega) (by omega) (by omega) (fun c89 => ?_) (fun c89 => ?_)
              · skip
                refine di_aload_n rfl rfl ?_
                refine dr_getf rfl hc4 rfl ?_
                refine dr_iload_n rfl rfl ?_
                have pr90 := hS.2
                obtain ⟨pr90a, pr90b, pr90c, pr90d⟩ := pr90
                refine pfX rfl pr90a (Nat.le_of_ble_eq_true rfl) rfl hI (by decide) (T37_part (by omega) (by omega) (by omega)) (fun h91 hI92 hk93 hc94 => ?_)
                have hF95 := FrC_tr FrC_rf (FrC_I hk93 (by decide))
                have hc96 := (hk93.2 0 (by decide)).trans hc4
                have hA97 := AH_fr hS.1 hk93 (by decide) (by decide)
                refine di_aload_n rfl rfl ?_
                refine dr_getf rfl hc96 rfl ?_
                refine dr_iload_n rfl rfl ?_
                refine pfX rfl hc94 (Nat.le_of_ble_eq_true rfl) rfl hI92 (by decide) (T37_part (by omega) (by omega) (by omega)) (fun h98 hI99 hk100 hc101 => ?_)
                have hF102 := FrC_tr hF95 (FrC_I hk100 (by decide))
                have hc103 := (hk100.2 0 (by decide)).trans hc96
                have hA104 := AH_fr hA97 hk100 (by decide) (by decide)
                refine di_aload_n rfl rfl ?_
                refine dr_getf rfl hc103 rfl ?_
                refine dr_iload_n rfl rfl ?_
                refine pfX rfl hc101 (Nat.le_of_ble_eq_true rfl) rfl hI99 (by decide) (T37_part (by omega) (by omega) (by omega)) (fun h105 hI106 hk107 hc108 => ?_)
                have hF109 := FrC_tr hF102 (FrC_I hk107 (by decide))
                have hc110 := (hk107.2 0 (by decide)).trans hc103
                have hA111 := AH_fr hA104 hk107 (by decide) (by decide)
                have hS112 : CSt B (stP σ a1 a2 a3) h105 := ⟨hA111, hc108, ⟨(show -1 ≤ a1 by omega), (show a1 ≤ 2 by omega)⟩, ⟨(show -1 ≤ a2 by omega), (show a2 ≤ 99 by omega)⟩, ⟨(show -1 ≤ a3 by omega), (show a3 ≤ 99 by omega)⟩, (fun (e1 : 0 ≤ a2) (e2 : 0 ≤ a3) => (show a2 ≤ a3 by omega))⟩
                refine di_aload_n rfl rfl ?_
                refine dr_getf rfl hc110 rfl ?_
                refine di_aload rfl rfl ?_
                have pr113 := hS112.2
                obtain ⟨pr113a, pr113b, pr113c, pr113d⟩ := pr113
                obtain ⟨s114, m115, u116, w117, hc118, hr119, ht120, ma121, mb122⟩ := CSt_bk hS112 (k := a1) q8 q10 q7
                have sq123 : 0 ≤ s114 ∧ s114 ≤ 8 := ⟨hc118.2.2.2.2.2.1, hc118.2.2.2.2.2.2.1⟩
                have hz124 : zF ((stP σ a1 a2 a3).1 a1) = s114 := zF_eq hr119
                refine dr_virt rfl rfl rfl rfl pr113a (f_X4_countIn l hl hI106 hS112 (by omega) q6 q8 q10 q7 hc118 hr119 ht120 ma121 mb122) (by decide) (by decide) (by decide) (Nat.le_of_ble_eq_true rfl) kNP (kIP (fun y125 y125f y125a y125b => ?_))
                obtain ⟨y125c, y125d, y125k⟩ := y125f
                have y125z : y125 = nP (stP σ a1 a2 a3) := y125k
                subst y125z
                exact dr_iret (ty := .int) rfl rfl rfl (by decide) (by decide) (QX_ok hI106 hF109 hS112 (by omega) (by unfold spPart; (repeat' split) <;> first | rfl | (exfalso; omega) | (apply Prod.ext <;> first | rfl | (dsimp only; omega) | (apply Prod.ext <;> first | rfl | (dsimp only; omega)))))
              · skip
                exact dr_throw rfl (by decide) rfl (by decide) (by decide) (by decide) (Nat.le_of_ble_eq_true rfl) (QX_2 (a := 0) hI FrC_rf hS (by omega) (by unfold spPart; (repeat' split) <;> first | rfl | (exfalso; omega) | (apply Prod.ext <;> first | rfl | (dsimp only; omega) | (apply Prod.ext <;> first | rfl | (dsimp only; omega)))))
        · skip
          exact dr_throw rfl (by decide) rfl (by decide) (by decide) (by decide) (Nat.le_of_ble_eq_true rfl) (QX_2 (a := 0) hI FrC_rf hS (by omega) (by unfold spPart; (repeat' split) <;> first | rfl | (exfalso; omega) | (apply Prod.ext <;> first | rfl | (dsimp only; omega) | (apply Prod.ext <;> first | rfl | (dsimp only; omega)))))
set_option maxHeartbeats 4000000 in
set_option maxRecDepth 100000 in
/-- Earlyends.narrow -/
theorem c_X6_narrow (l : Launch) (hl : l.stackTraces = false) {kc km : Int} {h : dm_H} (hI : Inv kc km h) {B : Int} {σ : St} (hS : CSt B σ h) (hB : B ≤ 80000) {a1 : Int} (h1a : -2147483648 ≤ a1) (h1b : a1 ≤ 2147483647) {a2 : Int} (h2a : -2147483648 ≤ a2) (h2b : a2 ≤ 2147483647) : dm_M l 69 6 8 48 [.ref 0, dI (a1), dI (a2)] h (QX kc km h (B + 20) XA XS (spNarrow σ a1 a2)) := by
  refine dm_M_of dk_69 hl rfl (Nat.le_of_ble_eq_true rfl) ?_
  show dm_W (fun _ _ _ => True) (dm_P (QX kc km h (B + 20) XA XS (spNarrow σ a1 a2)) 8 48) l 69 6 8 48 0 [some (.ref 0), some (dI (a1)), some (dI (a2)), none] [] h 0 0
  refine dr_iload_n rfl rfl ?_
  refine dr_iload_n rfl rfl ?_
  refine dr_stat rfl rfl rfl rfl (f_X6_needStretch l hl hI (a0 := a1) (by omega) (by omega) (a1 := a2) (by omega) (by omega)) (by decide) (by decide) (by decide) (Nat.le_of_ble_eq_true rfl) (fun Y h9 q9 => by obtain ⟨rfl, rfl, hC⟩ := q9; exact dr_out rfl (by decide) (by decide) (QX_1 (a := 0) hI FrC_rf hS (by omega) (by unfold spNarrow; (repeat' split) <;> first | rfl | (exfalso; omega) | (apply Prod.ext <;> first | rfl | (dsimp only; omega) | (apply Prod.ext <;> first | rfl | (dsimp only; omega)))))) (kPXV (fun q1 => ?_))
  refine di_aload_n rfl rfl ?_
  obtain ⟨r2, c3, c4, hc5⟩ := I_cls hI
  refine dr_virt rfl rfl rfl rfl hc5 (f_X6_bookOfPart l hl hI hS (by omega)) (by decide) (by decide) (by decide) (Nat.le_of_ble_eq_true rfl) (fun Y h9 q9 => by obtain ⟨rfl, rfl, hC⟩ := q9; exact dr_out rfl (by decide) (by decide) (QX_2 (a := 0) hI FrC_rf hS (by omega) (by unfold spNarrow; (repeat' split) <;> first | rfl | (exfalso; omega) | (apply Prod.ext <;> first | rfl | (dsimp only; omega) | (apply Prod.ext <;> first | rfl | (dsimp only; omega)))))) (kPXR (fun r6 ⟨q7, q8, q10, q11⟩ => ?_))
  refine di_astore_n (ls2 := [some (.ref 0), some (dI (a1)), some (dI (a2)), some (.ref r6)]) rfl rfl rfl ?_
  refine di_aload_n rfl rfl ?_
  refine dr_getf rfl hc5 rfl ?_
  refine dr_iload_n rfl rfl ?_
  have pr12 := hS.2
  obtain ⟨pr12a, pr12b, pr12c, pr12d⟩ := pr12
  refine dr_virt rfl rfl rfl rfl pr12a (f_X4_isWithin l hl hI hS (by omega) (a1 := a1) (by omega) (by omega)) (by decide) (by decide) (by decide) (Nat.le_of_ble_eq_true rfl) kNP (kIP (fun y13 y13f y13a y13b => ?_))
  obtain ⟨y13c, y13d, y13e, y13g⟩ := y13f
  refine di_if_eq rfl rfl (by omega) (by omega) (fun c14 => ?_) (fun c14 => ?_)
  · skip
    refine di_aload_n rfl rfl ?_
    refine dr_virt rfl rfl rfl rfl hc5 (c_X6_refuse l hl hI hS (by omega)) (by decide) (by decide) (by decide) (Nat.le_of_ble_eq_true rfl) kQCN (kQC (fun h15 hI16 hF17 hS18 => ?_))
    have hF19 := hF17
    exact dr_iret (ty := .int) rfl rfl rfl (by decide) (by decide) (QX_ok hI16 hF19 hS18 (by omega) (by unfold spNarrow; (repeat' split) <;> first | rfl | (exfalso; omega) | (apply Prod.ext <;> first | rfl | (dsimp only; omega) | (apply Prod.ext <;> first | rfl | (dsimp only; omega)))))
  · skip
    refine di_aload_n rfl rfl ?_
    refine dr_getf rfl hc5 rfl ?_
    refine dr_iload_n rfl rfl ?_
    refine dr_virt rfl rfl rfl rfl pr12a (f_X4_isWithin l hl hI hS (by omega) (a1 := a2) (by omega) (by omega)) (by decide) (by decide) (by decide) (Nat.le_of_ble_eq_true rfl) kNP (kIP (fun y20 y20f y20a y20b => ?_))
    obtain ⟨y20c, y20d, y20e, y20g⟩ := y20f
    refine di_if_ne rfl rfl (by omega) (by omega) (fun c21 => ?_) (fun c21 => ?_)
    · skip
      refine di_aload_n rfl rfl ?_
      refine dr_getf rfl hc5 rfl ?_
      refine dr_iload_n rfl rfl ?_
      refine pfX rfl pr12a (Nat.le_of_ble_eq_true rfl) rfl hI (by decide) (T37_part (by omega) (by omega) (by omega)) (fun h22 hI23 hk24 hc25 => ?_)
      have hF26 := FrC_tr FrC_rf (FrC_I hk24 (by decide))
      have hc27 := (hk24.2 0 (by decide)).trans hc5
      have hA28 := AH_fr hS.1 hk24 (by decide) (by decide)
      refine di_aload_n rfl rfl ?_
      refine dr_getf rfl hc27 rfl ?_
      refine dr_iload_n rfl rfl ?_
      refine pfX rfl hc25 (Nat.le_of_ble_eq_true rfl) rfl hI23 (by decide) (T37_part (by omega) (by omega) (by omega)) (fun h29 hI30 hk31 hc32 => ?_)
      have hF33 := FrC_tr hF26 (FrC_I hk31 (by decide))
      have hc34 := (hk31.2 0 (by decide)).trans hc27
      have hA35 := AH_fr hA28 hk31 (by decide) (by decide)
      have hS36 : CSt B (stP σ σ.2.1.1 a1 a2) h29 := ⟨hA35, hc32, ⟨(show -1 ≤ σ.2.1.1 by omega), (show σ.2.1.1 ≤ 2 by omega)⟩, ⟨(show -1 ≤ a1 by omega), (show a1 ≤ 99 by omega)⟩, ⟨(show -1 ≤ a2 by omega), (show a2 ≤ 99 by omega)⟩, (fun (e1 : 0 ≤ a1) (e2 : 0 ≤ a2) => (show a1 ≤ a2 by omega))⟩
      refine di_aload_n rfl rfl ?_
      refine dr_getf rfl hc34 rfl ?_
      refine di_aload_n rfl rfl ?_
      have pr37 := hS36.2
      obtain ⟨pr37a, pr37b, pr37c, pr37d⟩ := pr37
      obtain ⟨s38, m39, u40, w41, hc42, hr43, ht44, ma45, mb46⟩ := CSt_bk hS36 (k := σ.2.1.1) q10 q11 q8
      have sq47 : 0 ≤ s38 ∧ s38 ≤ 8 := ⟨hc42.2.2.2.2.2.1, hc42.2.2.2.2.2.2.1⟩
      have hz48 : zF ((stP σ σ.2.1.1 a1 a2).1 σ.2.1.1) = s38 := zF_eq hr43
      refine dr_virt rfl rfl rfl rfl pr37a (f_X4_countIn l hl hI30 hS36 (by omega) q7 q10 q11 q8 hc42 hr43 ht44 ma45 mb46) (by decide) (by decide) (by decide) (Nat.le_of_ble_eq_true rfl) kNP (kIP (fun y49 y49f y49a y49b => ?_))
      obtain ⟨y49c, y49d, y49k⟩ := y49f
      have y49z : y49 = nP (stP σ σ.2.1.1 a1 a2) := y49k
      subst y49z
      exact dr_iret (ty := .int) rfl rfl rfl (by decide) (by decide) (QX_ok hI30 hF33 hS36 (by omega) (by unfold spNarrow; (repeat' split) <;> first | rfl | (exfalso; omega) | (apply Prod.ext <;> first | rfl | (dsimp only; omega) | (apply Prod.ext <;> first | rfl | (dsimp only; omega)))))
    · skip
      refine di_aload_n rfl rfl ?_
      refine dr_virt rfl rfl rfl rfl hc5 (c_X6_refuse l hl hI hS (by omega)) (by decide) (by decide) (by decide) (Nat.le_of_ble_eq_true rfl) kQCN (kQC (fun h50 hI51 hF52 hS53 => ?_))
      have hF54 := hF52
      exact dr_iret (ty := .int) rfl rfl rfl (by decide) (by decide) (QX_ok hI51 hF54 hS53 (by omega) (by unfold spNarrow; (repeat' split) <;> first | rfl | (exfalso; omega) | (apply Prod.ext <;> first | rfl | (dsimp only; omega) | (apply Prod.ext <;> first | rfl | (dsimp only; omega)))))
set_option maxHeartbeats 4000000 in
set_option maxRecDepth 100000 in
/-- Earlyends.copy -/
theorem c_X6_copy (l : Launch) (hl : l.stackTraces = false) {kc km : Int} {h : dm_H} (hI : Inv kc km h) {B : Int} {σ : St} (hS : CSt B σ h) (hB : B ≤ 80000) {a1 : Int} (h1a : -2147483648 ≤ a1) (h1b : a1 ≤ 2147483647) {a2 : Int} (h2a : -2147483648 ≤ a2) (h2b : a2 ≤ 2147483647) : dm_M l 66 6 8 48 [.ref 0, dI (a1), dI (a2)] h (QX kc km h (B + 20) XB XA (spCopy σ a1 a2)) := by
  refine dm_M_of dk_66 hl rfl (Nat.le_of_ble_eq_true rfl) ?_
  show dm_W (fun _ _ _ => True) (dm_P (QX kc km h (B + 20) XB XA (spCopy σ a1 a2)) 8 48) l 66 6 8 48 0 [some (.ref 0), some (dI (a1)), some (dI (a2)), none, none] [] h 0 0
  refine di_aload_n rfl rfl ?_
  refine dr_iload_n rfl rfl ?_
  obtain ⟨r1, c2, c3, hc4⟩ := I_cls hI
  refine dr_virt rfl rfl rfl rfl hc4 (f_X6_bookAt l hl hI (a1 := a1) (by omega) (by omega)) (by decide) (by decide) (by decide) (Nat.le_of_ble_eq_true rfl) (fun Y h9 q9 => by obtain ⟨rfl, rfl, hC⟩ := q9; exact dr_out rfl (by decide) (by decide) (QX_1 (a := 0) hI FrC_rf hS (by omega) (by unfold spCopy; (repeat' split) <;> first | rfl | (exfalso; omega) | (apply Prod.ext <;> first | rfl | (dsimp only; omega) | (apply Prod.ext <;> first | rfl | (dsimp only; omega)))))) (kPXR (fun r5 ⟨q6, q7, q8, q10⟩ => ?_))
  refine di_astore_n (ls2 := [some (.ref 0), some (dI (a1)), some (dI (a2)), some (.ref r5), none]) rfl rfl rfl ?_
  refine di_aload_n rfl rfl ?_
  refine dr_iload_n rfl rfl ?_
  refine dr_virt rfl rfl rfl rfl hc4 (f_X6_bookAt l hl hI (a1 := a2) (by omega) (by omega)) (by decide) (by decide) (by decide) (Nat.le_of_ble_eq_true rfl) (fun Y h9 q9 => by obtain ⟨rfl, rfl, hC⟩ := q9; exact dr_out rfl (by decide) (by decide) (QX_1 (a := 0) hI FrC_rf hS (by omega) (by unfold spCopy; (repeat' split) <;> first | rfl | (exfalso; omega) | (apply Prod.ext <;> first | rfl | (dsimp only; omega) | (apply Prod.ext <;> first | rfl | (dsimp only; omega)))))) (kPXR (fun r11 ⟨q12, q13, q14, q15⟩ => ?_))
  refine di_astore (ls2 := [some (.ref 0), some (dI (a1)), some (dI (a2)), some (.ref r5), some (.ref r11)]) rfl rfl rfl ?_
  refine di_aload_n rfl rfl ?_
  refine di_aload rfl rfl ?_
  obtain ⟨s16, m17, u18, w19, hc20, hr21, ht22, ma23, mb24⟩ := CSt_bk hS (k := a1) q8 q10 q7
  have sq25 : 0 ≤ s16 ∧ s16 ≤ 8 := ⟨hc20.2.2.2.2.2.1, hc20.2.2.2.2.2.2.1⟩
  have hz26 : zF (σ.1 a1) = s16 := zF_eq hr21
  obtain ⟨s27, m28, u29, w30, hc31, hr32, ht33, ma34, mb35⟩ := CSt_bk hS (k := a2) q14 q15 q13
  have sq36 : 0 ≤ s27 ∧ s27 ≤ 8 := ⟨hc31.2.2.2.2.2.1, hc31.2.2.2.2.2.2.1⟩
  have hz37 : zF (σ.1 a2) = s27 := zF_eq hr32
  refine dr_virt rfl rfl rfl rfl hc20.1 (c_cpy hl hI hS (by omega) q8 q10 q7 q6 hc20 mb24 q13 q12 hc31 hr32 ht33) (by decide) (by decide) (by decide) (Nat.le_of_ble_eq_true rfl) kQCVN (kQCV (fun h38 hI39 hF40 hS41 => ?_))
  have hF42 := hF40
  refine di_aload_n rfl rfl ?_
  obtain ⟨r43, c44, c45, hc46⟩ := I_cls hI39
  refine dr_getf rfl hc46 rfl ?_
  have pr47 := hS41.2
  obtain ⟨pr47a, pr47b, pr47c, pr47d⟩ := pr47
  refine dr_getf rfl pr47a rfl ?_
  refine dr_iload_n rfl rfl ?_
  refine di_icmp_ne rfl rfl (by omega) (by omega) (by omega) (by omega) (fun c48 => ?_) (fun c48 => ?_)
  · skip
    refine di_aload_n rfl rfl ?_
    obtain ⟨s49, m50, u51, w52, hc53, hr54, ht55, ma56, mb57⟩ := CSt_bk hS41 (k := a1) q8 q10 q7
    have sq58 : 0 ≤ s49 ∧ s49 ≤ 8 := ⟨hc53.2.2.2.2.2.1, hc53.2.2.2.2.2.2.1⟩
    have hz59 : zF ((stM σ a1 (σ.1 a2)).1 a1) = s49 := zF_eq hr54
    refine dr_virt rfl rfl rfl rfl hc53.1 (f_X0_count l hl hI39 q6 hc53 ) (by decide) (by decide) (by decide) (Nat.le_of_ble_eq_true rfl) kNP (kIP (fun y60 y60f y60a y60b => ?_))
    obtain ⟨y60c, y60d, y60e⟩ := y60f
    have y60e2 := y60e.symm
    subst y60e2
    have hpb9 : (stM σ a1 (σ.1 a2)).2.1.1 = σ.2.1.1 := rfl
    have hz9 : zF (σ.1 a2) = s49 := zF_eq (by have q9 := hr54; first | (rw [stM_s] at q9; exact q9) | (have q8 : Rep _ _ _ ((stM σ a1 (σ.1 a2)).1 a1) := q9; rw [stM_s] at q8; exact q8))
    exact dr_iret (ty := .int) rfl rfl rfl (by decide) (by decide) (QX_ok hI39 hF42 hS41 (by omega) (by unfold spCopy; (repeat' split) <;> first | rfl | (exfalso; omega) | (apply Prod.ext <;> first | rfl | (dsimp only; omega) | (apply Prod.ext <;> first | rfl | (dsimp only; omega)))))
  · skip
    refine di_aload_n rfl rfl ?_
    refine dr_getf rfl hc46 rfl ?_
    refine di_const rfl ?_
    refine pfX rfl pr47a (Nat.le_of_ble_eq_true rfl) rfl hI39 (by decide) (T37_part (by omega) (by omega) (by omega)) (fun h61 hI62 hk63 hc64 => ?_)
    have hF65 := FrC_tr hF42 (FrC_I hk63 (by decide))
    have hc66 := (hk63.2 0 (by decide)).trans hc46
    have hA67 := AH_fr hS41.1 hk63 (by decide) (by decide)
    have hS68 : CSt (B + 1) (stP (stM σ a1 (σ.1 a2)) (-1) ((stM σ a1 (σ.1 a2)).2.1.2.1) ((stM σ a1 (σ.1 a2)).2.1.2.2)) h61 := ⟨hA67, hc64, ⟨(show -1 ≤ (-1) by omega), (show (-1) ≤ 2 by omega)⟩, ⟨(show -1 ≤ ((stM σ a1 (σ.1 a2)).2.1.2.1) by omega), (show ((stM σ a1 (σ.1 a2)).2.1.2.1) ≤ 99 by omega)⟩, ⟨(show -1 ≤ ((stM σ a1 (σ.1 a2)).2.1.2.2) by omega), (show ((stM σ a1 (σ.1 a2)).2.1.2.2) ≤ 99 by omega)⟩, (fun (e1 : 0 ≤ ((stM σ a1 (σ.1 a2)).2.1.2.1)) (e2 : 0 ≤ ((stM σ a1 (σ.1 a2)).2.1.2.2)) => (show ((stM σ a1 (σ.1 a2)).2.1.2.1) ≤ ((stM σ a1 (σ.1 a2)).2.1.2.2) by omega))⟩
    refine di_aload_n rfl rfl ?_
    obtain ⟨s69, m70, u71, w72, hc73, hr74, ht75, ma76, mb77⟩ := CSt_bk hS68 (k := a1) q8 q10 q7
    have sq78 : 0 ≤ s69 ∧ s69 ≤ 8 := ⟨hc73.2.2.2.2.2.1, hc73.2.2.2.2.2.2.1⟩
    have hz79 : zF ((stP (stM σ a1 (σ.1 a2)) (-1) ((stM σ a1 (σ.1 a2)).2.1.2.1) ((stM σ a1 (σ.1 a2)).2.1.2.2)).1 a1) = s69 := zF_eq hr74
    refine dr_virt rfl rfl rfl rfl hc73.1 (f_X0_count l hl hI62 q6 hc73 ) (by decide) (by decide) (by decide) (Nat.le_of_ble_eq_true rfl) kNP (kIP (fun y80 y80f y80a y80b => ?_))
    obtain ⟨y80c, y80d, y80e⟩ := y80f
    have y80e2 := y80e.symm
    subst y80e2
    have hpb9 : (stM σ a1 (σ.1 a2)).2.1.1 = σ.2.1.1 := rfl
    have hz9 : zF (σ.1 a2) = s69 := zF_eq (by have q9 := hr74; first | (rw [stM_s] at q9; exact q9) | (have q8 : Rep _ _ _ ((stM σ a1 (σ.1 a2)).1 a1) := q9; rw [stM_s] at q8; exact q8))
    exact dr_iret (ty := .int) rfl rfl rfl (by decide) (by decide) (QX_ok hI62 hF65 hS68 (by omega) (by unfold spCopy; (repeat' split) <;> first | rfl | (exfalso; omega) | (apply Prod.ext <;> first | rfl | (dsimp only; omega) | (apply Prod.ext <;> first | rfl | (dsimp only; omega)))))
set_option maxHeartbeats 4000000 in
set_option maxRecDepth 100000 in
/-- Earlyends.hand -/
theorem c_X6_hand (l : Launch) (hl : l.stackTraces = false) {kc km : Int} {h : dm_H} (hI : Inv kc km h) {B : Int} {σ : St} (hS : CSt B σ h) (hB : B ≤ 80000) {a1 : Int} (h1a : -2147483648 ≤ a1) (h1b : a1 ≤ 2147483647) : dm_M l 76 6 8 48 [.ref 0, dI (a1)] h (QX kc km h (B + 20) XB XA (spHand σ a1)) := by
  refine dm_M_of dk_76 hl rfl (Nat.le_of_ble_eq_true rfl) ?_
  show dm_W (fun _ _ _ => True) (dm_P (QX kc km h (B + 20) XB XA (spHand σ a1)) 8 48) l 76 6 8 48 0 [some (.ref 0), some (dI (a1)), none] [] h 0 0
  refine di_aload_n rfl rfl ?_
  refine dr_iload_n rfl rfl ?_
  obtain ⟨r1, c2, c3, hc4⟩ := I_cls hI
  refine dr_virt rfl rfl rfl rfl hc4 (f_X6_bookAt l hl hI (a1 := a1) (by omega) (by omega)) (by decide) (by decide) (by decide) (Nat.le_of_ble_eq_true rfl) (fun Y h9 q9 => by obtain ⟨rfl, rfl, hC⟩ := q9; exact dr_out rfl (by decide) (by decide) (QX_1 (a := 0) hI FrC_rf hS (by omega) (by unfold spHand; (repeat' split) <;> first | rfl | (exfalso; omega) | (apply Prod.ext <;> first | rfl | (dsimp only; omega) | (apply Prod.ext <;> first | rfl | (dsimp only; omega)))))) (kPXR (fun r5 ⟨q6, q7, q8, q10⟩ => ?_))
  refine di_astore_n (ls2 := [some (.ref 0), some (dI (a1)), some (.ref r5)]) rfl rfl rfl ?_
  obtain ⟨s11, m12, u13, w14, hc15, hr16, ht17, ma18, mb19⟩ := CSt_bk hS (k := a1) q8 q10 q7
  have sq20 : 0 ≤ s11 ∧ s11 ≤ 8 := ⟨hc15.2.2.2.2.2.1, hc15.2.2.2.2.2.2.1⟩
  have hz21 : zF (σ.1 a1) = s11 := zF_eq hr16
  refine di_aload_n rfl rfl ?_
  refine dr_getf rfl hc4 rfl ?_
  refine dr_iload_n rfl rfl ?_
  obtain ⟨mv9, -, snH, nxH, hoH, hg1, hg2, hg3, hg4, hg5, hg6, hg7, hg8, -⟩ := hS.1.1
  refine pfX rfl hg1 (Nat.le_of_ble_eq_true rfl) rfl hI (by decide) (T37_hand (by omega) (by omega) (by omega) (by omega)) (fun h22 hI23 hk24 hc25 => ?_)
  have hF26 := FrC_tr FrC_rf (FrC_I hk24 (by decide))
  have hc27 := (hk24.2 0 (by decide)).trans hc4
  have hc28 := (CA_I hk24 (by decide) (by omega)).mpr hc15
  refine di_aload_n rfl rfl ?_
  refine dr_getf rfl hc27 rfl ?_
  refine di_aload_n rfl rfl ?_
  refine dr_virt rfl rfl rfl rfl hc28.1 (f_X0_moves l hl hI23 q6 hc28 ) (by decide) (by decide) (by decide) (Nat.le_of_ble_eq_true rfl) kNP (kIP (fun y29 y29f y29a y29b => ?_))
  obtain ⟨y29c, y29d, y29e⟩ := y29f
  have y29e2 := y29e.symm
  subst y29e2
  refine pfX rfl hc25 (Nat.le_of_ble_eq_true rfl) rfl hI23 (by decide) (T37_hand (by omega) (by omega) (by omega) (by omega)) (fun h30 hI31 hk32 hc33 => ?_)
  have hF34 := FrC_tr hF26 (FrC_I hk32 (by decide))
  have hc35 := (hk32.2 0 (by decide)).trans hc27
  have hc36 := (CA_I hk32 (by decide) (by omega)).mpr hc28
  refine di_aload_n rfl rfl ?_
  refine dr_getf rfl hc35 rfl ?_
  refine di_const rfl ?_
  refine pfX rfl hc33 (Nat.le_of_ble_eq_true rfl) rfl hI31 (by decide) (T37_hand (by omega) (by omega) (by omega) (by omega)) (fun h37 hI38 hk39 hc40 => ?_)
  have hF41 := FrC_tr hF34 (FrC_I hk39 (by decide))
  have hc42 := (hk39.2 0 (by decide)).trans hc35
  have hc43 := (CA_I hk39 (by decide) (by omega)).mpr hc36
  refine di_aload_n rfl rfl ?_
  refine dr_getf rfl hc42 rfl ?_
  refine di_const rfl ?_
  refine pfX rfl hc40 (Nat.le_of_ble_eq_true rfl) (fit_z (by omega) (by omega)) hI38 (by decide) (T37_hand (by omega) (by omega) (by omega) (by omega)) (fun h44 hI45 hk46 hc47 => ?_)
  have hF48 := FrC_tr hF41 (FrC_I hk46 (by decide))
  have hc49 := (hk46.2 0 (by decide)).trans hc42
  have hc50 := (CA_I hk46 (by decide) (by omega)).mpr hc43
  have hSH : CSt B (stH σ a1 0 (-1) (-1)) h44 := CSt_H hS (FrI_tr (FrI_tr (FrI_tr hk24 hk32) hk39) hk46) q8 q10 q7 hc15 ⟨ma18, mb19⟩ hc47 ⟨by omega, by omega⟩ (Or.inl rfl) ⟨by omega, by omega⟩ ⟨by omega, by omega⟩ ⟨by omega, by omega, fun j j0 j1 => absurd j1 (by omega), fun q => (Rep_at hr16 (j := 0) (by omega) q).1.1⟩ (Or.inl ⟨rfl, rfl⟩)
  refine di_aload_n rfl rfl ?_
  refine dr_virt rfl rfl rfl rfl hc50.1 (f_X0_count l hl hI45 q6 hc50 ) (by decide) (by decide) (by decide) (Nat.le_of_ble_eq_true rfl) kNP (kIP (fun y51 y51f y51a y51b => ?_))
  obtain ⟨y51c, y51d, y51e⟩ := y51f
  have y51e2 := y51e.symm
  subst y51e2
  exact dr_iret (ty := .int) rfl rfl rfl (by decide) (by decide) (QX_ok hI45 hF48 hSH (by omega) (by unfold spHand; (repeat' split) <;> first | rfl | (exfalso; omega) | (apply Prod.ext <;> first | rfl | (dsimp only; omega) | (apply Prod.ext <;> first | rfl | (dsimp only; omega)))))
set_option maxHeartbeats 4000000 in
set_option maxRecDepth 100000 in
/-- Earlyends.next -/
theorem c_X6_next (l : Launch) (hl : l.stackTraces = false) {kc km : Int} {h : dm_H} (hI : Inv kc km h) {B : Int} {σ : St} (hS : CSt B σ h) (hB : B ≤ 80000)  : dm_M l 77 6 8 48 [.ref 0] h (QX kc km h (B + 20) XS XA (spNext σ)) := by
  refine dm_M_of dk_77 hl rfl (Nat.le_of_ble_eq_true rfl) ?_
  show dm_W (fun _ _ _ => True) (dm_P (QX kc km h (B + 20) XS XA (spNext σ)) 8 48) l 77 6 8 48 0 [some (.ref 0), none, none] [] h 0 0
  refine di_aload_n rfl rfl ?_
  obtain ⟨r1, c2, c3, hc4⟩ := I_cls hI
  refine dr_virt rfl rfl rfl rfl hc4 (f_X6_bookOfHand l hl hI hS (by omega)) (by decide) (by decide) (by decide) (Nat.le_of_ble_eq_true rfl) (fun Y h9 q9 => by obtain ⟨rfl, rfl, hC⟩ := q9; exact dr_out rfl (by decide) (by decide) (QX_1 (a := 0) hI FrC_rf hS (by omega) (by unfold spNext; (repeat' split) <;> first | rfl | (exfalso; omega) | (apply Prod.ext <;> first | rfl | (dsimp only; omega) | (apply Prod.ext <;> first | rfl | (dsimp only; omega)))))) (kPXR (fun r5 ⟨q6, q7, q8, q10⟩ => ?_))
  refine di_astore_n (ls2 := [some (.ref 0), some (.ref r5), none]) rfl rfl rfl ?_
  refine di_aload_n rfl rfl ?_
  refine dr_getf rfl hc4 rfl ?_
  refine di_aload_n rfl rfl ?_
  obtain ⟨s11, m12, u13, w14, hc15, hr16, ht17, ma18, mb19⟩ := CSt_bk hS (k := σ.2.2.1) q8 q10 q7
  have sq20 : 0 ≤ s11 ∧ s11 ≤ 8 := ⟨hc15.2.2.2.2.2.1, hc15.2.2.2.2.2.2.1⟩
  have hz21 : zF (σ.1 σ.2.2.1) = s11 := zF_eq hr16
  obtain ⟨snH, nxH, hoH, hg1, hg2, hg3, hg4, hg5, hg6, hg7, hg8, hgx⟩ := hl_mv hS q8 q7 hc15
  refine dr_virt rfl rfl rfl rfl hg1 (f_X2_isLost l hl hI hg1 q6 hc15 (by omega) (by omega)) (by decide) (by decide) (by decide) (Nat.le_of_ble_eq_true rfl) kNP (kIP (fun y22 y22f y22a y22b => ?_))
  obtain ⟨y22c, y22d, y22e, y22g⟩ := y22f
  have hgy : snH = m12 → (blw (cv u13) s11 (σ.2.2.2.2.1 + 1) nxH ∧ σ.2.2.2.1 = 0 ∧ ((hoH = 0 ∧ σ.2.2.2.2.2.1 = -1) ∨ (hoH = 1 ∧ σ.2.2.2.2.2.1 = σ.2.2.2.2.1 ∧ 1 ≤ nxH ∧ cv u13 (nxH - 1) = σ.2.2.2.2.2.1))) := fun q9 => by rcases hgx with ⟨x1, x2⟩ | ⟨x1, x2, x3, x4⟩; exact absurd q9 (by omega); exact ⟨x3, x1, x4⟩
  have hgl : (σ.2.2.2.1 = 1 ∧ snH < m12) ∨ (σ.2.2.2.1 = 0 ∧ snH = m12) := by rcases hgx with ⟨x1, x2⟩ | ⟨x1, x2, x3, x4⟩; exact Or.inl ⟨x1, x2⟩; exact Or.inr ⟨x1, x2⟩
  clear hgx
  refine di_if_eq rfl rfl (by omega) (by omega) (fun c23 => ?_) (fun c23 => ?_)
  · skip
    obtain ⟨hB9, hL9, hO9⟩ := hgy (by omega)
    have hBl := hB9.2.1
    refine di_aload_n rfl rfl ?_
    refine dr_getf rfl hc4 rfl ?_
    refine dr_getf rfl hg1 rfl ?_
    refine di_aload_n rfl rfl ?_
    refine dr_virt rfl rfl rfl rfl hc15.1 (f_X0_count l hl hI q6 hc15 ) (by decide) (by decide) (by decide) (Nat.le_of_ble_eq_true rfl) kNP (kIP (fun y24 y24f y24a y24b => ?_))
    obtain ⟨y24c, y24d, y24e⟩ := y24f
    have y24e2 := y24e.symm
    subst y24e2
    refine di_icmp_lt rfl rfl (by omega) (by omega) (by omega) (by omega) (fun c25 => ?_) (fun c25 => ?_)
    · skip
      refine di_aload_n rfl rfl ?_
      refine di_aload_n rfl rfl ?_
      refine dr_getf rfl hc4 rfl ?_
      refine dr_getf rfl hg1 rfl ?_
      refine dr_virt rfl rfl rfl rfl hc15.1 (f_X0_codeAt l hl hI q6 hc15 (a1 := nxH) (by omega) (by omega)) (by decide) (by decide) (by decide) (Nat.le_of_ble_eq_true rfl) kNP (kIP (fun y26 y26f y26a y26b => ?_))
      obtain ⟨y26c, y26d, y26k, y26k2, y26k3⟩ := y26f
      refine di_istore_n (ls2 := [some (.ref 0), some (.ref r5), some (dI (y26))]) rfl rfl rfl ?_
      have ey9 : y26 = cv u13 nxH := by omega
      have ll9 : sNext σ = cv u13 nxH := nx_yes hr16 ht17 hB9 (by omega)
      have cy9 := (Rep_at hr16 (j := nxH) (by omega) (by omega)).1
      subst ey9
      refine di_aload_n rfl rfl ?_
      refine dr_getf rfl hc4 rfl ?_
      refine dr_dup rfl rfl ?_
      refine dr_getf rfl hg1 rfl ?_
      refine di_const rfl ?_
      refine di_iadd rfl ?_
      refine pfX rfl hg1 (Nat.le_of_ble_eq_true rfl) rfl hI (by decide) (T37_hand (by omega) (by omega) (by omega) (by omega)) (fun h27 hI28 hk29 hc30 => ?_)
      have hF31 := FrC_tr FrC_rf (FrC_I hk29 (by decide))
      have hc32 := (hk29.2 0 (by decide)).trans hc4
      have hc33 := (CA_I hk29 (by decide) (by omega)).mpr hc15
      refine di_aload_n rfl rfl ?_
      refine dr_getf rfl hc32 rfl ?_
      refine di_const rfl ?_
      refine pfX rfl hc30 (Nat.le_of_ble_eq_true rfl) (fit_z (by omega) (by omega)) hI28 (by decide) (T37_hand (by omega) (by omega) (by omega) (by omega)) (fun h34 hI35 hk36 hc37 => ?_)
      have hF38 := FrC_tr hF31 (FrC_I hk36 (by decide))
      have hc39 := (hk36.2 0 (by decide)).trans hc32
      have hc40 := (CA_I hk36 (by decide) (by omega)).mpr hc33
      have hSH : CSt B (stH σ σ.2.2.1 0 (cv u13 nxH) (cv u13 nxH)) h34 := CSt_H hS (FrI_tr hk29 hk36) q8 q10 q7 hc15 ⟨ma18, mb19⟩ (by have q9 := hc37; rw [show snH = m12 by omega] at q9; exact q9) ⟨by omega, by omega⟩ (Or.inr rfl) ⟨by omega, by omega⟩ ⟨by omega, by omega⟩ (nx_up ht17 hB9 (by omega)) (Or.inr ⟨rfl, rfl, by omega, by rw [show nxH + 1 - 1 = nxH by omega]⟩)
      have hSL : stH σ σ.2.2.1 0 (cv u13 nxH) (cv u13 nxH) = stH σ σ.2.2.1 σ.2.2.2.1 (cv u13 nxH) (cv u13 nxH) := by rw [hL9]
      rw [hSL] at hSH
      refine dr_iload_n rfl rfl ?_
      exact dr_iret (ty := .int) rfl rfl rfl (by decide) (by decide) (QX_ok hI35 hF38 hSH (by omega) (by unfold spNext; (try rw [ll9]); (repeat' split) <;> first | rfl | (exfalso; omega) | (apply Prod.ext <;> first | rfl | (dsimp only; omega) | (apply Prod.ext <;> first | rfl | (dsimp only; omega)))))
    · skip
      have ll9 : sNext σ = -1 := nx_no hr16 hB9 (by omega)
      refine di_const rfl ?_
      exact dr_iret (ty := .int) rfl rfl rfl (by decide) (by decide) (QX_ok hI FrC_rf hS (by omega) (by unfold spNext; (try rw [ll9]); (repeat' split) <;> first | rfl | (exfalso; omega) | (apply Prod.ext <;> first | rfl | (dsimp only; omega) | (apply Prod.ext <;> first | rfl | (dsimp only; omega)))))
  · skip
    refine di_aload_n rfl rfl ?_
    refine dr_virt rfl rfl rfl rfl hc4 (c_X6_refuse l hl hI hS (by omega)) (by decide) (by decide) (by decide) (Nat.le_of_ble_eq_true rfl) kQCN (kQC (fun h41 hI42 hF43 hS44 => ?_))
    have hF45 := hF43
    exact dr_iret (ty := .int) rfl rfl rfl (by decide) (by decide) (QX_ok hI42 hF45 hS44 (by omega) (by unfold spNext; (repeat' split) <;> first | rfl | (exfalso; omega) | (apply Prod.ext <;> first | rfl | (dsimp only; omega) | (apply Prod.ext <;> first | rfl | (dsimp only; omega)))))
set_option maxHeartbeats 4000000 in
set_option maxRecDepth 100000 in
/-- Earlyends.renote -/
theorem c_X6_renote (l : Launch) (hl : l.stackTraces = false) {kc km : Int} {h : dm_H} (hI : Inv kc km h) {B : Int} {σ : St} (hS : CSt B σ h) (hB : B ≤ 80000) {a1 : Int} (h1a : -2147483648 ≤ a1) (h1b : a1 ≤ 2147483647) : dm_M l 78 6 8 48 [.ref 0, dI (a1)] h (QX kc km h (B + 20) XA XS (spRenote σ a1)) := by
  refine dm_M_of dk_78 hl rfl (Nat.le_of_ble_eq_true rfl) ?_
  show dm_W (fun _ _ _ => True) (dm_P (QX kc km h (B + 20) XA XS (spRenote σ a1)) 8 48) l 78 6 8 48 0 [some (.ref 0), some (dI (a1)), none] [] h 0 0
  refine dr_iload_n rfl rfl ?_
  refine dr_stat rfl rfl rfl rfl (f_X6_needNote l hl hI (a0 := a1) (by omega) (by omega)) (by decide) (by decide) (by decide) (Nat.le_of_ble_eq_true rfl) (fun Y h9 q9 => by obtain ⟨rfl, rfl, hC⟩ := q9; exact dr_out rfl (by decide) (by decide) (QX_1 (a := 0) hI FrC_rf hS (by omega) (by unfold spRenote; (repeat' split) <;> first | rfl | (exfalso; omega) | (apply Prod.ext <;> first | rfl | (dsimp only; omega) | (apply Prod.ext <;> first | rfl | (dsimp only; omega)))))) (kPXV (fun q1 => ?_))
  refine di_aload_n rfl rfl ?_
  obtain ⟨r2, c3, c4, hc5⟩ := I_cls hI
  refine dr_virt rfl rfl rfl rfl hc5 (f_X6_bookOfHand l hl hI hS (by omega)) (by decide) (by decide) (by decide) (Nat.le_of_ble_eq_true rfl) (fun Y h9 q9 => by obtain ⟨rfl, rfl, hC⟩ := q9; exact dr_out rfl (by decide) (by decide) (QX_2 (a := 0) hI FrC_rf hS (by omega) (by unfold spRenote; (repeat' split) <;> first | rfl | (exfalso; omega) | (apply Prod.ext <;> first | rfl | (dsimp only; omega) | (apply Prod.ext <;> first | rfl | (dsimp only; omega)))))) (kPXR (fun r6 ⟨q7, q8, q10, q11⟩ => ?_))
  refine di_astore_n (ls2 := [some (.ref 0), some (dI (a1)), some (.ref r6)]) rfl rfl rfl ?_
  refine di_aload_n rfl rfl ?_
  refine dr_getf rfl hc5 rfl ?_
  refine di_aload_n rfl rfl ?_
  obtain ⟨s12, m13, u14, w15, hc16, hr17, ht18, ma19, mb20⟩ := CSt_bk hS (k := σ.2.2.1) q10 q11 q8
  have sq21 : 0 ≤ s12 ∧ s12 ≤ 8 := ⟨hc16.2.2.2.2.2.1, hc16.2.2.2.2.2.2.1⟩
  have hz22 : zF (σ.1 σ.2.2.1) = s12 := zF_eq hr17
  obtain ⟨snH, nxH, hoH, hg1, hg2, hg3, hg4, hg5, hg6, hg7, hg8, hgx⟩ := hl_mv hS q10 q8 hc16
  refine dr_virt rfl rfl rfl rfl hg1 (f_X2_isLost l hl hI hg1 q7 hc16 (by omega) (by omega)) (by decide) (by decide) (by decide) (Nat.le_of_ble_eq_true rfl) kNP (kIP (fun y23 y23f y23a y23b => ?_))
  obtain ⟨y23c, y23d, y23e, y23g⟩ := y23f
  have hgy : snH = m13 → (blw (cv u14) s12 (σ.2.2.2.2.1 + 1) nxH ∧ σ.2.2.2.1 = 0 ∧ ((hoH = 0 ∧ σ.2.2.2.2.2.1 = -1) ∨ (hoH = 1 ∧ σ.2.2.2.2.2.1 = σ.2.2.2.2.1 ∧ 1 ≤ nxH ∧ cv u14 (nxH - 1) = σ.2.2.2.2.2.1))) := fun q9 => by rcases hgx with ⟨x1, x2⟩ | ⟨x1, x2, x3, x4⟩; exact absurd q9 (by omega); exact ⟨x3, x1, x4⟩
  have hgl : (σ.2.2.2.1 = 1 ∧ snH < m13) ∨ (σ.2.2.2.1 = 0 ∧ snH = m13) := by rcases hgx with ⟨x1, x2⟩ | ⟨x1, x2, x3, x4⟩; exact Or.inl ⟨x1, x2⟩; exact Or.inr ⟨x1, x2⟩
  clear hgx
  refine di_if_ne rfl rfl (by omega) (by omega) (fun c24 => ?_) (fun c24 => ?_)
  · skip
    have hrf : σ.2.2.2.1 = 1 ∨ σ.2.2.2.2.2.1 = -1 := by rcases hgl with q9 | q9; exact Or.inl q9.1; (obtain ⟨q1, q2, q3⟩ := hgy q9.2; rcases q3 with q3 | q3; exact Or.inr q3.2; exact absurd q3.1 (by omega))
    refine di_aload_n rfl rfl ?_
    refine dr_virt rfl rfl rfl rfl hc5 (c_X6_refuse l hl hI hS (by omega)) (by decide) (by decide) (by decide) (Nat.le_of_ble_eq_true rfl) kQCN (kQC (fun h25 hI26 hF27 hS28 => ?_))
    have hF29 := hF27
    exact dr_iret (ty := .int) rfl rfl rfl (by decide) (by decide) (QX_ok hI26 hF29 hS28 (by omega) (by unfold spRenote; (repeat' split) <;> first | rfl | (exfalso; omega) | (apply Prod.ext <;> first | rfl | (dsimp only; omega) | (apply Prod.ext <;> first | rfl | (dsimp only; omega)))))
  · skip
    refine di_aload_n rfl rfl ?_
    refine dr_getf rfl hc5 rfl ?_
    refine dr_getf rfl hg1 rfl ?_
    refine di_if_ne rfl rfl (by omega) (by omega) (fun c30 => ?_) (fun c30 => ?_)
    · skip
      obtain ⟨hB9, hL9, hO9⟩ := hgy (by omega)
      have hBl := hB9.2.1
      have hO8 : hoH = 1 ∧ σ.2.2.2.2.2.1 = σ.2.2.2.2.1 ∧ 1 ≤ nxH ∧ cv u14 (nxH - 1) = σ.2.2.2.2.2.1 := by rcases hO9 with q9 | q9; exact absurd q9.1 (by omega); exact q9
      obtain ⟨hO1, hO2, hO3, hO4⟩ := hO8
      have cy9 := (Rep_at hr17 (j := nxH - 1) (by omega) (by omega)).1
      have hri9 : 0 ≤ nxH - 1 ∧ nxH - 1 < s12 ∧ cv u14 (nxH - 1) = σ.2.2.2.2.2.1 := ⟨by omega, by omega, hO4⟩
      refine di_aload_n rfl rfl ?_
      refine di_aload_n rfl rfl ?_
      refine dr_getf rfl hc5 rfl ?_
      refine dr_getf rfl hg1 rfl ?_
      refine di_const rfl ?_
      refine di_isub rfl ?_
      refine dr_iload_n rfl rfl ?_
      refine dr_virt rfl rfl rfl rfl hc16.1 (c_swap hl hI hS q10 q11 q8 q7 hc16 hr17 hri9.1 hri9.2.1 hri9.2.2 (x := a1) (by omega) (by omega)) (by decide) (by decide) (by decide) (Nat.le_of_ble_eq_true rfl) kQCN (kQC (fun h31 hI32 hF33 hS34 => ?_))
      have hF35 := hF33
      exact dr_iret (ty := .int) rfl rfl rfl (by decide) (by decide) (QX_ok hI32 hF35 hS34 (by omega) (by unfold spRenote; (repeat' split) <;> first | rfl | (exfalso; omega) | (apply Prod.ext <;> first | rfl | (dsimp only; omega) | (apply Prod.ext <;> first | rfl | (dsimp only; omega)))))
    · skip
      have hrf : σ.2.2.2.1 = 1 ∨ σ.2.2.2.2.2.1 = -1 := by rcases hgl with q9 | q9; exact Or.inl q9.1; (obtain ⟨q1, q2, q3⟩ := hgy q9.2; rcases q3 with q3 | q3; exact Or.inr q3.2; exact absurd q3.1 (by omega))
      refine di_aload_n rfl rfl ?_
      refine dr_virt rfl rfl rfl rfl hc5 (c_X6_refuse l hl hI hS (by omega)) (by decide) (by decide) (by decide) (Nat.le_of_ble_eq_true rfl) kQCN (kQC (fun h36 hI37 hF38 hS39 => ?_))
      have hF40 := hF38
      exact dr_iret (ty := .int) rfl rfl rfl (by decide) (by decide) (QX_ok hI37 hF40 hS39 (by omega) (by unfold spRenote; (repeat' split) <;> first | rfl | (exfalso; omega) | (apply Prod.ext <;> first | rfl | (dsimp only; omega) | (apply Prod.ext <;> first | rfl | (dsimp only; omega)))))
set_option maxHeartbeats 4000000 in
set_option maxRecDepth 100000 in
/-- Earlyends.takeOut -/
theorem c_X6_takeOut (l : Launch) (hl : l.stackTraces = false) {kc km : Int} {h : dm_H} (hI : Inv kc km h) {B : Int} {σ : St} (hS : CSt B σ h) (hB : B ≤ 80000)  : dm_M l 79 6 8 48 [.ref 0] h (QX kc km h (B + 20) XS XA (spTakeOut σ)) := by
  refine dm_M_of dk_79 hl rfl (Nat.le_of_ble_eq_true rfl) ?_
  show dm_W (fun _ _ _ => True) (dm_P (QX kc km h (B + 20) XS XA (spTakeOut σ)) 8 48) l 79 6 8 48 0 [some (.ref 0), none] [] h 0 0
  refine di_aload_n rfl rfl ?_
  obtain ⟨r1, c2, c3, hc4⟩ := I_cls hI
  refine dr_virt rfl rfl rfl rfl hc4 (f_X6_bookOfHand l hl hI hS (by omega)) (by decide) (by decide) (by decide) (Nat.le_of_ble_eq_true rfl) (fun Y h9 q9 => by obtain ⟨rfl, rfl, hC⟩ := q9; exact dr_out rfl (by decide) (by decide) (QX_1 (a := 0) hI FrC_rf hS (by omega) (by unfold spTakeOut; (repeat' split) <;> first | rfl | (exfalso; omega) | (apply Prod.ext <;> first | rfl | (dsimp only; omega) | (apply Prod.ext <;> first | rfl | (dsimp only; omega)))))) (kPXR (fun r5 ⟨q6, q7, q8, q10⟩ => ?_))
  refine di_astore_n (ls2 := [some (.ref 0), some (.ref r5)]) rfl rfl rfl ?_
  refine di_aload_n rfl rfl ?_
  refine dr_getf rfl hc4 rfl ?_
  refine di_aload_n rfl rfl ?_
  obtain ⟨s11, m12, u13, w14, hc15, hr16, ht17, ma18, mb19⟩ := CSt_bk hS (k := σ.2.2.1) q8 q10 q7
  have sq20 : 0 ≤ s11 ∧ s11 ≤ 8 := ⟨hc15.2.2.2.2.2.1, hc15.2.2.2.2.2.2.1⟩
  have hz21 : zF (σ.1 σ.2.2.1) = s11 := zF_eq hr16
  obtain ⟨snH, nxH, hoH, hg1, hg2, hg3, hg4, hg5, hg6, hg7, hg8, hgx⟩ := hl_mv hS q8 q7 hc15
  refine dr_virt rfl rfl rfl rfl hg1 (f_X2_isLost l hl hI hg1 q6 hc15 (by omega) (by omega)) (by decide) (by decide) (by decide) (Nat.le_of_ble_eq_true rfl) kNP (kIP (fun y22 y22f y22a y22b => ?_))
  obtain ⟨y22c, y22d, y22e, y22g⟩ := y22f
  have hgy : snH = m12 → (blw (cv u13) s11 (σ.2.2.2.2.1 + 1) nxH ∧ σ.2.2.2.1 = 0 ∧ ((hoH = 0 ∧ σ.2.2.2.2.2.1 = -1) ∨ (hoH = 1 ∧ σ.2.2.2.2.2.1 = σ.2.2.2.2.1 ∧ 1 ≤ nxH ∧ cv u13 (nxH - 1) = σ.2.2.2.2.2.1))) := fun q9 => by rcases hgx with ⟨x1, x2⟩ | ⟨x1, x2, x3, x4⟩; exact absurd q9 (by omega); exact ⟨x3, x1, x4⟩
  have hgl : (σ.2.2.2.1 = 1 ∧ snH < m12) ∨ (σ.2.2.2.1 = 0 ∧ snH = m12) := by rcases hgx with ⟨x1, x2⟩ | ⟨x1, x2, x3, x4⟩; exact Or.inl ⟨x1, x2⟩; exact Or.inr ⟨x1, x2⟩
  clear hgx
  refine di_if_ne rfl rfl (by omega) (by omega) (fun c23 => ?_) (fun c23 => ?_)
  · skip
    have hrf : σ.2.2.2.1 = 1 ∨ σ.2.2.2.2.2.1 = -1 := by rcases hgl with q9 | q9; exact Or.inl q9.1; (obtain ⟨q1, q2, q3⟩ := hgy q9.2; rcases q3 with q3 | q3; exact Or.inr q3.2; exact absurd q3.1 (by omega))
    refine di_aload_n rfl rfl ?_
    refine dr_virt rfl rfl rfl rfl hc4 (c_X6_refuse l hl hI hS (by omega)) (by decide) (by decide) (by decide) (Nat.le_of_ble_eq_true rfl) kQCN (kQC (fun h24 hI25 hF26 hS27 => ?_))
    have hF28 := hF26
    exact dr_iret (ty := .int) rfl rfl rfl (by decide) (by decide) (QX_ok hI25 hF28 hS27 (by omega) (by unfold spTakeOut; (repeat' split) <;> first | rfl | (exfalso; omega) | (apply Prod.ext <;> first | rfl | (dsimp only; omega) | (apply Prod.ext <;> first | rfl | (dsimp only; omega)))))
  · skip
    refine di_aload_n rfl rfl ?_
    refine dr_getf rfl hc4 rfl ?_
    refine dr_getf rfl hg1 rfl ?_
    refine di_if_ne rfl rfl (by omega) (by omega) (fun c29 => ?_) (fun c29 => ?_)
    · skip
      obtain ⟨hB9, hL9, hO9⟩ := hgy (by omega)
      have hBl := hB9.2.1
      have hO8 : hoH = 1 ∧ σ.2.2.2.2.2.1 = σ.2.2.2.2.1 ∧ 1 ≤ nxH ∧ cv u13 (nxH - 1) = σ.2.2.2.2.2.1 := by rcases hO9 with q9 | q9; exact absurd q9.1 (by omega); exact q9
      obtain ⟨hO1, hO2, hO3, hO4⟩ := hO8
      have cy9 := (Rep_at hr16 (j := nxH - 1) (by omega) (by omega)).1
      have hri9 : 0 ≤ nxH - 1 ∧ nxH - 1 < s11 ∧ cv u13 (nxH - 1) = σ.2.2.2.2.2.1 := ⟨by omega, by omega, hO4⟩
      refine di_aload_n rfl rfl ?_
      refine dr_getf rfl hc4 rfl ?_
      refine dr_dup rfl rfl ?_
      refine dr_getf rfl hg1 rfl ?_
      refine di_const rfl ?_
      refine di_isub rfl ?_
      refine pfX rfl hg1 (Nat.le_of_ble_eq_true rfl) rfl hI (by decide) (T37_hand (by omega) (by omega) (by omega) (by omega)) (fun h30 hI31 hk32 hc33 => ?_)
      have hF34 := FrC_tr FrC_rf (FrC_I hk32 (by decide))
      have hc35 := (hk32.2 0 (by decide)).trans hc4
      have hc36 := (CA_I hk32 (by decide) (by omega)).mpr hc15
      refine di_aload_n rfl rfl ?_
      refine di_aload_n rfl rfl ?_
      refine dr_getf rfl hc35 rfl ?_
      refine dr_getf rfl hc33 rfl ?_
      refine dr_virt rfl rfl rfl rfl hc36.1 (f_X0_removeAt l hl hI31 q6 hc36 (a1 := (nxH - 1)) (by omega) (by omega) (by omega)) (by decide) (by decide) (by decide) (Nat.le_of_ble_eq_true rfl) kQWN (kQWV (fun h37 hI38 hB39 s40 m41 u42 w43 hc44 ph45 => ?_) (fun _ _ _ _ _ q9 => q9.2))
      obtain ⟨ph1, -⟩ := ph45
      have ph2 : s40 = s11 - 1 ∧ m41 = m12 + 1 ∧ (∀ j : Int, 0 ≤ j → j < s11 - 1 → cv u42 j = delf (cv u13) (nxH - 1) j) ∧ (∀ j : Int, 0 ≤ j → j < s11 - 1 → cv w43 j = delf (cv w14) (nxH - 1) j) := by rcases ph1 with q9 | q9; exact q9.2.2; exact absurd q9.1 (by omega)
      obtain ⟨pe1, pe2, pe3, pe4⟩ := ph2
      clear ph1
      subst pe1
      subst pe2
      have hF46 := FrC_tr hF34 (FrC_B hB39 q6)
      have hc47 := (hB39.2 0 (by omega) (by omega) (by omega)).trans hc35
      have hc48 := (hB39.2 3 (by omega) (by omega) (by omega)).trans hc33
      refine di_aload_n rfl rfl ?_
      refine dr_getf rfl hc47 rfl ?_
      refine di_const rfl ?_
      refine pfX rfl hc48 (Nat.le_of_ble_eq_true rfl) (fit_z (by omega) (by omega)) hI38 (by decide) (T37_hand (by omega) (by omega) (by omega) (by omega)) (fun h49 hI50 hk51 hc52 => ?_)
      have hF53 := FrC_tr hF46 (FrC_I hk51 (by decide))
      have hc54 := (hk51.2 0 (by decide)).trans hc47
      have hc55 := (CA_I hk51 (by decide) (by omega)).mpr hc44
      refine di_aload_n rfl rfl ?_
      refine dr_getf rfl hc54 rfl ?_
      refine di_aload_n rfl rfl ?_
      refine dr_virt rfl rfl rfl rfl hc55.1 (f_X0_moves l hl hI50 q6 hc55 ) (by decide) (by decide) (by decide) (Nat.le_of_ble_eq_true rfl) kNP (kIP (fun y56 y56f y56a y56b => ?_))
      obtain ⟨y56c, y56d, y56e⟩ := y56f
      have y56e2 := y56e.symm
      subst y56e2
      refine pfX rfl hc52 (Nat.le_of_ble_eq_true rfl) rfl hI50 (by decide) (T37_hand (by omega) (by omega) (by omega) (by omega)) (fun h57 hI58 hk59 hc60 => ?_)
      have hF61 := FrC_tr hF53 (FrC_I hk59 (by decide))
      have hc62 := (hk59.2 0 (by decide)).trans hc54
      have hc63 := (CA_I hk59 (by decide) (by omega)).mpr hc55
      obtain ⟨hRT, hST⟩ := CSt_TO hS hk32 rfl q8 q10 q7 hB39 (FrI_tr hk51 hk59) hc15 hc63 hr16 ht17 ⟨ma18, mb19⟩ hc60 ⟨by omega, by omega⟩ ⟨by omega, by omega⟩ hB9 hO2 hO4 pe3 pe4
      have hz9 := zF_eq hRT
      refine di_aload_n rfl rfl ?_
      refine dr_virt rfl rfl rfl rfl hc63.1 (f_X0_count l hl hI58 q6 hc63 ) (by decide) (by decide) (by decide) (Nat.le_of_ble_eq_true rfl) kNP (kIP (fun y64 y64f y64a y64b => ?_))
      obtain ⟨y64c, y64d, y64e⟩ := y64f
      have y64e2 := y64e.symm
      subst y64e2
      exact dr_iret (ty := .int) rfl rfl rfl (by decide) (by decide) (QX_ok hI58 hF61 hST (by omega) (by unfold spTakeOut; (repeat' split) <;> first | rfl | (exfalso; omega) | (apply Prod.ext <;> first | rfl | (dsimp only; omega) | (apply Prod.ext <;> first | rfl | (dsimp only; omega)))))
    · skip
      have hrf : σ.2.2.2.1 = 1 ∨ σ.2.2.2.2.2.1 = -1 := by rcases hgl with q9 | q9; exact Or.inl q9.1; (obtain ⟨q1, q2, q3⟩ := hgy q9.2; rcases q3 with q3 | q3; exact Or.inr q3.2; exact absurd q3.1 (by omega))
      refine di_aload_n rfl rfl ?_
      refine dr_virt rfl rfl rfl rfl hc4 (c_X6_refuse l hl hI hS (by omega)) (by decide) (by decide) (by decide) (Nat.le_of_ble_eq_true rfl) kQCN (kQC (fun h65 hI66 hF67 hS68 => ?_))
      have hF69 := hF67
      exact dr_iret (ty := .int) rfl rfl rfl (by decide) (by decide) (QX_ok hI66 hF69 hS68 (by omega) (by unfold spTakeOut; (repeat' split) <;> first | rfl | (exfalso; omega) | (apply Prod.ext <;> first | rfl | (dsimp only; omega) | (apply Prod.ext <;> first | rfl | (dsimp only; omega)))))
/-! ===== many go, many come ===== -/
theorem Srt_uq {f g f' g' F : Int → Int} {s s' : Int} (hr : Rep f g s F) (ht : Srt f s) (hr' : Rep f' g' s' F) (ht' : Srt f' s') : s = s' ∧ ∀ j : Int, 0 ≤ j → j < s → f j = f' j := by
  have e := Rep_sz hr hr'
  refine ⟨e, fun j j0 j1 => ?_⟩
  have k : ∀ n : Nat, ∀ j : Int, 0 ≤ j → j < n → j < s → f j = f' j := by
    intro n
    induction n with
    | zero => intro j h0 h1; omega
    | succ n ih =>
      intro j h0 h1 h2
      obtain ⟨i1, p0, p1, p2⟩ := hr'.2.1 (f j) (Rep_yes hr h0 h2 rfl).2.1
      obtain ⟨i2, q0, q1, q2⟩ := hr.2.1 (f' j) (Rep_yes hr' h0 (by omega) rfl).2.1
      have a1 : j ≤ i1 := by
        by_cases q : j ≤ i1
        · exact q
        · have x := ih i1 p0 (by omega) (by omega)
          have y := ht i1 j p0 (by omega) h2
          omega
      have a2 : j ≤ i2 := by
        by_cases q : j ≤ i2
        · exact q
        · have x := ih i2 q0 (by omega) (by omega)
          have y := ht' i2 j q0 (by omega) (by omega)
          omega
      have b1 : f' j ≤ f' i1 := by
        by_cases q : j = i1
        · rw [q]; exact Int.le_refl _
        · have := ht' j i1 h0 (by omega) p1; omega
      have b2 : f j ≤ f i2 := by
        by_cases q : j = i2
        · rw [q]; exact Int.le_refl _
        · have := ht j i2 h0 (by omega) q1; omega
      omega
  exact k (j + 1).toNat j j0 (by omega) j1
theorem rm_next {f g f' g' F : Int → Int} {s s' r : Int} (hr : Rep f g s F) (ht : Srt f s) (r0 : 0 ≤ r) (r1 : r < s) (hr' : Rep f' g' s' (up F (f r) (-1))) (ht' : Srt f' s') : s' = s - 1 ∧ ∀ j : Int, 0 ≤ j → j < r → f' j = f j := by
  obtain ⟨e, k⟩ := Srt_uq (Rep_del hr r0 r1) (Srt_del ht r0 r1) hr' ht'
  refine ⟨e.symm, fun j j0 j1 => ?_⟩
  rw [← k j j0 (by omega)]
  unfold delf
  rw [if_pos j1]
def Wp (F f : Int → Int) (s : Int) (bad : Int → Prop) (r : Int) (F1 : Int → Int) : Prop := (∀ j : Int, r < j → j < s → bad (f j) → F1 (f j) = -1) ∧ ∀ c : Int, (∀ j : Int, r < j → j < s → f j = c → ¬ bad c) → F1 c = F c
theorem Wp_0 {F f : Int → Int} {s r : Int} {bad : Int → Prop} (h : ∀ j : Int, r < j → j < s → ¬ bad (f j)) : Wp F f s bad r F := ⟨fun j a b c => absurd c (h j a b), fun _ _ => rfl⟩
theorem Wp_rm {F f g F1 : Int → Int} {s r : Int} {bad : Int → Prop} (h : Wp F f s bad r F1) (hb : bad (f r)) (r1 : r < s) : Wp F f s bad (r - 1) (up F1 (f r) (-1)) := by
  refine ⟨fun j a b c => ?_, fun c hc => ?_⟩
  · by_cases q : f j = f r
    · rw [q]; exact up_s
    · rw [up_n q]
      by_cases q2 : j = r
      · exact absurd (by rw [q2]) q
      · exact h.1 j (by omega) b c
  · have q : c ≠ f r := fun e => hc r (by omega) r1 e.symm (by rw [e]; exact hb)
    rw [up_n q]
    exact h.2 c (fun j a b e => hc j (by omega) b e)
theorem Wp_kp {F f F1 : Int → Int} {s r : Int} {bad : Int → Prop} (h : Wp F f s bad r F1) (hb : ¬ bad (f r)) : Wp F f s bad (r - 1) F1 := by
  refine ⟨fun j a b c => ?_, fun c hc => h.2 c (fun j a b e => hc j (by omega) b e)⟩
  by_cases q2 : j = r
  · rw [q2] at c; exact absurd c hb
  · exact h.1 j (by omega) b c
theorem Wp_end {F f g F1 : Int → Int} {s r : Int} {bad : Int → Prop} (hr : Rep f g s F) (r0 : -1 ≤ r) (h : Wp F f s bad r F1) (hb : ∀ j : Int, 0 ≤ j → j ≤ r → ¬ bad (f j)) (c : Int) : (bad c → F1 c = -1) ∧ (¬ bad c → F1 c = F c) := by
  refine ⟨fun q => ?_, fun q => h.2 c (fun _ _ _ _ => q)⟩
  by_cases e : F c = -1
  · rw [h.2 c (fun j a b e2 => ?_)]
    · exact e
    · exact absurd e (Rep_yes hr (by omega) b e2).2.1
  · obtain ⟨j, j0, j1, e2⟩ := hr.2.1 c e
    by_cases q2 : j ≤ r
    · exact absurd (by rw [e2]; exact q) (hb j j0 q2)
    · have := h.1 j (by omega) j1 (by rw [e2]; exact q)
      rw [e2] at this; exact this
theorem stM_M {σ : St} {k : Int} {F G : Int → Int} : stM (stM σ k F) k G = stM σ k G := by
  unfold stM
  have a : (fun i => if i = k then G else (fun i => if i = k then F else σ.1 i) i) = (fun i => if i = k then G else σ.1 i) := funext fun i => by
    by_cases q : i = k
    · rw [if_pos q, if_pos q]
    · rw [if_neg q, if_neg q]; exact if_neg q
  have b : (if σ.2.2.1 = k then (1 : Int) else (if σ.2.2.1 = k then 1 else σ.2.2.2.1)) = (if σ.2.2.1 = k then 1 else σ.2.2.2.1) := by
    by_cases q : σ.2.2.1 = k
    · rw [if_pos q, if_pos q]
    · rw [if_neg q, if_neg q]
  show ((fun i => if i = k then G else (fun i => if i = k then F else σ.1 i) i), σ.2.1, σ.2.2.1, (if σ.2.2.1 = k then (1 : Int) else (if σ.2.2.1 = k then 1 else σ.2.2.2.1)), σ.2.2.2.2) = _
  rw [a, b]
theorem stN_id {σ : St} {k : Int} : stN σ k (σ.1 k) = σ := by
  unfold stN
  have : (fun i => if i = k then σ.1 k else σ.1 i) = σ.1 := funext fun i => by
    by_cases q : i = k
    · rw [if_pos q, q]
    · rw [if_neg q]
  rw [this]
theorem stN_N {σ : St} {k : Int} {F G : Int → Int} : stN (stN σ k F) k G = stN σ k G := by
  unfold stN
  have a : (fun i => if i = k then G else (fun i => if i = k then F else σ.1 i) i) = (fun i => if i = k then G else σ.1 i) := funext fun i => by
    by_cases q : i = k
    · rw [if_pos q, if_pos q]
    · rw [if_neg q, if_neg q]; exact if_neg q
  show ((fun i => if i = k then G else (fun i => if i = k then F else σ.1 i) i), σ.2) = _
  rw [a]
theorem stN_M {σ : St} {k : Int} {F G : Int → Int} : stN (stM σ k F) k G = stM σ k G := by
  unfold stN stM
  have a : (fun i => if i = k then G else (fun i => if i = k then F else σ.1 i) i) = (fun i => if i = k then G else σ.1 i) := funext fun i => by
    by_cases q : i = k
    · rw [if_pos q, if_pos q]
    · rw [if_neg q, if_neg q]; exact if_neg q
  show ((fun i => if i = k then G else (fun i => if i = k then F else σ.1 i) i), _) = _
  rw [a]
theorem stM_N {σ : St} {k : Int} {F G : Int → Int} : stM (stN σ k F) k G = stM σ k G := by
  unfold stN stM
  have a : (fun i => if i = k then G else (fun i => if i = k then F else σ.1 i) i) = (fun i => if i = k then G else σ.1 i) := funext fun i => by
    by_cases q : i = k
    · rw [if_pos q, if_pos q]
    · rw [if_neg q, if_neg q]; exact if_neg q
  show ((fun i => if i = k then G else (fun i => if i = k then F else σ.1 i) i), _) = _
  rw [a]
theorem stM_o {σ : St} {k o : Int} {F : Int → Int} (h : o ≠ k) : (stM σ k F).1 o = σ.1 o := if_neg h
theorem stN_o {σ : St} {k o : Int} {F : Int → Int} (h : o ≠ k) : (stN σ k F).1 o = σ.1 o := if_neg h
set_option maxHeartbeats 4000000 in
set_option maxRecDepth 100000 in
theorem c_X0_removeRange (l : Launch) (hl : l.stackTraces = false) {kc km : Int} {h : dm_H} (hI : Inv kc km h) {B : Int} {σ : St} (hS : CSt B σ h) (hB : B ≤ 90000) {b : Nat} {k : Int} (hb : isBk b) (k0 : 0 ≤ k) (k1 : k ≤ 2) (kb : (b : Int) = 17 + 3 * k) {a1 a2 : Int} (h1a : 0 ≤ a1) (h2a : a2 ≤ 8) {s m : Int} {u w : List Value} (hc : CA b s m u w h) (hr : Rep (cv u) (cv w) s (σ.1 k)) (ht : Srt (cv u) s) (_ma : 0 ≤ m) (mb : m ≤ B) {P : Int → Bool} (hP : rgP (cv u) s a1 a2 P) (hle : a1 ≤ a2) : dm_M l 13 1 0 0 [.ref b, dI a1, dI a2] h (QC kc km h (B + 9) (sWipe σ k (fun c => if P c = true then -1 else σ.1 k c) (a2 - a1)).1 (sWipe σ k (fun c => if P c = true then -1 else σ.1 k c) (a2 - a1)).2) := by
  obtain ⟨p0, p1, p2⟩ := hP
  refine dm_M_of dk_13 hl rfl (Nat.le_of_ble_eq_true rfl) ?_
  show dm_W (fun _ _ _ => True) (dm_P (QC kc km h (B + 9) (sWipe σ k (fun c => if P c = true then -1 else σ.1 k c) (a2 - a1)).1 (sWipe σ k (fun c => if P c = true then -1 else σ.1 k c) (a2 - a1)).2) 0 0) l 13 1 0 0 0 [some (.ref b), some (dI a1), some (dI a2), none] [] h 0 0
  have L : ∀ (n : Nat) (r : Int) (h1 : dm_H) (σ1 : St) (s1 m1 : Int) (u1 w1 : List Value), (r + 1).toNat < n → a1 - 1 ≤ r → r ≤ a2 - 1 → Inv kc km h1 → FrC h h1 → CSt (B + (a2 - 1 - r)) σ1 h1 → CA b s1 m1 u1 w1 h1 → Rep (cv u1) (cv w1) s1 (σ1.1 k) → Srt (cv u1) s1 → m1 ≤ B + (a2 - 1 - r) → r < s1 → (∀ j : Int, 0 ≤ j → j ≤ r → cv u1 j = cv u j) → Wp (σ.1 k) (cv u) s (fun c => P c = true) r (σ1.1 k) → ((σ1 = σ ∧ r = a2 - 1) ∨ (σ1 = stM σ k (σ1.1 k) ∧ r < a2 - 1)) → dm_W (fun _ _ _ => True) (dm_P (QC kc km h (B + 9) (sWipe σ k (fun c => if P c = true then -1 else σ.1 k c) (a2 - a1)).1 (sWipe σ k (fun c => if P c = true then -1 else σ.1 k c) (a2 - a1)).2) 0 0) l 13 1 0 0 4 [some (.ref b), some (dI a1), some (dI a2), some (dI r)] [] h1 0 0 := by
    intro n
    induction n with
    | zero => intro r h1 σ1 s1 m1 u1 w1 hm; exact absurd hm (Nat.not_lt_zero _)
    | succ n ih =>
      intro r h1 σ1 s1 m1 u1 w1 hm r0 r1 hI1 hF1 hS1 hc1 hr1 ht1 hm1 hrs hu hW hσ
      refine dr_iload_n rfl rfl ?_
      refine dr_iload_n rfl rfl ?_
      refine di_icmp_lt rfl rfl (by omega) (by omega) (by omega) (by omega) (fun c => ?_) (fun c => ?_)
      · refine dr_iload_n rfl rfl ?_
        refine dr_iload_n rfl rfl ?_
        refine di_isub rfl ?_
        have e : sWipe σ k (fun c => if P c = true then -1 else σ.1 k c) (a2 - a1) = (a2 - a1, σ1) := by
          unfold sWipe
          rcases hσ with ⟨q1, q2⟩ | ⟨q1, q2⟩
          · rw [if_pos (by omega), q1, show a2 - a1 = 0 by omega]
          · rw [if_neg (by omega)]
            have hf : (fun c => if P c = true then -1 else σ.1 k c) = σ1.1 k := funext fun c9 => by
              have z := Wp_end hr (by omega) hW (fun j j0 j1 hb9 => by have := (p2 j j0 (by omega)).mp hb9; omega) c9
              by_cases q : P c9 = true
              · rw [if_pos q]; exact (z.1 q).symm
              · rw [if_neg q]; exact (z.2 q).symm
            rw [hf, ← q1]
        exact dr_iret (ty := .int) rfl rfl rfl (by decide) (by decide) (QC_eq hI1 hF1 hS1 (by omega) e)
      · refine di_aload_n rfl rfl ?_
        refine dr_iload_n rfl rfl ?_
        refine dr_virt rfl rfl rfl rfl hc1.1 (c_rem hl hI1 hS1 (by omega) k0 k1 kb hb hc1 hr1 ht1 hm1 (r := r) (c := cv u1 r) (by omega) hrs rfl) (by decide) (by decide) (by decide) (Nat.le_of_ble_eq_true rfl) kQCVN (kQCV (fun h2 hI2 hF2 hS2 => ?_))
        refine di_iinc (ls2 := [some (.ref b), some (dI a1), some (dI a2), some (dI (r + (-1)))]) rfl rfl rfl rfl ?_
        refine dr_goto rfl rfl ?_
        obtain ⟨s2, m2, u2, w2, hc2, hr2, ht2, ma2, mb2⟩ := CSt_bk hS2 k0 k1 kb
        have hr3 := hr2
        rw [stM_s] at hr3
        obtain ⟨e1, e2⟩ := rm_next hr1 ht1 (by omega) hrs hr3 ht2
        have er := hu r (by omega) (Int.le_refl _)
        have hbr : P (cv u r) = true := (p2 r (by omega) (by omega)).mpr ⟨by omega, by omega⟩
        have hF : (stM σ1 k (up (σ1.1 k) (cv u1 r) (-1))).1 k = up (σ1.1 k) (cv u r) (-1) := by rw [stM_s, er]
        refine ih (r + (-1)) h2 (stM σ1 k (up (σ1.1 k) (cv u1 r) (-1))) s2 m2 u2 w2 (by omega) (by omega) (by omega) hI2 (FrC_tr hF1 hF2) (CSt_up hS2 (by omega)) hc2 hr2 ht2 (by omega) (by omega) (fun j j0 j1 => (e2 j j0 (by omega)).trans (hu j j0 (by omega))) ?_ (Or.inr ⟨?_, by omega⟩)
        · rw [hF, show r + (-1) = r - 1 by omega]
          exact Wp_rm (g := cv w) hW hbr (by omega)
        · rw [stM_s]
          rcases hσ with ⟨q1, q2⟩ | ⟨q1, q2⟩
          · rw [q1]
          · have q3 : stM σ1 k (up (σ1.1 k) (cv u1 r) (-1)) = stM (stM σ k (σ1.1 k)) k (up (σ1.1 k) (cv u1 r) (-1)) := by rw [← q1]
            rw [q3, stM_M]
  refine dr_iload_n rfl rfl ?_
  refine di_const rfl ?_
  refine di_isub rfl ?_
  refine di_istore_n (ls2 := [some (.ref b), some (dI a1), some (dI a2), some (dI (a2 - 1))]) rfl rfl rfl ?_
  exact L _ (a2 - 1) h σ s m u w (Nat.lt_succ_self _) (by omega) (Int.le_refl _) hI FrC_rf (CSt_up hS (by omega)) hc hr ht (by omega) (by omega) (fun _ _ _ => rfl) (Wp_0 (fun j q1 q2 q3 => by
    have := (p2 j (by omega) q2).mp q3
    omega)) (Or.inl ⟨rfl, rfl⟩)
/-! ===== sift, pour ===== -/
theorem bk_of {b : Nat} {k : Int} (k0 : 0 ≤ k) (k1 : k ≤ 2) (kb : (b : Int) = 17 + 3 * k) : isBk b := by
  rcases (by omega : k = 0 ∨ k = 1 ∨ k = 2) with rfl | rfl | rfl
  · exact Or.inl (by omega)
  · exact Or.inr (Or.inl (by omega))
  · exact Or.inr (Or.inr (by omega))
set_option maxHeartbeats 4000000 in
set_option maxRecDepth 100000 in
theorem c_sift_loop (l : Launch) (hl : l.stackTraces = false) {kc km : Int} {h : dm_H} {B : Int} {σ : St} (hB : B ≤ 80000) {a1 a2 a3 : Int} (a10 : 0 ≤ a1) (a11 : a1 ≤ 2) (a20 : 0 ≤ a2) (a21 : a2 ≤ 2) (hne : a1 ≠ a2) (a30 : 0 ≤ a3) (a31 : a3 ≤ 1) {b o : Nat} (kb : (b : Int) = 17 + 3 * a1) (ko : (o : Int) = 17 + 3 * a2) {s : Int} {u w : List Value} (hs8 : s ≤ 8) (hr : Rep (cv u) (cv w) s (σ.1 a1)) (_ht : Srt (cv u) s) :
    ∀ (n : Nat) (r : Int) (h1 : dm_H) (σ1 : St) (s1 m1 : Int) (u1 w1 : List Value), (r + 1).toNat < n → -1 ≤ r → r ≤ s - 1 → Inv kc km h1 → FrC h h1 → CSt (B + (s - 1 - r)) σ1 h1 → CA b s1 m1 u1 w1 h1 → Rep (cv u1) (cv w1) s1 (σ1.1 a1) → Srt (cv u1) s1 → m1 ≤ B + (s - 1 - r) → r < s1 → (∀ j : Int, 0 ≤ j → j ≤ r → cv u1 j = cv u j) → σ1.1 a2 = σ.1 a2 → Wp (σ.1 a1) (cv u) s (fun c => ¬ (decide (σ.1 a2 c ≠ -1) = decide (a3 = 1))) r (σ1.1 a1) → ((σ1 = σ ∧ s1 = s) ∨ (σ1 = stM σ a1 (σ1.1 a1) ∧ s1 < s)) → dm_W (fun _ _ _ => True) (dm_P (QX kc km h (B + 20) XB XA (spSift σ a1 a2 a3)) 8 48) l 67 6 8 48 42 [some (.ref 0), some (dI a1), some (dI a2), some (dI a3), some (.ref b), some (.ref o), some (dI s), some (dI r), none] [] h1 2 12 := by
  have hb := bk_of a10 a11 kb
  have ho := bk_of a20 a21 ko
  intro n
  induction n with
  | zero => intro r h1 σ1 s1 m1 u1 w1 hm; exact absurd hm (Nat.not_lt_zero _)
  | succ n ih =>
    intro r h1 σ1 s1 m1 u1 w1 hm r0 r1 hI1 hF1 hS1 hc1 hr1 ht1 hm1 hrs hu hG hW hσ
    have hs1 : 0 ≤ s1 ∧ s1 ≤ 8 := ⟨hc1.2.2.2.2.2.1, hc1.2.2.2.2.2.2.1⟩
    refine dr_iload rfl rfl ?_
    refine di_if_lt rfl rfl (by omega) (by omega) (fun c => ?_) (fun c => ?_)
    · refine dr_iload rfl rfl ?_
      refine di_aload rfl rfl ?_
      refine dr_virt rfl rfl rfl rfl hc1.1 (f_X0_count l hl hI1 hb hc1) (by decide) (by decide) (by decide) (Nat.le_of_ble_eq_true rfl) kNP (kIP (fun y yf ya yb => ?_))
      obtain ⟨y0, y1, y2⟩ := yf
      subst y2
      refine di_isub rfl ?_
      have hf : sif (σ.1 a2) (σ.1 a1) a3 = σ1.1 a1 := funext fun c9 => by
        have z := Wp_end hr r0 hW (fun j j0 j1 => by omega) c9
        unfold sif
        by_cases q : decide (σ.1 a2 c9 ≠ -1) = decide (a3 = 1)
        · rw [if_pos q]; exact (z.2 (fun q9 => q9 q)).symm
        · rw [if_neg q]; exact (z.1 q).symm
      have e : spSift σ a1 a2 a3 = (0, s - y, σ1) := by
        unfold spSift
        rw [if_neg (by omega), if_neg hne, hf, zF_eq hr, zF_eq hr1]
        unfold sWipe s0
        rcases hσ with ⟨q1, q2⟩ | ⟨q1, q2⟩
        · rw [if_pos (by omega), q1, show s - y = 0 by omega]
        · rw [if_neg (by omega), ← q1]
      exact dr_iret (ty := .int) rfl rfl rfl (by decide) (by decide) (QX_ok hI1 hF1 hS1 (by omega) e)
    · have er := hu r (by omega) (Int.le_refl _)
      have NEXT : ∀ (h2 : dm_H) (σ2 : St) (s2 m2 : Int) (u2 w2 : List Value), Inv kc km h2 → FrC h h2 → CSt (B + (s - 1 - (r + (-1)))) σ2 h2 → CA b s2 m2 u2 w2 h2 → Rep (cv u2) (cv w2) s2 (σ2.1 a1) → Srt (cv u2) s2 → m2 ≤ B + (s - 1 - (r + (-1))) → r + (-1) < s2 → (∀ j : Int, 0 ≤ j → j ≤ r + (-1) → cv u2 j = cv u j) → σ2.1 a2 = σ.1 a2 → Wp (σ.1 a1) (cv u) s (fun c => ¬ (decide (σ.1 a2 c ≠ -1) = decide (a3 = 1))) (r + (-1)) (σ2.1 a1) → ((σ2 = σ ∧ s2 = s) ∨ (σ2 = stM σ a1 (σ2.1 a1) ∧ s2 < s)) → dm_W (fun _ _ _ => True) (dm_P (QX kc km h (B + 20) XB XA (spSift σ a1 a2 a3)) 8 48) l 67 6 8 48 83 [some (.ref 0), some (dI a1), some (dI a2), some (dI a3), some (.ref b), some (.ref o), some (dI s), some (dI r), none] [] h2 2 12 := by
        intro h2 σ2 s2 m2 u2 w2 x1 x2 x3 x4 x5 x6 x7 x8 x9 x10 x11 x12
        refine di_iinc (ls2 := [some (.ref 0), some (dI a1), some (dI a2), some (dI a3), some (.ref b), some (.ref o), some (dI s), some (dI (r + (-1))), none]) rfl rfl rfl rfl ?_
        refine dr_goto rfl rfl ?_
        exact ih (r + (-1)) h2 σ2 s2 m2 u2 w2 (by omega) (by omega) (by omega) x1 x2 x3 x4 x5 x6 x7 x8 x9 x10 x11 x12
      have KEEP : ¬ ((fun c => ¬ (decide (σ.1 a2 c ≠ -1) = decide (a3 = 1))) (cv u r)) → dm_W (fun _ _ _ => True) (dm_P (QX kc km h (B + 20) XB XA (spSift σ a1 a2 a3)) 8 48) l 67 6 8 48 83 [some (.ref 0), some (dI a1), some (dI a2), some (dI a3), some (.ref b), some (.ref o), some (dI s), some (dI r), none] [] h1 2 12 := fun hk =>
        NEXT h1 σ1 s1 m1 u1 w1 hI1 hF1 (CSt_up hS1 (by omega)) hc1 hr1 ht1 (by omega) (by omega) (fun j j0 j1 => hu j j0 (by omega)) hG (by rw [show r + (-1) = r - 1 by omega]; exact Wp_kp hW hk) hσ
      have REM : (fun c => ¬ (decide (σ.1 a2 c ≠ -1) = decide (a3 = 1))) (cv u r) → dm_W (fun _ _ _ => True) (dm_P (QX kc km h (B + 20) XB XA (spSift σ a1 a2 a3)) 8 48) l 67 6 8 48 76 [some (.ref 0), some (dI a1), some (dI a2), some (dI a3), some (.ref b), some (.ref o), some (dI s), some (dI r), none] [] h1 2 12 := fun hk => by
        refine di_aload rfl rfl ?_
        refine dr_iload rfl rfl ?_
        refine dr_virt rfl rfl rfl rfl hc1.1 (c_rem hl hI1 hS1 (by omega) a10 a11 kb hb hc1 hr1 ht1 hm1 (r := r) (c := cv u1 r) (by omega) hrs rfl) (by decide) (by decide) (by decide) (Nat.le_of_ble_eq_true rfl) kQCVN (kQCV (fun h2 hI2 hF2 hS2 => ?_))
        obtain ⟨s2, m2, u2, w2, hc2, hr2, ht2, ma2, mb2⟩ := CSt_bk hS2 a10 a11 kb
        have hr3 := hr2
        rw [stM_s] at hr3
        obtain ⟨e1, e2⟩ := rm_next hr1 ht1 (by omega) hrs hr3 ht2
        have hF : (stM σ1 a1 (up (σ1.1 a1) (cv u1 r) (-1))).1 a1 = up (σ1.1 a1) (cv u r) (-1) := by rw [stM_s, er]
        refine NEXT h2 _ s2 m2 u2 w2 hI2 (FrC_tr hF1 hF2) (CSt_up hS2 (by omega)) hc2 hr2 ht2 (by omega) (by omega) (fun j j0 j1 => (e2 j j0 (by omega)).trans (hu j j0 (by omega))) ((stM_o (fun q => hne q.symm)).trans hG) ?_ (Or.inr ⟨?_, ?_⟩)
        · rw [hF, show r + (-1) = r - 1 by omega]
          exact Wp_rm (g := cv w) hW hk (by omega)
        · rw [stM_s]
          rcases hσ with ⟨q1, q2⟩ | ⟨q1, q2⟩
          · rw [q1]
          · have q3 : stM σ1 a1 (up (σ1.1 a1) (cv u1 r) (-1)) = stM (stM σ a1 (σ1.1 a1)) a1 (up (σ1.1 a1) (cv u1 r) (-1)) := by rw [← q1]
            rw [q3, stM_M]
        · rcases hσ with ⟨q1, q2⟩ | ⟨q1, q2⟩ <;> omega
      refine di_aload rfl rfl ?_
      refine di_aload rfl rfl ?_
      refine dr_iload rfl rfl ?_
      refine dr_virt rfl rfl rfl rfl hc1.1 (f_X0_codeAt l hl hI1 hb hc1 (a1 := r) (by omega) (by omega)) (by decide) (by decide) (by decide) (Nat.le_of_ble_eq_true rfl) kNP (kIP (fun y yf ya yb => ?_))
      obtain ⟨y0, y1, y2, -, -⟩ := yf
      have ye := y2 (by omega) hrs
      have hat := (Rep_at hr1 (j := r) (by omega) hrs).1
      obtain ⟨s3, m3, u3, w3, hc3, hr3, ht3, -, -⟩ := CSt_bk hS1 a20 a21 ko
      refine dr_virt rfl rfl rfl rfl hc3.1 (f_X0_rankOf l hl hI1 ho hc3 (a1 := y) (by omega) (by omega) hr3 ht3) (by decide) (by decide) (by decide) (Nat.le_of_ble_eq_true rfl) kNP (kIP (fun y5 y5f y5a y5b => ?_))
      obtain ⟨y50, y51, y5k⟩ := y5f
      have hcy : cv u r = y := by rw [ye, er]
      refine di_const rfl ?_
      refine di_icmp_eq rfl rfl (by omega) (by omega) (by omega) (by omega) (fun c1 => ?_) (fun c1 => ?_)
      · have g1 := rkp_n y5k c1
        rw [hG] at g1
        refine di_const rfl ?_
        refine di_istore (ls2 := [some (.ref 0), some (dI a1), some (dI a2), some (dI a3), some (.ref b), some (.ref o), some (dI s), some (dI r), some (dI 0)]) rfl rfl rfl ?_
        refine dr_iload rfl rfl ?_
        refine dr_iload_n rfl rfl ?_
        refine di_icmp_eq rfl rfl (by omega) (by omega) (by omega) (by omega) (fun c2 => ?_) (fun c2 => ?_)
        · refine dm_wk (ls2 := [some (.ref 0), some (dI a1), some (dI a2), some (dI a3), some (.ref b), some (.ref o), some (dI s), some (dI r), none]) ⟨Or.inr rfl, Or.inr rfl, Or.inr rfl, Or.inr rfl, Or.inr rfl, Or.inr rfl, Or.inr rfl, Or.inr rfl, Or.inl rfl, trivial⟩ ?_
          refine KEEP (fun q => q ?_)
          rw [hcy, decide_eq_false (fun q9 => q9 g1), decide_eq_false (by omega)]
        · refine dm_wk (ls2 := [some (.ref 0), some (dI a1), some (dI a2), some (dI a3), some (.ref b), some (.ref o), some (dI s), some (dI r), none]) ⟨Or.inr rfl, Or.inr rfl, Or.inr rfl, Or.inr rfl, Or.inr rfl, Or.inr rfl, Or.inr rfl, Or.inr rfl, Or.inl rfl, trivial⟩ ?_
          refine REM (fun q => ?_)
          rw [hcy, decide_eq_false (fun q9 => q9 g1), decide_eq_true (by omega : a3 = 1)] at q
          cases q
      · have g1 := rkp_y hr3 y5k c1
        rw [hG] at g1
        refine di_const rfl ?_
        refine dr_goto rfl rfl ?_
        refine di_istore (ls2 := [some (.ref 0), some (dI a1), some (dI a2), some (dI a3), some (.ref b), some (.ref o), some (dI s), some (dI r), some (dI 1)]) rfl rfl rfl ?_
        refine dr_iload rfl rfl ?_
        refine dr_iload_n rfl rfl ?_
        refine di_icmp_eq rfl rfl (by omega) (by omega) (by omega) (by omega) (fun c2 => ?_) (fun c2 => ?_)
        · refine dm_wk (ls2 := [some (.ref 0), some (dI a1), some (dI a2), some (dI a3), some (.ref b), some (.ref o), some (dI s), some (dI r), none]) ⟨Or.inr rfl, Or.inr rfl, Or.inr rfl, Or.inr rfl, Or.inr rfl, Or.inr rfl, Or.inr rfl, Or.inr rfl, Or.inl rfl, trivial⟩ ?_
          refine KEEP (fun q => q ?_)
          rw [hcy, decide_eq_true g1, decide_eq_true (by omega : a3 = 1)]
        · refine dm_wk (ls2 := [some (.ref 0), some (dI a1), some (dI a2), some (dI a3), some (.ref b), some (.ref o), some (dI s), some (dI r), none]) ⟨Or.inr rfl, Or.inr rfl, Or.inr rfl, Or.inr rfl, Or.inr rfl, Or.inr rfl, Or.inr rfl, Or.inr rfl, Or.inl rfl, trivial⟩ ?_
          refine REM (fun q => ?_)
          rw [hcy, decide_eq_true g1, decide_eq_false (by omega)] at q
          cases q
theorem cnt_mono {f : Int → Int} {P : Int → Bool} : ∀ (n k : Nat), cnt f P n ≤ cnt f P (n + k)
  | n, 0 => Int.le_refl _
  | n, k + 1 => by
    have a := cnt_mono (f := f) (P := P) n k
    show _ ≤ cnt f P (n + k) + (if P (f ((n + k : Nat) : Int)) then 1 else 0)
    split <;> omega
theorem cnt_le2 {f : Int → Int} {P : Int → Bool} {i s : Int} (h0 : 0 ≤ i) (h1 : i ≤ s) : cnt f P i.toNat ≤ cnt f P s.toNat := by
  have := cnt_mono (f := f) (P := P) i.toNat (s.toNat - i.toNat)
  rwa [show i.toNat + (s.toNat - i.toNat) = s.toNat by omega] at this
set_option maxHeartbeats 4000000 in
set_option maxRecDepth 100000 in
theorem c_pour_loop (l : Launch) (hl : l.stackTraces = false) {kc km : Int} {h : dm_H} {B : Int} {σ : St} (hB : B ≤ 80000) {a1 a2 : Int} (a10 : 0 ≤ a1) (a11 : a1 ≤ 2) (a20 : 0 ≤ a2) (a21 : a2 ≤ 2) {b o : Nat} (kb : (b : Int) = 17 + 3 * a1) (ko : (o : Int) = 17 + 3 * a2) {s s2 y m2 : Int} {u w u2 w2 : List Value} (hr : Rep (cv u) (cv w) s (σ.1 a1)) (hc2 : CA o s2 m2 u2 w2 h) (hr2 : Rep (cv u2) (cv w2) s2 (σ.1 a2)) (ht2 : Srt (cv u2) s2) (hy : y = cnt (cv u2) (fun c => decide (σ.1 a1 c = -1)) s2.toNat) (hsy : s + y ≤ 8) :
    ∀ (n : Nat) (i : Int) (h1 : dm_H) (σ1 : St), (s2 - i).toNat < n → 0 ≤ i → i ≤ s2 → Inv kc km h1 → FrC h h1 → CSt (B + i) σ1 h1 → zF (σ1.1 a1) = s + cnt (cv u2) (fun c => decide (σ.1 a1 c = -1)) i.toNat → σ1.1 a2 = σ.1 a2 → (∀ j : Int, 0 ≤ j → j < i → σ1.1 a1 (cv u2 j) = cv w2 j) → (∀ c : Int, (∀ j : Int, 0 ≤ j → j < i → cv u2 j ≠ c) → σ1.1 a1 c = σ.1 a1 c) → ((σ1 = stN σ a1 (σ1.1 a1) ∧ cnt (cv u2) (fun c => decide (σ.1 a1 c = -1)) i.toNat = 0) ∨ (σ1 = stM σ a1 (σ1.1 a1) ∧ 0 < cnt (cv u2) (fun c => decide (σ.1 a1 c = -1)) i.toNat)) → dm_W (fun _ _ _ => True) (dm_P (QX kc km h (B + 20) XB XA (spPour σ a1 a2)) 8 48) l 65 6 8 48 41 [some (.ref 0), some (dI a1), some (dI a2), some (.ref b), some (.ref o), some (dI y), some (dI i)] [] h1 2 12 := by
  have hb := bk_of a10 a11 kb
  have ho := bk_of a20 a21 ko
  have hs2 : 0 ≤ s2 ∧ s2 ≤ 8 := ⟨hc2.2.2.2.2.2.1, hc2.2.2.2.2.2.2.1⟩
  intro n
  induction n with
  | zero => intro i h1 σ1 hm; exact absurd hm (Nat.not_lt_zero _)
  | succ n ih =>
    intro i h1 σ1 hm i0 i1 hI1 hF1 hS1 hz hG hP1 hP2 hσ
    obtain ⟨s3, m3, u3, w3, hc3, hr3, ht3, -, -⟩ := CSt_bk hS1 a20 a21 ko
    have hr4 := hr3
    rw [hG] at hr4
    obtain ⟨e3, eu⟩ := Srt_uq hr2 ht2 hr4 ht3
    subst e3
    refine dr_iload rfl rfl ?_
    refine di_aload rfl rfl ?_
    refine dr_virt rfl rfl rfl rfl hc3.1 (f_X0_count l hl hI1 ho hc3) (by decide) (by decide) (by decide) (Nat.le_of_ble_eq_true rfl) kNP (kIP (fun y7 yf ya yb => ?_))
    obtain ⟨y0, y1, y2⟩ := yf
    refine di_icmp_ge rfl rfl (by omega) (by omega) (by omega) (by omega) (fun c => ?_) (fun c => ?_)
    · have ei : i = s2 := by omega
      subst ei
      have hf : mrg (σ.1 a2) (σ.1 a1) = σ1.1 a1 := funext fun c9 => by
        unfold mrg
        by_cases q : σ.1 a2 c9 ≠ -1
        · rw [if_pos q]
          obtain ⟨j, j0, j1, e9⟩ := hr2.2.1 c9 q
          have x := hP1 j j0 j1
          rw [e9] at x
          rw [x, (Rep_yes hr2 j0 j1 e9).1]
        · rw [if_neg q]
          exact (hP2 c9 (fun j j0 j1 e9 => q (Rep_yes hr2 j0 j1 e9).2.1)).symm
      have e : spPour σ a1 a2 = (0, y, σ1) := by
        unfold spPour
        rw [if_neg (by omega), nF_eq _ hr2, ← hy]
        unfold sPour s0
        rw [if_neg (by rw [zF_eq hr]; omega), hf]
        rcases hσ with ⟨q1, q2⟩ | ⟨q1, q2⟩
        · rw [if_pos (by omega), ← q1, show y = 0 by omega]
        · rw [if_neg (by omega), ← q1]
      refine dr_iload rfl rfl ?_
      exact dr_iret (ty := .int) rfl rfl rfl (by decide) (by decide) (QX_ok hI1 hF1 hS1 (by omega) e)
    · have his : i < s2 := by omega
      have hat := Rep_at hr4 (j := i) i0 his
      have hu := eu i i0 his
      obtain ⟨⟨c0, c1⟩, ⟨x0, x1⟩, hx⟩ := hat
      have hcc := hc3.2.2.2.1.2.2 i.toNat
      have hok : cv u3 i % 100 ≤ cv u3 i / 100 := (arr_cv hc3.2.2.2.1 i0 (by omega)).2.2
      refine di_aload_n rfl rfl ?_
      refine di_aload_n rfl rfl ?_
      refine di_aload rfl rfl ?_
      refine dr_iload rfl rfl ?_
      refine dr_virt rfl rfl rfl rfl hc3.1 (f_X0_codeAt l hl hI1 ho hc3 (a1 := i) (by omega) (by omega)) (by decide) (by decide) (by decide) (Nat.le_of_ble_eq_true rfl) kNP (kIP (fun c8 c8f c8a c8b => ?_))
      obtain ⟨-, -, c8k, -, -⟩ := c8f
      have c8e := c8k i0 his
      subst c8e
      refine di_aload rfl rfl ?_
      refine dr_iload rfl rfl ?_
      refine dr_virt rfl rfl rfl rfl hc3.1 (f_X0_noteAt l hl hI1 ho hc3 (a1 := i) (by omega) (by omega)) (by decide) (by decide) (by decide) (Nat.le_of_ble_eq_true rfl) kNP (kIP (fun d8 d8f d8a d8b => ?_))
      obtain ⟨-, -, d8k, -, -⟩ := d8f
      have d8e := d8k i0 his
      subst d8e
      obtain ⟨r9, q9a, q9b, hcls⟩ := I_cls hI1
      refine dr_virt rfl rfl rfl rfl hcls (c_X6_setOrBring l hl hI1 hS1 (by omega) hb a10 a11 kb (a2 := cv u3 i) (by omega) (by omega) (a3 := cv w3 i) (by omega) (by omega) hok) (by decide) (by decide) (by decide) (Nat.le_of_ble_eq_true rfl) kQCN (kQC (fun h2 hI2 hF2 hS2 => ?_))
      refine dr_pop rfl rfl ?_
      refine di_iinc (ls2 := [some (.ref 0), some (dI a1), some (dI a2), some (.ref b), some (.ref o), some (dI y), some (dI (i + 1))]) rfl rfl rfl rfl ?_
      refine dr_goto rfl rfl ?_
      have hFi : σ1.1 a1 (cv u3 i) = σ.1 a1 (cv u3 i) := hP2 _ (fun j j0 j1 e9 => hr2.2.2 j i j0 j1 his (by rw [e9, hu]))
      have hcs := cnt_st (f := cv u2) (P := (fun c => decide (σ.1 a1 c = -1))) i0
      have hle := cnt_le2 (f := cv u2) (P := (fun c => decide (σ.1 a1 c = -1))) (i := i + 1) (s := s2) (by omega) (by omega)
      have hpu : up (σ1.1 a1) (cv u3 i) (cv w3 i) = (sPut σ1 a1 (cv u3 i) (cv w3 i)).2.1 a1 := by
        unfold sPut
        by_cases q : σ1.1 a1 (cv u3 i) ≠ -1
        · rw [if_pos q]; exact stN_s.symm
        · rw [if_neg q]
          have q2 : σ1.1 a1 (cv u3 i) = -1 := by omega
          rw [← hu] at q2 hFi
          rw [q2] at hFi
          have : cnt (cv u2) (fun c => decide (σ.1 a1 c = -1)) (i + 1).toNat = cnt (cv u2) (fun c => decide (σ.1 a1 c = -1)) i.toNat + 1 := by rw [hcs, if_pos (decide_eq_true hFi.symm)]
          rw [if_pos (by omega)]; exact stM_s.symm
      have hσ2 : ((sPut σ1 a1 (cv u3 i) (cv w3 i)).2 = stN σ a1 (up (σ1.1 a1) (cv u3 i) (cv w3 i)) ∧ cnt (cv u2) (fun c => decide (σ.1 a1 c = -1)) (i + 1).toNat = 0) ∨ ((sPut σ1 a1 (cv u3 i) (cv w3 i)).2 = stM σ a1 (up (σ1.1 a1) (cv u3 i) (cv w3 i)) ∧ 0 < cnt (cv u2) (fun c => decide (σ.1 a1 c = -1)) (i + 1).toNat) := by
        unfold sPut
        have hnn := (cnt_b (cv u2) (fun c => decide (σ.1 a1 c = -1)) i.toNat).1
        by_cases q : σ1.1 a1 (cv u3 i) ≠ -1
        · rw [if_pos q]
          have hn : cnt (cv u2) (fun c => decide (σ.1 a1 c = -1)) (i + 1).toNat = cnt (cv u2) (fun c => decide (σ.1 a1 c = -1)) i.toNat := by
            rw [hcs, if_neg (by rw [hu]; simpa using (fun q9 => q (hFi.trans q9))), Int.add_zero]
          rw [hn]
          rcases hσ with ⟨p1, p2⟩ | ⟨p1, p2⟩
          · exact Or.inl ⟨by show stN σ1 a1 _ = _; exact (congrArg (fun z => stN z a1 (up (σ1.1 a1) (cv u3 i) (cv w3 i))) p1).trans stN_N, p2⟩
          · exact Or.inr ⟨by show stN σ1 a1 _ = _; exact (congrArg (fun z => stN z a1 (up (σ1.1 a1) (cv u3 i) (cv w3 i))) p1).trans stN_M, p2⟩
        · have q2 : σ1.1 a1 (cv u3 i) = -1 := by omega
          have hn : cnt (cv u2) (fun c => decide (σ.1 a1 c = -1)) (i + 1).toNat = cnt (cv u2) (fun c => decide (σ.1 a1 c = -1)) i.toNat + 1 := by
            rw [hcs, if_pos (by rw [hu]; exact decide_eq_true (hFi.symm.trans q2))]
          rw [if_neg q, if_pos (by omega), hn]
          rcases hσ with ⟨p1, p2⟩ | ⟨p1, p2⟩
          · exact Or.inr ⟨by show stM σ1 a1 _ = _; exact (congrArg (fun z => stM z a1 (up (σ1.1 a1) (cv u3 i) (cv w3 i))) p1).trans stM_N, by omega⟩
          · exact Or.inr ⟨by show stM σ1 a1 _ = _; exact (congrArg (fun z => stM z a1 (up (σ1.1 a1) (cv u3 i) (cv w3 i))) p1).trans stM_M, by omega⟩
      have hz2 : zF ((sPut σ1 a1 (cv u3 i) (cv w3 i)).2.1 a1) = s + cnt (cv u2) (fun c => decide (σ.1 a1 c = -1)) (i + 1).toNat := by
        obtain ⟨s5, m5, u5, w5, hc5, hr5, ht5, -, -⟩ := CSt_bk hS1 a10 a11 kb
        have e5 := zF_eq hr5
        rw [← hpu]
        by_cases q : σ1.1 a1 (cv u3 i) ≠ -1
        · obtain ⟨j, j0, j1, e9⟩ := hr5.2.1 _ q
          have hR := Rep_note hr5 j0 j1 x0 x1
          rw [e9] at hR
          rw [zF_eq hR, ← e5, hz, hcs, if_neg (by rw [hu]; simpa using (fun q9 => q (hFi.trans q9))), Int.add_zero]
        · have q2 : σ1.1 a1 (cv u3 i) = -1 := by omega
          have hR := Rep_ins hr5 (r := 0) (Int.le_refl _) hr5.1.1 q2 c0 c1 x0 x1
          rw [zF_eq hR, ← e5, hz, hcs, if_pos (by rw [hu]; exact decide_eq_true (hFi.symm.trans q2))]
          omega
      have hG2 : (sPut σ1 a1 (cv u3 i) (cv w3 i)).2.1 a2 = σ.1 a2 := by
        by_cases q : a2 = a1
        · rw [q, ← hpu, ← q]
          funext d
          by_cases q3 : d = cv u3 i
          · rw [q3, up_s]; exact hx.symm
          · rw [up_n q3, hG]
        · rcases hσ2 with ⟨p1, -⟩ | ⟨p1, -⟩
          · rw [p1]; exact stN_o q
          · rw [p1]; exact stM_o q
      refine ih (i + 1) h2 _ (by omega) (by omega) (by omega) hI2 (FrC_tr hF1 hF2) (CSt_up hS2 (by omega)) hz2 hG2 (fun j j0 j1 => ?_) (fun c9 hc9 => ?_) ?_
      · rw [← hpu]
        by_cases q : j = i
        · rw [q, hu, up_s]
          have a := Rep_at hr2 (j := i) i0 his
          rw [hu] at a
          exact hx.symm.trans a.2.2
        · rw [up_n (fun e9 => hr2.2.2 j i j0 (by omega) his (by rw [e9, hu]))]
          exact hP1 j j0 (by omega)
      · rw [← hpu, up_n (fun e9 => hc9 i i0 (by omega) (by rw [hu, e9]))]
        exact hP2 c9 (fun j j0 j1 => hc9 j j0 (by omega))
      · rw [← hpu]; exact hσ2

set_option maxHeartbeats 4000000 in
set_option maxRecDepth 100000 in
/-- Earlyends.clear -/
theorem c_X6_clear (l : Launch) (hl : l.stackTraces = false) {kc km : Int} {h : dm_H} (hI : Inv kc km h) {B : Int} {σ : St} (hS : CSt B σ h) (hB : B ≤ 80000) {a1 : Int} (h1a : -2147483648 ≤ a1) (h1b : a1 ≤ 2147483647) : dm_M l 64 6 8 48 [.ref 0, dI (a1)] h (QX kc km h (B + 20) XB XA (spClear σ a1)) := by
  refine dm_M_of dk_64 hl rfl (Nat.le_of_ble_eq_true rfl) ?_
  show dm_W (fun _ _ _ => True) (dm_P (QX kc km h (B + 20) XB XA (spClear σ a1)) 8 48) l 64 6 8 48 0 [some (.ref 0), some (dI (a1)), none] [] h 0 0
  refine di_aload_n rfl rfl ?_
  refine dr_iload_n rfl rfl ?_
  obtain ⟨r1, c2, c3, hc4⟩ := I_cls hI
  refine dr_virt rfl rfl rfl rfl hc4 (f_X6_bookAt l hl hI (a1 := a1) (by omega) (by omega)) (by decide) (by decide) (by decide) (Nat.le_of_ble_eq_true rfl) (fun Y h9 q9 => by obtain ⟨rfl, rfl, hC⟩ := q9; exact dr_out rfl (by decide) (by decide) (QX_1 (a := 0) hI FrC_rf hS (by omega) (by unfold spClear; (repeat' split) <;> first | rfl | (exfalso; omega) | (apply Prod.ext <;> first | rfl | (dsimp only; omega) | (apply Prod.ext <;> first | rfl | (dsimp only; omega)))))) (kPXR (fun r5 ⟨q6, q7, q8, q10⟩ => ?_))
  refine di_astore_n (ls2 := [some (.ref 0), some (dI (a1)), some (.ref r5)]) rfl rfl rfl ?_
  refine di_aload_n rfl rfl ?_
  refine di_const rfl ?_
  refine di_aload_n rfl rfl ?_
  obtain ⟨s11, m12, u13, w14, hc15, hr16, ht17, ma18, mb19⟩ := CSt_bk hS (k := a1) q8 q10 q7
  have sq20 : 0 ≤ s11 ∧ s11 ≤ 8 := ⟨hc15.2.2.2.2.2.1, hc15.2.2.2.2.2.2.1⟩
  have hz21 : zF (σ.1 a1) = s11 := zF_eq hr16
  refine dr_virt rfl rfl rfl rfl hc15.1 (f_X0_count l hl hI q6 hc15 ) (by decide) (by decide) (by decide) (Nat.le_of_ble_eq_true rfl) kNP (kIP (fun y22 y22f y22a y22b => ?_))
  obtain ⟨y22c, y22d, y22e⟩ := y22f
  have y22e2 := y22e.symm
  subst y22e2
  refine dr_virt rfl rfl rfl rfl hc15.1 (c_X0_removeRange l hl hI hS (by omega) q6 q8 q10 q7 (a1 := 0) (a2 := s11) (by omega) (by omega) hc15 hr16 ht17 ma18 mb19 (P := (fun _ => true)) rg_all (by omega)) (by decide) (by decide) (by decide) (Nat.le_of_ble_eq_true rfl) kQCN (kQC (fun h23 hI24 hF25 hS26 => ?_))
  have hF27 := hF25
  exact dr_iret (ty := .int) rfl rfl rfl (by decide) (by decide) (QX_ok hI24 hF27 hS26 (by omega) (by unfold spClear; rw [if_neg (by omega)]; rw [hz21]; rw [Int.sub_zero]; rfl))
set_option maxHeartbeats 4000000 in
set_option maxRecDepth 100000 in
/-- Earlyends.partClear -/
theorem c_X6_partClear (l : Launch) (hl : l.stackTraces = false) {kc km : Int} {h : dm_H} (hI : Inv kc km h) {B : Int} {σ : St} (hS : CSt B σ h) (hB : B ≤ 80000)  : dm_M l 73 6 8 48 [.ref 0] h (QX kc km h (B + 20) XS XA (spPartClear σ)) := by
  refine dm_M_of dk_73 hl rfl (Nat.le_of_ble_eq_true rfl) ?_
  show dm_W (fun _ _ _ => True) (dm_P (QX kc km h (B + 20) XS XA (spPartClear σ)) 8 48) l 73 6 8 48 0 [some (.ref 0), none] [] h 0 0
  refine di_aload_n rfl rfl ?_
  obtain ⟨r1, c2, c3, hc4⟩ := I_cls hI
  refine dr_virt rfl rfl rfl rfl hc4 (f_X6_bookOfPart l hl hI hS (by omega)) (by decide) (by decide) (by decide) (Nat.le_of_ble_eq_true rfl) (fun Y h9 q9 => by obtain ⟨rfl, rfl, hC⟩ := q9; exact dr_out rfl (by decide) (by decide) (QX_1 (a := 0) hI FrC_rf hS (by omega) (by unfold spPartClear; (repeat' split) <;> first | rfl | (exfalso; omega) | (apply Prod.ext <;> first | rfl | (dsimp only; omega) | (apply Prod.ext <;> first | rfl | (dsimp only; omega)))))) (kPXR (fun r5 ⟨q6, q7, q8, q10⟩ => ?_))
  refine di_astore_n (ls2 := [some (.ref 0), some (.ref r5)]) rfl rfl rfl ?_
  refine di_aload_n rfl rfl ?_
  refine di_aload_n rfl rfl ?_
  refine dr_getf rfl hc4 rfl ?_
  refine di_aload_n rfl rfl ?_
  have pr11 := hS.2
  obtain ⟨pr11a, pr11b, pr11c, pr11d⟩ := pr11
  obtain ⟨s12, m13, u14, w15, hc16, hr17, ht18, ma19, mb20⟩ := CSt_bk hS (k := σ.2.1.1) q8 q10 q7
  have sq21 : 0 ≤ s12 ∧ s12 ≤ 8 := ⟨hc16.2.2.2.2.2.1, hc16.2.2.2.2.2.2.1⟩
  have hz22 : zF (σ.1 σ.2.1.1) = s12 := zF_eq hr17
  refine dr_virt rfl rfl rfl rfl pr11a (f_X4_startIn l hl hI hS (by omega) q6 q8 q10 q7 hc16 hr17 ht18 ma19 mb20) (by decide) (by decide) (by decide) (Nat.le_of_ble_eq_true rfl) kNP (kIP (fun y23 y23f y23a y23b => ?_))
  obtain ⟨y23c, y23d, y23k⟩ := y23f
  have y23l : y23 ≤ s12 := y23k.2.1
  refine di_aload_n rfl rfl ?_
  refine dr_getf rfl hc4 rfl ?_
  refine di_aload_n rfl rfl ?_
  refine dr_virt rfl rfl rfl rfl pr11a (f_X4_endIn l hl hI hS (by omega) q6 q8 q10 q7 hc16 hr17 ht18 ma19 mb20) (by decide) (by decide) (by decide) (Nat.le_of_ble_eq_true rfl) kNP (kIP (fun y24 y24f y24a y24b => ?_))
  obtain ⟨y24c, y24d, y24k⟩ := y24f
  have y24l : y24 ≤ s12 := y24k.2.1
  obtain ⟨pq1, pq2, pq3, pq4, prP⟩ := hS.2
  have hn9 : nP σ = y24 - y23 := (ci_e hr17 y23k y24k (by omega) (by omega) prP).symm
  refine dr_virt rfl rfl rfl rfl hc16.1 (c_X0_removeRange l hl hI hS (by omega) q6 q8 q10 q7 (a1 := y23) (a2 := y24) (by omega) (by omega) hc16 hr17 ht18 ma19 mb20 (P := (inP σ.2.1.2.1 σ.2.1.2.2)) (rg_P y23k y24k) (rg_le y23k y24k (by omega) (by omega) prP)) (by decide) (by decide) (by decide) (Nat.le_of_ble_eq_true rfl) kQCN (kQC (fun h25 hI26 hF27 hS28 => ?_))
  have hF29 := hF27
  exact dr_iret (ty := .int) rfl rfl rfl (by decide) (by decide) (QX_ok hI26 hF29 hS28 (by omega) (by unfold spPartClear; (try rw [hn9]); (repeat' split) <;> first | rfl | (exfalso; omega) | (apply Prod.ext <;> first | rfl | (dsimp only; omega) | (apply Prod.ext <;> first | rfl | (dsimp only; omega)))))
set_option maxHeartbeats 4000000 in
set_option maxRecDepth 100000 in
/-- Earlyends.sift -/
theorem c_X6_sift (l : Launch) (hl : l.stackTraces = false) {kc km : Int} {h : dm_H} (hI : Inv kc km h) {B : Int} {σ : St} (hS : CSt B σ h) (hB : B ≤ 80000) {a1 : Int} (h1a : -2147483648 ≤ a1) (h1b : a1 ≤ 2147483647) {a2 : Int} (h2a : -2147483648 ≤ a2) (h2b : a2 ≤ 2147483647) {a3 : Int} (h3a : 0 ≤ a3) (h3b : a3 ≤ 1) : dm_M l 67 6 8 48 [.ref 0, dI (a1), dI (a2), dI (a3)] h (QX kc km h (B + 20) XB XA (spSift σ a1 a2 a3)) := by
  refine dm_M_of dk_67 hl rfl (Nat.le_of_ble_eq_true rfl) ?_
  show dm_W (fun _ _ _ => True) (dm_P (QX kc km h (B + 20) XB XA (spSift σ a1 a2 a3)) 8 48) l 67 6 8 48 0 [some (.ref 0), some (dI (a1)), some (dI (a2)), some (dI (a3)), none, none, none, none, none] [] h 0 0
  refine di_aload_n rfl rfl ?_
  refine dr_iload_n rfl rfl ?_
  obtain ⟨r1, c2, c3, hc4⟩ := I_cls hI
  refine dr_virt rfl rfl rfl rfl hc4 (f_X6_bookAt l hl hI (a1 := a1) (by omega) (by omega)) (by decide) (by decide) (by decide) (Nat.le_of_ble_eq_true rfl) (fun Y h9 q9 => by obtain ⟨rfl, rfl, hC⟩ := q9; exact dr_out rfl (by decide) (by decide) (QX_1 (a := 0) hI FrC_rf hS (by omega) (by unfold spSift; (repeat' split) <;> first | rfl | (exfalso; omega) | (apply Prod.ext <;> first | rfl | (dsimp only; omega) | (apply Prod.ext <;> first | rfl | (dsimp only; omega)))))) (kPXR (fun r5 ⟨q6, q7, q8, q10⟩ => ?_))
  refine di_astore (ls2 := [some (.ref 0), some (dI (a1)), some (dI (a2)), some (dI (a3)), some (.ref r5), none, none, none, none]) rfl rfl rfl ?_
  refine di_aload_n rfl rfl ?_
  refine dr_iload_n rfl rfl ?_
  refine dr_virt rfl rfl rfl rfl hc4 (f_X6_bookAt l hl hI (a1 := a2) (by omega) (by omega)) (by decide) (by decide) (by decide) (Nat.le_of_ble_eq_true rfl) (fun Y h9 q9 => by obtain ⟨rfl, rfl, hC⟩ := q9; exact dr_out rfl (by decide) (by decide) (QX_1 (a := 0) hI FrC_rf hS (by omega) (by unfold spSift; (repeat' split) <;> first | rfl | (exfalso; omega) | (apply Prod.ext <;> first | rfl | (dsimp only; omega) | (apply Prod.ext <;> first | rfl | (dsimp only; omega)))))) (kPXR (fun r11 ⟨q12, q13, q14, q15⟩ => ?_))
  refine di_astore (ls2 := [some (.ref 0), some (dI (a1)), some (dI (a2)), some (dI (a3)), some (.ref r5), some (.ref r11), none, none, none]) rfl rfl rfl ?_
  refine dr_iload_n rfl rfl ?_
  refine dr_iload_n rfl rfl ?_
  refine di_icmp_ne rfl rfl (by omega) (by omega) (by omega) (by omega) (fun c16 => ?_) (fun c16 => ?_)
  · skip
    refine di_aload rfl rfl ?_
    obtain ⟨s17, m18, u19, w20, hc21, hr22, ht23, ma24, mb25⟩ := CSt_bk hS (k := a1) q8 q10 q7
    have sq26 : 0 ≤ s17 ∧ s17 ≤ 8 := ⟨hc21.2.2.2.2.2.1, hc21.2.2.2.2.2.2.1⟩
    have hz27 : zF (σ.1 a1) = s17 := zF_eq hr22
    refine dr_virt rfl rfl rfl rfl hc21.1 (f_X0_count l hl hI q6 hc21 ) (by decide) (by decide) (by decide) (Nat.le_of_ble_eq_true rfl) kNP (kIP (fun y28 y28f y28a y28b => ?_))
    obtain ⟨y28c, y28d, y28e⟩ := y28f
    have y28e2 := y28e.symm
    subst y28e2
    refine di_istore (ls2 := [some (.ref 0), some (dI (a1)), some (dI (a2)), some (dI (a3)), some (.ref r5), some (.ref r11), some (dI (s17)), none, none]) rfl rfl rfl ?_
    refine dr_iload rfl rfl ?_
    refine di_const rfl ?_
    refine di_isub rfl ?_
    refine di_istore (ls2 := [some (.ref 0), some (dI (a1)), some (dI (a2)), some (dI (a3)), some (.ref r5), some (.ref r11), some (dI (s17)), some (dI ((s17 - 1))), none]) rfl rfl rfl ?_
    exact c_sift_loop l hl hB q8 q10 q14 q15 (by omega) (by omega) (by omega) q7 q13 (by omega) hr22 ht23 _ (s17 - 1) h σ s17 m18 u19 w20 (Nat.lt_succ_self _) (by omega) (Int.le_refl _) hI FrC_rf (CSt_up hS (by omega)) hc21 hr22 ht23 (by omega) (by omega) (fun _ _ _ => rfl) rfl (Wp_0 (fun j q1 q2 => absurd q1 (by omega))) (Or.inl ⟨rfl, rfl⟩)
  · skip
    exact dr_throw rfl (by decide) rfl (by decide) (by decide) (by decide) (Nat.le_of_ble_eq_true rfl) (QX_2 (a := 0) hI FrC_rf hS (by omega) (by unfold spSift; (repeat' split) <;> first | rfl | (exfalso; omega) | (apply Prod.ext <;> first | rfl | (dsimp only; omega) | (apply Prod.ext <;> first | rfl | (dsimp only; omega)))))
set_option maxHeartbeats 4000000 in
set_option maxRecDepth 100000 in
/-- Earlyends.pour -/
theorem c_X6_pour (l : Launch) (hl : l.stackTraces = false) {kc km : Int} {h : dm_H} (hI : Inv kc km h) {B : Int} {σ : St} (hS : CSt B σ h) (hB : B ≤ 80000) {a1 : Int} (h1a : -2147483648 ≤ a1) (h1b : a1 ≤ 2147483647) {a2 : Int} (h2a : -2147483648 ≤ a2) (h2b : a2 ≤ 2147483647) : dm_M l 65 6 8 48 [.ref 0, dI (a1), dI (a2)] h (QX kc km h (B + 20) XB XA (spPour σ a1 a2)) := by
  refine dm_M_of dk_65 hl rfl (Nat.le_of_ble_eq_true rfl) ?_
  show dm_W (fun _ _ _ => True) (dm_P (QX kc km h (B + 20) XB XA (spPour σ a1 a2)) 8 48) l 65 6 8 48 0 [some (.ref 0), some (dI (a1)), some (dI (a2)), none, none, none, none] [] h 0 0
  refine di_aload_n rfl rfl ?_
  refine dr_iload_n rfl rfl ?_
  obtain ⟨r1, c2, c3, hc4⟩ := I_cls hI
  refine dr_virt rfl rfl rfl rfl hc4 (f_X6_bookAt l hl hI (a1 := a1) (by omega) (by omega)) (by decide) (by decide) (by decide) (Nat.le_of_ble_eq_true rfl) (fun Y h9 q9 => by obtain ⟨rfl, rfl, hC⟩ := q9; exact dr_out rfl (by decide) (by decide) (QX_1 (a := 0) hI FrC_rf hS (by omega) (by unfold spPour; (try unfold sPour); (repeat' split) <;> first | rfl | (exfalso; omega) | (apply Prod.ext <;> first | rfl | (dsimp only; omega) | (apply Prod.ext <;> first | rfl | (dsimp only; omega)))))) (kPXR (fun r5 ⟨q6, q7, q8, q10⟩ => ?_))
  refine di_astore_n (ls2 := [some (.ref 0), some (dI (a1)), some (dI (a2)), some (.ref r5), none, none, none]) rfl rfl rfl ?_
  refine di_aload_n rfl rfl ?_
  refine dr_iload_n rfl rfl ?_
  refine dr_virt rfl rfl rfl rfl hc4 (f_X6_bookAt l hl hI (a1 := a2) (by omega) (by omega)) (by decide) (by decide) (by decide) (Nat.le_of_ble_eq_true rfl) (fun Y h9 q9 => by obtain ⟨rfl, rfl, hC⟩ := q9; exact dr_out rfl (by decide) (by decide) (QX_1 (a := 0) hI FrC_rf hS (by omega) (by unfold spPour; (try unfold sPour); (repeat' split) <;> first | rfl | (exfalso; omega) | (apply Prod.ext <;> first | rfl | (dsimp only; omega) | (apply Prod.ext <;> first | rfl | (dsimp only; omega)))))) (kPXR (fun r11 ⟨q12, q13, q14, q15⟩ => ?_))
  refine di_astore (ls2 := [some (.ref 0), some (dI (a1)), some (dI (a2)), some (.ref r5), some (.ref r11), none, none]) rfl rfl rfl ?_
  refine di_aload rfl rfl ?_
  refine di_aload_n rfl rfl ?_
  obtain ⟨s16, m17, u18, w19, hc20, hr21, ht22, ma23, mb24⟩ := CSt_bk hS (k := a2) q14 q15 q13
  have sq25 : 0 ≤ s16 ∧ s16 ≤ 8 := ⟨hc20.2.2.2.2.2.1, hc20.2.2.2.2.2.2.1⟩
  have hz26 : zF (σ.1 a2) = s16 := zF_eq hr21
  obtain ⟨s27, m28, u29, w30, hc31, hr32, ht33, ma34, mb35⟩ := CSt_bk hS (k := a1) q8 q10 q7
  have sq36 : 0 ≤ s27 ∧ s27 ≤ 8 := ⟨hc31.2.2.2.2.2.1, hc31.2.2.2.2.2.2.1⟩
  have hz37 : zF (σ.1 a1) = s27 := zF_eq hr32
  refine dr_virt rfl rfl rfl rfl hc20.1 (f_X0_countMissingIn l hl hI q12 hc20 q6 hc31 hr32 ht33) (by decide) (by decide) (by decide) (Nat.le_of_ble_eq_true rfl) kNP (kIP (fun y38 y38f y38a y38b => ?_))
  obtain ⟨y38c, y38d, y38k⟩ := y38f
  refine di_istore (ls2 := [some (.ref 0), some (dI (a1)), some (dI (a2)), some (.ref r5), some (.ref r11), some (dI (y38)), none]) rfl rfl rfl ?_
  refine di_aload_n rfl rfl ?_
  refine dr_virt rfl rfl rfl rfl hc31.1 (f_X0_count l hl hI q6 hc31 ) (by decide) (by decide) (by decide) (Nat.le_of_ble_eq_true rfl) kNP (kIP (fun y39 y39f y39a y39b => ?_))
  obtain ⟨y39c, y39d, y39e⟩ := y39f
  have y39e2 := y39e.symm
  subst y39e2
  refine dr_iload rfl rfl ?_
  refine di_iadd rfl ?_
  refine di_bipush rfl (by decide) ?_
  refine di_icmp_le rfl rfl (by omega) (by omega) (by omega) (by omega) (fun c40 => ?_) (fun c40 => ?_)
  · skip
    refine di_const rfl ?_
    refine di_istore (ls2 := [some (.ref 0), some (dI (a1)), some (dI (a2)), some (.ref r5), some (.ref r11), some (dI (y38)), some (dI (0))]) rfl rfl rfl ?_
    have zb9 := zF_eq hr32
    exact c_pour_loop l hl hB q8 q10 q14 q15 q7 q13 hr32 hc20 hr21 ht22 y38k (by omega) _ 0 h σ (Nat.lt_succ_self _) (Int.le_refl _) (by omega) hI FrC_rf (CSt_up hS (by omega)) (by rw [zb9]; exact (Int.add_zero _).symm) rfl (fun j q1 q2 => absurd q2 (by omega)) (fun _ _ => rfl) (Or.inl ⟨stN_id.symm, rfl⟩)
  · skip
    have hn9 := (nF_eq (fun c => decide (σ.1 a1 c = -1)) hr21).trans y38k.symm
    refine di_aload_n rfl rfl ?_
    refine dr_virt rfl rfl rfl rfl hc4 (c_X6_refuse l hl hI hS (by omega)) (by decide) (by decide) (by decide) (Nat.le_of_ble_eq_true rfl) kQCN (kQC (fun h41 hI42 hF43 hS44 => ?_))
    have hF45 := hF43
    exact dr_iret (ty := .int) rfl rfl rfl (by decide) (by decide) (QX_ok hI42 hF45 hS44 (by omega) (by unfold spPour; (try unfold sPour); (try rw [hn9]); (repeat' split) <;> first | rfl | (exfalso; omega) | (apply Prod.ext <;> first | rfl | (dsimp only; omega) | (apply Prod.ext <;> first | rfl | (dsimp only; omega)))))
/-! ===== the model's state, told by what it means ===== -/
def MRow (k : Int) (u w : List Value) (h : dm_H) : Prop := ∀ r q : Nat, (r : Int) = 28 + k → (q : Int) = 32 + k → h[r]? = some (20, u) ∧ h[q]? = some (20, w) ∧ arr 8 okC u ∧ arr 8 anyI w
def mdF (km th ni : Int) (σ : St) : List Value := [.ref 27, .ref 31, .ref 35, dI th, dI ni, dI km, dI σ.2.1.1, dI σ.2.1.2.1, dI σ.2.1.2.2, dI σ.2.2.1, dI σ.2.2.2.1, dI σ.2.2.2.2.1, dI σ.2.2.2.2.2.1]
def sR (σ : St) : Prop := (-1 ≤ σ.2.1.1 ∧ σ.2.1.1 ≤ 2) ∧ (-1 ≤ σ.2.1.2.1 ∧ σ.2.1.2.1 ≤ 99) ∧ (-1 ≤ σ.2.1.2.2 ∧ σ.2.1.2.2 ≤ 99) ∧ (-1 ≤ σ.2.2.1 ∧ σ.2.2.1 ≤ 2) ∧ (0 ≤ σ.2.2.2.1 ∧ σ.2.2.2.1 ≤ 1) ∧ (-1 ≤ σ.2.2.2.2.1 ∧ σ.2.2.2.2.1 ≤ 9999) ∧ (σ.2.2.2.2.2.1 = -1 ∨ okC σ.2.2.2.2.2.1)
def MSt (km th : Int) (σ : St) (h : dm_H) : Prop := (∃ ni : Int, h[26]? = some (10, mdF km th ni σ) ∧ -2147483648 ≤ ni ∧ ni < 2147483648 ∧ dI ni = dI σ.2.2.2.2.2.2) ∧ sR σ ∧ (0 ≤ th ∧ th ≤ 2) ∧ ∃ us : List Value, h[35]? = some (20, us) ∧ arr 3 okS us ∧ ∀ k : Int, 0 ≤ k → k ≤ 2 → ∃ u w : List Value, MRow k u w h ∧ Rep (cv u) (cv w) (cv us k) (σ.1 k)
/-- all but the class's things and the law's own -/
def FrM (h h1 : dm_H) : Prop := h1.length = h.length ∧ ∀ j : Nat, j < 26 ∨ 36 ≤ j → h1[j]? = h[j]?
theorem FrM_rf {h : dm_H} : FrM h h := ⟨rfl, fun _ _ => rfl⟩
theorem FrM_tr {h h1 h2 : dm_H} (a : FrM h h1) (c : FrM h1 h2) : FrM h h2 := ⟨c.1.trans a.1, fun j x => (c.2 j x).trans (a.2 j x)⟩
theorem FrM_I {i : Nat} {h h1 : dm_H} (a : FrI i h h1) (hi : 26 ≤ i) (hj : i < 36) : FrM h h1 := ⟨a.1, fun j x => a.2 j (by omega)⟩
/-- all but one book's rows, the sizes, the model itself -/
def FrX (r q : Nat) (h h1 : dm_H) : Prop := ∀ j : Nat, j ≠ 26 → j ≠ 35 → j ≠ r → j ≠ q → h1[j]? = h[j]?
theorem FrX_rf {r q : Nat} {h : dm_H} : FrX r q h h := fun _ _ _ _ _ => rfl
theorem FrX_tr {r q : Nat} {h h1 h2 : dm_H} (a : FrX r q h h1) (c : FrX r q h1 h2) : FrX r q h h2 := fun j x1 x2 x3 x4 => (c j x1 x2 x3 x4).trans (a j x1 x2 x3 x4)
theorem FrX_I {r q i : Nat} {h h1 : dm_H} (a : FrI i h h1) (hi : i = 26 ∨ i = 35 ∨ i = r ∨ i = q) : FrX r q h h1 := fun j x1 x2 x3 x4 => a.2 j (by omega)
def FrA (r q : Nat) (h h1 : dm_H) : Prop := FrM h h1 ∧ FrX r q h h1
theorem FrA_rf {r q : Nat} {h : dm_H} : FrA r q h h := ⟨FrM_rf, FrX_rf⟩
theorem FrA_tr {r q : Nat} {h h1 h2 : dm_H} (a : FrA r q h h1) (c : FrA r q h1 h2) : FrA r q h h2 := ⟨FrM_tr a.1 c.1, FrX_tr a.2 c.2⟩
theorem FrA_I {r q i : Nat} {h h1 : dm_H} (a : FrI i h h1) (hi : 26 ≤ i) (hj : i < 36) (hk : i = 26 ∨ i = 35 ∨ i = r ∨ i = q) : FrA r q h h1 := ⟨FrM_I a hi hj, FrX_I a hk⟩
def stT (σ : St) (k : Int) : St := (σ.1, σ.2.1, (σ.2.2.1, if σ.2.2.1 = k then 1 else σ.2.2.2.1, σ.2.2.2.2.1, σ.2.2.2.2.2.1, σ.2.2.2.2.2.2))
section MS
variable {km th : Int} {σ : St} {h h' : dm_H}
/-- a book opened -/
theorem MSt_bk (hM : MSt km th σ h) {k : Int} (k0 : 0 ≤ k) (k1 : k ≤ 2) : ∃ (r q : Nat) (u w us : List Value), (r : Int) = (28 : Nat) + k ∧ (q : Int) = (32 : Nat) + k ∧ h[r]? = some (20, u) ∧ h[q]? = some (20, w) ∧ arr 8 okC u ∧ arr 8 anyI w ∧ h[35]? = some (20, us) ∧ arr 3 okS us ∧ Rep (cv u) (cv w) (cv us k) (σ.1 k) ∧ 0 ≤ cv us k ∧ cv us k ≤ 8 := by
  obtain ⟨-, -, -, us, h1, h2, h3⟩ := hM
  obtain ⟨u, w, hR, hr⟩ := h3 k k0 k1
  have e1 : ((28 + k).toNat : Int) = 28 + k := by omega
  have e2 : ((32 + k).toNat : Int) = 32 + k := by omega
  obtain ⟨a1, a2, a3, a4⟩ := hR (28 + k).toNat (32 + k).toNat e1 e2
  have hs := arr_cv h2 k0 (by omega)
  exact ⟨(28 + k).toNat, (32 + k).toNat, u, w, us, e1, e2, a1, a2, a3, a4, h1, h2, hr, hs.1, hs.2⟩
theorem MSt_md (hM : MSt km th σ h) (f : FrI 26 h h') {th' ni' : Int} {σ' : St} (hc : h'[26]? = some (10, mdF km th' ni' σ')) (hs : σ'.1 = σ.1) (hR : sR σ') (ht : 0 ≤ th' ∧ th' ≤ 2) (hn : -2147483648 ≤ ni' ∧ ni' < 2147483648 ∧ dI ni' = dI σ'.2.2.2.2.2.2) : MSt km th' σ' h' := by
  obtain ⟨-, -, -, us, h1, h2, h3⟩ := hM
  refine ⟨⟨ni', hc, hn⟩, hR, ht, us, (f.2 35 (by decide)).trans h1, h2, fun k k0 k1 => ?_⟩
  obtain ⟨u, w, hr, hp⟩ := h3 k k0 k1
  refine ⟨u, w, fun r q er eq => ?_, by rw [hs]; exact hp⟩
  obtain ⟨a1, a2, a3⟩ := hr r q er eq
  exact ⟨(f.2 r (by omega)).trans a1, (f.2 q (by omega)).trans a2, a3⟩
/-- one book's rows told anew -/
theorem MSt_rows (hM : MSt km th σ h) {k : Int} (k0 : 0 ≤ k) (k1 : k ≤ 2) {r q : Nat} (er : (r : Int) = (28 : Nat) + k) (eq : (q : Int) = (32 : Nat) + k) (f : FrX r q h h') {ni' : Int} (hc : h'[26]? = some (10, mdF km th ni' σ)) (hn : -2147483648 ≤ ni' ∧ ni' < 2147483648 ∧ dI ni' = dI σ.2.2.2.2.2.2) {us us' u' w' : List Value} (h35 : h[35]? = some (20, us)) (h35' : h'[35]? = some (20, us')) (hu : h'[r]? = some (20, u')) (hw : h'[q]? = some (20, w')) (au : arr 8 okC u') (aw : arr 8 anyI w') (as : arr 3 okS us') (ho : ∀ i : Int, 0 ≤ i → i ≤ 2 → i ≠ k → cv us' i = cv us i) {F : Int → Int} (hr : Rep (cv u') (cv w') (cv us' k) F) : MSt km th (stN σ k F) h' := by
  obtain ⟨-, hR, ht, us0, h1, h2, h3⟩ := hM
  have e0 : us0 = us := by
    have := h1.symm.trans h35
    simp only [Option.some.injEq, Prod.mk.injEq, true_and] at this
    exact this
  subst e0
  refine ⟨⟨ni', hc, hn⟩, hR, ht, us', h35', as, fun i i0 i1 => ?_⟩
  by_cases e : i = k
  · refine ⟨u', w', fun r9 q9 er9 eq9 => ?_, ?_⟩
    · have e1 : r9 = r := by omega
      have e2 : q9 = q := by omega
      rw [e1, e2]
      exact ⟨hu, hw, au, aw⟩
    · show Rep _ _ _ (if i = k then F else σ.1 i)
      rw [if_pos e, e]; exact hr
  · obtain ⟨u, w, hr9, hp⟩ := h3 i i0 i1
    refine ⟨u, w, fun r9 q9 er9 eq9 => ?_, ?_⟩
    · obtain ⟨a1, a2, a3⟩ := hr9 r9 q9 er9 eq9
      exact ⟨(f r9 (by omega) (by omega) (by omega) (by omega)).trans a1, (f q9 (by omega) (by omega) (by omega) (by omega)).trans a2, a3⟩
    · show Rep _ _ _ (if i = k then F else σ.1 i)
      rw [if_neg e, ho i i0 i1 e]; exact hp
theorem MSt_same (hM : MSt km th σ h) (hk : ∀ j : Nat, 26 ≤ j → j ≤ 35 → h'[j]? = h[j]?) : MSt km th σ h' := by
  obtain ⟨⟨ni, c1, c2⟩, hR, ht, us, h1, h2, h3⟩ := hM
  refine ⟨⟨ni, (hk 26 (by decide) (by decide)).trans c1, c2⟩, hR, ht, us, (hk 35 (by decide) (by decide)).trans h1, h2, fun k k0 k1 => ?_⟩
  obtain ⟨u, w, hr, hp⟩ := h3 k k0 k1
  refine ⟨u, w, fun r q er eq => ?_, hp⟩
  obtain ⟨a1, a2, a3⟩ := hr r q er eq
  exact ⟨(hk r (by omega) (by omega)).trans a1, (hk q (by omega) (by omega)).trans a2, a3⟩
end MS
def QN (kc km : Int) (h : dm_H) (th a : Int) (σ : St) : dm_Rs := fun r h' => Inv kc km h' ∧ FrM h h' ∧ MSt km th σ h' ∧ r = .inl (some (dI a))
def QNV (kc km : Int) (h : dm_H) (th : Int) (σ : St) : dm_Rs := fun r h' => Inv kc km h' ∧ FrM h h' ∧ MSt km th σ h' ∧ r = .inl none
/-- a call of the model: what it threw, the state, and, where it threw nothing, the answer -/
def QM9 (kc km : Int) (h : dm_H) (q : Int × Int × St) : dm_Rs := fun r h' => Inv kc km h' ∧ FrM h h' ∧ MSt km q.1 q.2.2 h' ∧ ∃ a : Int, r = .inl (some (dI a)) ∧ -2147483648 ≤ a ∧ a < 2147483648 ∧ (q.1 = 0 → a = q.2.1)
section QNR
variable {E : dm_Ex} {P : dm_Po} {l : Launch} {z d MC MS pc ce sl : Nat} {ls : List (Option Value)} {st : List Value} {h h' : dm_H} {kc km th a : Int} {σ : St}
theorem kNQ (kk : ∀ h1 : dm_H, Inv kc km h1 → FrM h h1 → MSt km th σ h1 → dm_W E P l z d MC MS pc ls (dI a :: st) h1 ce sl) : ∀ (v : Option Value) (h1 : dm_H), QN kc km h th a σ (.inl v) h1 → dm_W E P l z d MC MS pc ls (v.toList ++ st) h1 ce sl := by
  rintro v h1 ⟨x, y, z, e⟩
  cases e
  exact kk h1 x y z
theorem kNQV (kk : ∀ h1 : dm_H, Inv kc km h1 → FrM h h1 → MSt km th σ h1 → dm_W E P l z d MC MS pc ls st h1 ce sl) : ∀ (v : Option Value) (h1 : dm_H), QNV kc km h th σ (.inl v) h1 → dm_W E P l z d MC MS pc ls (v.toList ++ st) h1 ce sl := by
  rintro v h1 ⟨x, y, z, e⟩
  cases e
  exact kk h1 x y z
theorem kNQN : ∀ (Y : String) (h1 : dm_H), QN kc km h th a σ (.inr Y) h1 → dm_T9 E P l z d MC MS Y pc ls h1 ce sl := fun _ _ q => by cases q.2.2.2
theorem kNQVN : ∀ (Y : String) (h1 : dm_H), QNV kc km h th σ (.inr Y) h1 → dm_T9 E P l z d MC MS Y pc ls h1 ce sl := fun _ _ q => by cases q.2.2.2
theorem QM_ok {q : Int × Int × St} (hI : Inv kc km h') (hF : FrM h h') (hM : MSt km th σ h') (b0 : -2147483648 ≤ a) (b1 : a < 2147483648) (e : q = (th, a, σ)) : QM9 kc km h q (.inl (some (dI a))) h' := by
  subst e; exact ⟨hI, hF, hM, a, rfl, b0, b1, fun _ => rfl⟩
theorem QM_no {q : Int × Int × St} {x : Int} (hI : Inv kc km h') (hF : FrM h h') (hM : MSt km th σ h') (ht : th ≠ 0) (b0 : -2147483648 ≤ a) (b1 : a < 2147483648) (e : q = (th, x, σ)) : QM9 kc km h q (.inl (some (dI a))) h' := by
  subst e; exact ⟨hI, hF, hM, a, rfl, b0, b1, fun e => absurd e ht⟩
theorem QN_ok {th' a' : Int} {σ' : St} (hI : Inv kc km h') (hF : FrM h h') (hM : MSt km th' σ' h') (et : th = th') (ea : a = a') (es : σ = σ') : QN kc km h th a σ (.inl (some (dI a'))) h' := by
  subst et; subst ea; subst es; exact ⟨hI, hF, hM, rfl⟩
theorem QNV_ok {th' : Int} {σ' : St} (hI : Inv kc km h') (hF : FrM h h') (hM : MSt km th' σ' h') (et : th = th') (es : σ = σ') : QNV kc km h th σ (.inl none) h' := by
  subst et; subst es; exact ⟨hI, hF, hM, rfl⟩
end QNR
