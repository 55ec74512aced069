/-! ===== the class's calls over the state ===== -/
theorem rkp_in {F f : Int → Int} {s c x : Int} (h : rkp F f s c x) (hx : x ≠ -1) : 0 ≤ x ∧ x < s ∧ f x = c := by
  rcases h with ⟨h, -⟩ | h
  · exact absurd h hx
  · exact h
theorem rk_note {f g F : Int → Int} {s c r y : Int} (hR : Rep f g s F) (h : rkp F f s c r) (y1 : 0 ≤ r → r < s → y = g r) (y2 : r < 0 → y = -1) (y3 : s ≤ r → y = -1) : F c = y := by
  rcases h with ⟨h, h2⟩ | ⟨h0, h1, h2⟩
  · rw [h2, y2 (by omega)]
  · rw [(Rep_yes hR h0 h1 h2).1, y1 h0 h1]
noncomputable def sBring (σ : St) (k c x a : Int) : Int × St := if zF (σ.1 k) < 8 then (a, stM σ k (up (σ.1 k) c x)) else (-9, rf σ)
section R35
variable {E : dm_Ex} {P : dm_Po} {l : Launch} {z d MC MS pc ce sl : Nat} {ls : List (Option Value)} {st : List Value} {h h' : dm_H} {kc km B B' a : Int} {σ : St}
theorem QC_eq {q : Int × St} (hI : Inv kc km h') (hF : FrC h h') (hS : CSt B σ h') (hB : B ≤ B') (e : q = (a, σ)) : QC kc km h B' q.1 q.2 (.inl (some (dI a))) h' := by
  subst e; exact ⟨hI, hF, CSt_up hS hB, rfl⟩
theorem paaB {i : Nat} {e : Int} (hi : dm_at z pc = some (.aaload, 1, [])) (hh : h[i]? = some (22, [.ref 17, .ref 20, .ref 23])) (h0 : 0 ≤ e) (h1 : e ≤ 2) (kk : ∀ r : Nat, isBk r → (r : Int) = 17 + 3 * e → dm_W E P l z d MC MS (pc + 1) ls (.ref r :: st) h ce sl) : dm_W E P l z d MC MS pc ls (dI e :: .ref i :: st) h ce sl := by
  rcases (by omega : e = 0 ∨ e = 1 ∨ e = 2) with rfl | rfl | rfl
  · exact dr_aald (k := 0) hi hh (Or.inl rfl) (dI_nI 0) rfl (kk 17 (Or.inl rfl) (by decide))
  · exact dr_aald (k := 1) hi hh (Or.inl rfl) (dI_nI 1) rfl (kk 20 (Or.inr (Or.inl rfl)) (by decide))
  · exact dr_aald (k := 2) hi hh (Or.inl rfl) (dI_nI 2) rfl (kk 23 (Or.inr (Or.inr rfl)) (by decide))
end R35
set_option maxRecDepth 100000 in
theorem f_X6_bookAt (l : Launch) (hl : l.stackTraces = false) {kc km : Int} {h : dm_H} (hI : Inv kc km h) {a1 : Int} (h1a : -2147483648 ≤ a1) (h1b : a1 ≤ 2147483647) : dm_M l 113 1 1 6 [.ref 0, dI a1] h (QPX h (fun v => ∃ x : Nat, v = some (.ref x) ∧ (isBk x ∧ (x : Int) = 17 + 3 * a1 ∧ 0 ≤ a1 ∧ a1 ≤ 2)) XB (a1 < 0 ∨ 2 < a1)) := by
  refine dm_M_of dk_113 hl rfl (Nat.le_of_ble_eq_true rfl) ?_
  show dm_W (fun _ _ _ => True) (dm_P (QPX h (fun v => ∃ x : Nat, v = some (.ref x) ∧ (isBk x ∧ (x : Int) = 17 + 3 * a1 ∧ 0 ≤ a1 ∧ a1 ≤ 2)) XB (a1 < 0 ∨ 2 < a1)) 1 6) l 113 1 1 6 0 [some (.ref 0), some (dI a1)] [] h 0 0
  obtain ⟨r, c1, c2, hc⟩ := I_cls hI
  refine dr_iload_n rfl rfl ?_
  refine dr_stat rfl rfl rfl rfl (s_X6_isBook l hl hI (a0 := a1) (by omega) (by omega)) (by decide) (by decide) (by decide) (Nat.le_of_ble_eq_true rfl) kNP (kIP (fun y yf ya yb => ?_))
  obtain ⟨y0, y1, y2, y3⟩ := yf
  refine di_if_ne rfl rfl (by omega) (by omega) (fun c => ?_) (fun c => ?_)
  · refine di_aload_n rfl rfl ?_
    refine dr_getf rfl hc rfl ?_
    refine dr_iload_n rfl rfl ?_
    refine paaB rfl (I_bks hI) (by omega) (by omega) (fun r9 hr9 hk9 => ?_)
    exact dr_aret rfl rfl (Or.inl ⟨_, rfl⟩) (Or.inl ⟨_, rfl⟩) (by decide) (by decide) ⟨rfl, r9, rfl, hr9, hk9, by omega, by omega⟩
  · exact dr_throw rfl (by decide) rfl (by decide) (by decide) (by decide) (Nat.le_of_ble_eq_true rfl) ⟨rfl, rfl, by omega⟩
set_option maxRecDepth 100000 in
theorem f_X6_codeOfSpan (l : Launch) (hl : l.stackTraces = false) {kc km : Int} {h : dm_H} (hI : Inv kc km h) {a0 a1 : Int} (h0a : -2147483648 ≤ a0) (h0b : a0 ≤ 2147483647) (h1a : -2147483648 ≤ a1) (h1b : a1 ≤ 2147483647) : dm_M l 116 1 1 6 [dI a0, dI a1] h (QPX h (fun v => ∃ x : Int, v = some (dI x) ∧ (x = 100 * a1 + a0 ∧ 0 ≤ a0 ∧ a0 ≤ a1 ∧ a1 ≤ 99)) XA (a0 < 0 ∨ a1 < a0 ∨ 99 < a1)) := by
  refine dm_M_of dk_116 hl rfl (Nat.le_of_ble_eq_true rfl) ?_
  show dm_W (fun _ _ _ => True) (dm_P (QPX h (fun v => ∃ x : Int, v = some (dI x) ∧ (x = 100 * a1 + a0 ∧ 0 ≤ a0 ∧ a0 ≤ a1 ∧ a1 ≤ 99)) XA (a0 < 0 ∨ a1 < a0 ∨ 99 < a1)) 1 6) l 116 1 1 6 0 [some (dI a0), some (dI a1)] [] h 0 0
  refine dr_iload_n rfl rfl ?_
  refine di_if_lt rfl rfl (by omega) (by omega) (fun c1 => ?_) (fun c1 => ?_)
  · exact dr_throw rfl (by decide) rfl (by decide) (by decide) (by decide) (Nat.le_of_ble_eq_true rfl) ⟨rfl, rfl, by omega⟩
  refine dr_iload_n rfl rfl ?_
  refine dr_iload_n rfl rfl ?_
  refine di_icmp_lt rfl rfl (by omega) (by omega) (by omega) (by omega) (fun c2 => ?_) (fun c2 => ?_)
  · exact dr_throw rfl (by decide) rfl (by decide) (by decide) (by decide) (Nat.le_of_ble_eq_true rfl) ⟨rfl, rfl, by omega⟩
  refine dr_iload_n rfl rfl ?_
  refine di_bipush rfl (by decide) ?_
  refine di_icmp_lt rfl rfl (by omega) (by omega) (by omega) (by omega) (fun c3 => ?_) (fun c3 => ?_)
  · refine di_bipush rfl (by decide) ?_
    refine dr_iload_n rfl rfl ?_
    refine di_imul rfl ?_
    refine dr_iload_n rfl rfl ?_
    refine di_iadd rfl ?_
    exact dr_iret (ty := .int) rfl rfl rfl (by decide) (by decide) ⟨rfl, _, rfl, rfl, by omega, by omega, by omega⟩
  · exact dr_throw rfl (by decide) rfl (by decide) (by decide) (by decide) (Nat.le_of_ble_eq_true rfl) ⟨rfl, rfl, by omega⟩
set_option maxRecDepth 100000 in
theorem f_X6_needStretch (l : Launch) (hl : l.stackTraces = false) {kc km : Int} {h : dm_H} (hI : Inv kc km h) {a0 a1 : Int} (h0a : -2147483648 ≤ a0) (h0b : a0 ≤ 2147483647) (h1a : -2147483648 ≤ a1) (h1b : a1 ≤ 2147483647) : dm_M l 117 1 1 6 [dI a0, dI a1] h (QPX h (fun v => v = none ∧ (0 ≤ a0 ∧ a0 ≤ a1 ∧ a1 ≤ 99)) XA (a0 < 0 ∨ a1 < a0 ∨ 99 < a1)) := by
  refine dm_M_of dk_117 hl rfl (Nat.le_of_ble_eq_true rfl) ?_
  show dm_W (fun _ _ _ => True) (dm_P (QPX h (fun v => v = none ∧ (0 ≤ a0 ∧ a0 ≤ a1 ∧ a1 ≤ 99)) XA (a0 < 0 ∨ a1 < a0 ∨ 99 < a1)) 1 6) l 117 1 1 6 0 [some (dI a0), some (dI a1)] [] h 0 0
  refine dr_iload_n rfl rfl ?_
  refine di_if_lt rfl rfl (by omega) (by omega) (fun c1 => ?_) (fun c1 => ?_)
  · exact dr_throw rfl (by decide) rfl (by decide) (by decide) (by decide) (Nat.le_of_ble_eq_true rfl) ⟨rfl, rfl, by omega⟩
  refine dr_iload_n rfl rfl ?_
  refine dr_iload_n rfl rfl ?_
  refine di_icmp_lt rfl rfl (by omega) (by omega) (by omega) (by omega) (fun c2 => ?_) (fun c2 => ?_)
  · exact dr_throw rfl (by decide) rfl (by decide) (by decide) (by decide) (Nat.le_of_ble_eq_true rfl) ⟨rfl, rfl, by omega⟩
  refine dr_iload_n rfl rfl ?_
  refine di_bipush rfl (by decide) ?_
  refine di_icmp_lt rfl rfl (by omega) (by omega) (by omega) (by omega) (fun c3 => ?_) (fun c3 => ?_)
  · exact dr_vret rfl rfl (by decide) (by decide) ⟨rfl, rfl, by omega, by omega, by omega⟩
  · exact dr_throw rfl (by decide) rfl (by decide) (by decide) (by decide) (Nat.le_of_ble_eq_true rfl) ⟨rfl, rfl, by omega⟩
set_option maxRecDepth 100000 in
theorem f_X6_needNote (l : Launch) (hl : l.stackTraces = false) {kc km : Int} {h : dm_H} (hI : Inv kc km h) {a0 : Int} (h0a : -2147483648 ≤ a0) (h0b : a0 ≤ 2147483647) : dm_M l 119 1 1 6 [dI a0] h (QPX h (fun v => v = none ∧ (0 ≤ a0 ∧ a0 ≤ 99)) XA (a0 < 0 ∨ 99 < a0)) := by
  refine dm_M_of dk_119 hl rfl (Nat.le_of_ble_eq_true rfl) ?_
  show dm_W (fun _ _ _ => True) (dm_P (QPX h (fun v => v = none ∧ (0 ≤ a0 ∧ a0 ≤ 99)) XA (a0 < 0 ∨ 99 < a0)) 1 6) l 119 1 1 6 0 [some (dI a0)] [] h 0 0
  refine dr_iload_n rfl rfl ?_
  refine di_if_lt rfl rfl (by omega) (by omega) (fun c1 => ?_) (fun c1 => ?_)
  · exact dr_throw rfl (by decide) rfl (by decide) (by decide) (by decide) (Nat.le_of_ble_eq_true rfl) ⟨rfl, rfl, by omega⟩
  refine dr_iload_n rfl rfl ?_
  refine di_bipush rfl (by decide) ?_
  refine di_icmp_lt rfl rfl (by omega) (by omega) (by omega) (by omega) (fun c3 => ?_) (fun c3 => ?_)
  · exact dr_vret rfl rfl (by decide) (by decide) ⟨rfl, rfl, by omega, by omega⟩
  · exact dr_throw rfl (by decide) rfl (by decide) (by decide) (by decide) (Nat.le_of_ble_eq_true rfl) ⟨rfl, rfl, by omega⟩
theorem du_iaddE {E : dm_Ex} {P : dm_Po} {l : Launch} {z d MC MS pc ce sl : Nat} {ls : List (Option Value)} {st : List Value} {h : dm_H} {x y : Int} (hi : dm_at z pc = some (.iadd, 1, [])) (kk : ∀ e : Int, -2147483648 ≤ e → e < 2147483648 → dI (x + y) = dI e → dm_W E P l z d MC MS (pc + 1) ls (dI e :: st) h ce sl) : dm_W E P l z d MC MS pc ls (dI y :: dI x :: st) h ce sl := by
  obtain ⟨e, he, hx⟩ := bd_of (Int32.ofInt (x + y))
  refine di_iadd hi ?_
  have e9 : dI (x + y) = dI e := congrArg Value.int hx
  rw [e9]
  exact kk e he.1 he.2 e9
/-- a refusal told -/
theorem CSt_rf {B : Int} {σ : St} {h h' : dm_H} (hS : CSt B σ h) (hk : ∀ j : Nat, j ≠ 0 → h'[j]? = h[j]?) {kc : Int} (h0 : h'[0]? = some (8, [.ref 1, .ref 2, .ref 3, .ref 4, .ref 6, .ref 8, dI (σ.2.2.2.2.2.2 + 1), dI kc])) : CSt B (rf σ) h' := by
  obtain ⟨⟨⟨mv, hb, sn, nx, ho, q1, q2, q3, q4, q5, q6, q7, q8, q9⟩, -⟩, hp⟩ := hS
  have hc : ∀ (b : Nat) (s m : Int) (u w : List Value), b ≠ 0 → (CA b s m u w h' ↔ CA b s m u w h) := fun b s m u w kb => by
    unfold CA
    rw [hk b kb, hk (b + 1) (by omega), hk (b + 2) (by omega)]
  refine ⟨⟨⟨mv, fun k b k0 k1 kb => ?_, sn, nx, ho, (hk 3 (by omega)).trans q1, q2, q3, q4, q5, q6, q7, q8, fun g0 => ?_⟩, ⟨kc, h0⟩⟩, (hk 2 (by omega)).trans hp.1, hp.2⟩
  · obtain ⟨x, s, u, w, y1, y2, y3⟩ := hb k b k0 k1 kb
    exact ⟨x, s, u, w, (hc b _ _ _ _ (by omega)).mpr y1, y2, y3⟩
  · rcases q9 g0 with q | ⟨x, y, z⟩
    · exact Or.inl q
    · refine Or.inr ⟨x, y, fun b s u w kb hCA => z b s u w kb ((hc b _ _ _ _ ?_).mp hCA)⟩
      have kb : (b : Int) = 17 + 3 * σ.2.2.1 := kb
      have g0 : 0 ≤ σ.2.2.1 := g0
      omega
/-- the knocks told -/
theorem CSt_kn {B : Int} {σ : St} {h h' : dm_H} (hS : CSt B σ h) (hk : ∀ j : Nat, j ≠ 0 → h'[j]? = h[j]?) {kc : Int} (h0 : h'[0]? = some (8, [.ref 1, .ref 2, .ref 3, .ref 4, .ref 6, .ref 8, dI σ.2.2.2.2.2.2, dI kc])) : CSt B σ h' := by
  obtain ⟨⟨⟨mv, hb, sn, nx, ho, q1, q2, q3, q4, q5, q6, q7, q8, q9⟩, -⟩, hp⟩ := hS
  have hc : ∀ (b : Nat) (s m : Int) (u w : List Value), b ≠ 0 → (CA b s m u w h' ↔ CA b s m u w h) := fun b s m u w kb => by
    unfold CA
    rw [hk b kb, hk (b + 1) (by omega), hk (b + 2) (by omega)]
  refine ⟨⟨⟨mv, fun k b k0 k1 kb => ?_, sn, nx, ho, (hk 3 (by omega)).trans q1, q2, q3, q4, q5, q6, q7, q8, fun g0 => ?_⟩, ⟨kc, h0⟩⟩, (hk 2 (by omega)).trans hp.1, hp.2⟩
  · obtain ⟨x, s, u, w, y1, y2, y3⟩ := hb k b k0 k1 kb
    exact ⟨x, s, u, w, (hc b _ _ _ _ (by omega)).mpr y1, y2, y3⟩
  · rcases q9 g0 with q | ⟨x, y, z⟩
    · exact Or.inl q
    · exact Or.inr ⟨x, y, fun b s u w kb hCA => z b s u w kb ((hc b _ _ _ _ (by omega)).mp hCA)⟩
set_option maxRecDepth 100000 in
theorem c_X6_refuse (l : Launch) (hl : l.stackTraces = false) {kc km : Int} {h : dm_H} (hI : Inv kc km h) {B : Int} {σ : St} (hS : CSt B σ h) (_hB : B ≤ 100000) : dm_M l 107 0 0 0 [.ref 0] h (QC kc km h B (-9) (rf σ)) := by
  refine dm_M_of dk_107 hl rfl (Nat.le_of_ble_eq_true rfl) ?_
  show dm_W (fun _ _ _ => True) (dm_P (QC kc km h B (-9) (rf σ)) 0 0) l 107 0 0 0 0 [some (.ref 0)] [] h 0 0
  obtain ⟨r, c1, c2, hc⟩ := I_cls hI
  refine di_aload_n rfl rfl ?_
  refine dr_dup rfl rfl ?_
  refine dr_getf rfl hc rfl ?_
  refine di_const rfl ?_
  have hr0 : dI r = dI σ.2.2.2.2.2.2 := by
    obtain ⟨k9, hz⟩ := hS.1.2
    have e := hc.symm.trans hz
    simp only [Option.some.injEq, Prod.mk.injEq, List.cons.injEq, true_and] at e
    exact e.1
  rw [hr0]
  refine du_iaddE rfl (fun u ua ub ue => ?_)
  refine pfX rfl hc (Nat.le_of_ble_eq_true rfl) rfl hI (by decide) (T37_cls (by omega)) (fun h1 hI1 hk1 hc1 => ?_)
  refine di_bipush rfl (by decide) ?_
  exact dr_iret (ty := .int) rfl rfl rfl (by decide) (by decide) ⟨hI1, FrC_I hk1 (by decide), CSt_rf (kc := kc) hS (fun j j0 => hk1.2 j j0) (by rw [hc1, ← ue]; rfl), rfl⟩

set_option maxHeartbeats 4000000 in
set_option maxRecDepth 100000 in
/-- Earlyends.bring -/
theorem c_X6_bring (l : Launch) (hl : l.stackTraces = false) {kc km : Int} {h : dm_H} (hI : Inv kc km h) {B : Int} {σ : St} (hS : CSt B σ h) (hB : B ≤ 90000) {b1 : Nat} {k1 : Int} (hb1 : isBk b1) (k10 : 0 ≤ k1) (k11 : k1 ≤ 2) (kb1 : (b1 : Int) = 17 + 3 * k1) {a2 : Int} (h2a : 0 ≤ a2) (h2b : a2 ≤ 9999) {a3 : Int} (h3a : 0 ≤ a3) (h3b : a3 ≤ 99) {a4 : Int} (h4a : -2147483648 ≤ a4) (h4b : a4 ≤ 2147483647) (hp0 : a2 % 100 ≤ a2 / 100) (hFn : σ.1 k1 a2 = -1) : dm_M l 109 3 0 0 [.ref 0, .ref b1, dI (a2), dI (a3), dI (a4)] h (QC kc km h (B + 1) (sBring σ k1 a2 a3 a4).1 (sBring σ k1 a2 a3 a4).2) := by
  refine dm_M_of dk_109 hl rfl (Nat.le_of_ble_eq_true rfl) ?_
  show dm_W (fun _ _ _ => True) (dm_P (QC kc km h (B + 1) (sBring σ k1 a2 a3 a4).1 (sBring σ k1 a2 a3 a4).2) 0 0) l 109 3 0 0 0 [some (.ref 0), some (.ref b1), some (dI (a2)), some (dI (a3)), some (dI (a4))] [] h 0 0
  refine di_aload_n rfl rfl ?_
  obtain ⟨s1, m2, u3, w4, hc5, hr6, ht7, ma8, mb10⟩ := CSt_bk hS (k := k1) k10 k11 kb1
  have sq11 : 0 ≤ s1 ∧ s1 ≤ 8 := ⟨hc5.2.2.2.2.2.1, hc5.2.2.2.2.2.2.1⟩
  have hz12 : zF (σ.1 k1) = s1 := zF_eq hr6
  refine dr_virt rfl rfl rfl rfl hc5.1 (f_X0_count l hl hI hb1 hc5 ) (by decide) (by decide) (by decide) (Nat.le_of_ble_eq_true rfl) kNP (kIP (fun y13 y13f y13a y13b => ?_))
  obtain ⟨y13c, y13d, y13e⟩ := y13f
  have y13e2 := y13e.symm
  subst y13e2
  refine di_bipush rfl (by decide) ?_
  refine di_icmp_lt rfl rfl (by omega) (by omega) (by omega) (by omega) (fun c14 => ?_) (fun c14 => ?_)
  · skip
    refine di_aload_n rfl rfl ?_
    refine dr_iload_n rfl rfl ?_
    refine dr_iload_n rfl rfl ?_
    refine dr_virt rfl rfl rfl rfl hc5.1 (c_ins hl hI hS (by omega) k10 k11 kb1 hb1 hc5 hr6 ht7 mb10 (c := a2) (x := a3) (by omega) (by omega) (by omega) (by omega) (by omega) (by omega) (by omega)) (by decide) (by decide) (by decide) (Nat.le_of_ble_eq_true rfl) kQCVN (kQCV (fun h15 hI16 hF17 hS18 => ?_))
    have hF19 := hF17
    refine dr_iload rfl rfl ?_
    exact dr_iret (ty := .int) rfl rfl rfl (by decide) (by decide) (QC_eq hI16 hF19 hS18 (by omega) (by unfold sBring; (repeat' split) <;> first | rfl | (exfalso; omega) | (apply Prod.ext <;> first | rfl | (dsimp only; omega) | (apply Prod.ext <;> first | rfl | (dsimp only; omega)))))
  · skip
    refine di_aload_n rfl rfl ?_
    obtain ⟨r20, c21, c22, hc23⟩ := I_cls hI
    refine dr_virt rfl rfl rfl rfl hc23 (c_X6_refuse l hl hI hS (by omega)) (by decide) (by decide) (by decide) (Nat.le_of_ble_eq_true rfl) kQCN (kQC (fun h24 hI25 hF26 hS27 => ?_))
    have hF28 := hF26
    exact dr_iret (ty := .int) rfl rfl rfl (by decide) (by decide) (QC_eq hI25 hF28 hS27 (by omega) (by unfold sBring; (repeat' split) <;> first | rfl | (exfalso; omega) | (apply Prod.ext <;> first | rfl | (dsimp only; omega) | (apply Prod.ext <;> first | rfl | (dsimp only; omega)))))
set_option maxHeartbeats 4000000 in
set_option maxRecDepth 100000 in
/-- Earlyends.setOrBring -/
theorem c_X6_setOrBring (l : Launch) (hl : l.stackTraces = false) {kc km : Int} {h : dm_H} (hI : Inv kc km h) {B : Int} {σ : St} (hS : CSt B σ h) (hB : B ≤ 90000) {b1 : Nat} {k1 : Int} (hb1 : isBk b1) (k10 : 0 ≤ k1) (k11 : k1 ≤ 2) (kb1 : (b1 : Int) = 17 + 3 * k1) {a2 : Int} (h2a : 0 ≤ a2) (h2b : a2 ≤ 9999) {a3 : Int} (h3a : 0 ≤ a3) (h3b : a3 ≤ 99) (hp0 : a2 % 100 ≤ a2 / 100) : dm_M l 108 4 0 0 [.ref 0, .ref b1, dI (a2), dI (a3)] h (QC kc km h (B + 1) (sPut σ k1 a2 a3).1 (sPut σ k1 a2 a3).2) := by
  refine dm_M_of dk_108 hl rfl (Nat.le_of_ble_eq_true rfl) ?_
  show dm_W (fun _ _ _ => True) (dm_P (QC kc km h (B + 1) (sPut σ k1 a2 a3).1 (sPut σ k1 a2 a3).2) 0 0) l 108 4 0 0 0 [some (.ref 0), some (.ref b1), some (dI (a2)), some (dI (a3)), none] [] h 0 0
  refine di_aload_n rfl rfl ?_
  refine dr_iload_n rfl rfl ?_
  obtain ⟨s1, m2, u3, w4, hc5, hr6, ht7, ma8, mb10⟩ := CSt_bk hS (k := k1) k10 k11 kb1
  have sq11 : 0 ≤ s1 ∧ s1 ≤ 8 := ⟨hc5.2.2.2.2.2.1, hc5.2.2.2.2.2.2.1⟩
  have hz12 : zF (σ.1 k1) = s1 := zF_eq hr6
  refine dr_virt rfl rfl rfl rfl hc5.1 (f_X0_rankOf l hl hI hb1 hc5 (a1 := a2) (by omega) (by omega) hr6 ht7) (by decide) (by decide) (by decide) (Nat.le_of_ble_eq_true rfl) kNP (kIP (fun y13 y13f y13a y13b => ?_))
  obtain ⟨y13c, y13d, y13k⟩ := y13f
  refine di_istore (ls2 := [some (.ref 0), some (.ref b1), some (dI (a2)), some (dI (a3)), some (dI (y13))]) rfl rfl rfl ?_
  refine dr_iload rfl rfl ?_
  refine di_const rfl ?_
  refine di_icmp_ne rfl rfl (by omega) (by omega) (by omega) (by omega) (fun c14 => ?_) (fun c14 => ?_)
  · skip
    have hFy16 := rkp_y hr6 y13k (by omega)
    have hri15 := rkp_in y13k (by omega)
    refine di_aload_n rfl rfl ?_
    refine dr_iload rfl rfl ?_
    refine dr_iload_n rfl rfl ?_
    refine dr_virt rfl rfl rfl rfl hc5.1 (c_swap hl hI hS k10 k11 kb1 hb1 hc5 hr6 hri15.1 hri15.2.1 hri15.2.2 (x := a3) (by omega) (by omega)) (by decide) (by decide) (by decide) (Nat.le_of_ble_eq_true rfl) kQCN (kQC (fun h17 hI18 hF19 hS20 => ?_))
    have hF21 := hF19
    exact dr_iret (ty := .int) rfl rfl rfl (by decide) (by decide) (QC_eq hI18 hF21 hS20 (by omega) (by unfold sPut; (try unfold sBring); (repeat' split) <;> first | rfl | (exfalso; omega) | (apply Prod.ext <;> first | rfl | (dsimp only; omega) | (apply Prod.ext <;> first | rfl | (dsimp only; omega)))))
  · skip
    have hFn22 := rkp_n y13k (by omega)
    refine di_aload_n rfl rfl ?_
    refine di_aload_n rfl rfl ?_
    refine dr_iload_n rfl rfl ?_
    refine dr_iload_n rfl rfl ?_
    refine di_const rfl ?_
    obtain ⟨r23, c24, c25, hc26⟩ := I_cls hI
    refine dr_virt rfl rfl rfl rfl hc26 (c_X6_bring l hl hI hS (by omega) hb1 k10 k11 kb1 (a2 := a2) (by omega) (by omega) (a3 := a3) (by omega) (by omega) (a4 := (-1)) (by omega) (by omega) (by omega) (by assumption)) (by decide) (by decide) (by decide) (Nat.le_of_ble_eq_true rfl) kQCN (kQC (fun h27 hI28 hF29 hS30 => ?_))
    have hF31 := hF29
    refine dr_goto rfl rfl ?_
    exact dr_iret (ty := .int) rfl rfl rfl (by decide) (by decide) (QC_eq hI28 hF31 hS30 (by omega) (by unfold sPut; (try unfold sBring); (repeat' split) <;> first | rfl | (exfalso; omega) | (apply Prod.ext <;> first | rfl | (dsimp only; omega) | (apply Prod.ext <;> first | rfl | (dsimp only; omega)))))
set_option maxHeartbeats 4000000 in
set_option maxRecDepth 100000 in
/-- Earlyends.removeTold -/
theorem c_X6_removeTold (l : Launch) (hl : l.stackTraces = false) {kc km : Int} {h : dm_H} (hI : Inv kc km h) {B : Int} {σ : St} (hS : CSt B σ h) (hB : B ≤ 90000) {b0 : Nat} {k0 : Int} (hb0 : isBk b0) (k00 : 0 ≤ k0) (k01 : k0 ≤ 2) (kb0 : (b0 : Int) = 17 + 3 * k0) {a1 : Int} (h1a : -1 ≤ a1) (h1b : a1 ≤ 8) {s m : Int} {u w : List Value} (hc : CA b0 s m u w h) (hr : Rep (cv u) (cv w) s (σ.1 k0)) (ht : Srt (cv u) s) (ma : 0 ≤ m) (mb : m ≤ B) {c : Int} (hk : rkp (σ.1 k0) (cv u) s c a1) : dm_M l 110 2 0 0 [.ref b0, dI (a1)] h (QC kc km h (B + 1) (sTake σ k0 c).1 (sTake σ k0 c).2) := by
  refine dm_M_of dk_110 hl rfl (Nat.le_of_ble_eq_true rfl) ?_
  show dm_W (fun _ _ _ => True) (dm_P (QC kc km h (B + 1) (sTake σ k0 c).1 (sTake σ k0 c).2) 0 0) l 110 2 0 0 0 [some (.ref b0), some (dI (a1)), none] [] h 0 0
  have sq : 0 ≤ s ∧ s ≤ 8 := ⟨hc.2.2.2.2.2.1, hc.2.2.2.2.2.2.1⟩
  have hz : zF (σ.1 k0) = s := zF_eq hr
  refine di_aload_n rfl rfl ?_
  refine dr_iload_n rfl rfl ?_
  refine dr_virt rfl rfl rfl rfl hc.1 (f_X0_noteAt l hl hI hb0 hc (a1 := a1) (by omega) (by omega)) (by decide) (by decide) (by decide) (Nat.le_of_ble_eq_true rfl) kNP (kIP (fun y1 y1f y1a y1b => ?_))
  obtain ⟨y1c, y1d, y1k, y1k2, y1k3⟩ := y1f
  have y1n : (σ.1 k0) c = y1 := rk_note hr hk y1k y1k2 y1k3
  have y1q := Rep_ge hr c
  clear y1k y1k2 y1k3
  subst y1n
  refine di_istore_n (ls2 := [some (.ref b0), some (dI (a1)), some (dI (((σ.1 k0) c)))]) rfl rfl rfl ?_
  refine di_aload_n rfl rfl ?_
  refine dr_iload_n rfl rfl ?_
  by_cases cc2 : a1 = -1
  · skip
    have hFn3 := rkp_n hk cc2
    have em4 : a1 = -1 := by omega
    rw [em4]
    refine dr_virt rfl rfl rfl rfl hc.1 (c_rem_no hl hI hS (by omega) k00 k01 kb0 hb0 hc hr mb) (by decide) (by decide) (by decide) (Nat.le_of_ble_eq_true rfl) kQCVN (kQCV (fun h5 hI6 hF7 hS8 => ?_))
    have hF10 := hF7
    refine dr_iload_n rfl rfl ?_
    exact dr_iret (ty := .int) rfl rfl rfl (by decide) (by decide) (QC_eq hI6 hF10 hS8 (by omega) (by unfold sTake; (repeat' split) <;> first | rfl | (exfalso; omega) | (apply Prod.ext <;> first | rfl | (dsimp only; omega) | (apply Prod.ext <;> first | rfl | (dsimp only; omega)))))
  · skip
    have hFy12 := rkp_y hr hk cc2
    have hri11 := rkp_in hk cc2
    refine dr_virt rfl rfl rfl rfl hc.1 (c_rem hl hI hS (by omega) k00 k01 kb0 hb0 hc hr ht mb hri11.1 hri11.2.1 hri11.2.2) (by decide) (by decide) (by decide) (Nat.le_of_ble_eq_true rfl) kQCVN (kQCV (fun h13 hI14 hF15 hS16 => ?_))
    have hF17 := hF15
    refine dr_iload_n rfl rfl ?_
    exact dr_iret (ty := .int) rfl rfl rfl (by decide) (by decide) (QC_eq hI14 hF17 hS16 (by omega) (by unfold sTake; (repeat' split) <;> first | rfl | (exfalso; omega) | (apply Prod.ext <;> first | rfl | (dsimp only; omega) | (apply Prod.ext <;> first | rfl | (dsimp only; omega)))))
set_option maxHeartbeats 4000000 in
set_option maxRecDepth 100000 in
/-- Earlyends.put -/
theorem c_X6_put (l : Launch) (hl : l.stackTraces = false) {kc km : Int} {h : dm_H} (hI : Inv kc km h) {B : Int} {σ : St} (hS : CSt B σ h) (hB : B ≤ 80000) {a1 : Int} (h1a : -2147483648 ≤ a1) (h1b : a1 ≤ 2147483647) {a2 : Int} (h2a : -2147483648 ≤ a2) (h2b : a2 ≤ 2147483647) {a3 : Int} (h3a : -2147483648 ≤ a3) (h3b : a3 ≤ 2147483647) {a4 : Int} (h4a : -2147483648 ≤ a4) (h4b : a4 ≤ 2147483647) : dm_M l 55 6 8 48 [.ref 0, dI (a1), dI (a2), dI (a3), dI (a4)] h (QX kc km h (B + 20) XB XA (spPut σ a1 a2 a3 a4)) := by
  refine dm_M_of dk_55 hl rfl (Nat.le_of_ble_eq_true rfl) ?_
  show dm_W (fun _ _ _ => True) (dm_P (QX kc km h (B + 20) XB XA (spPut σ a1 a2 a3 a4)) 8 48) l 55 6 8 48 0 [some (.ref 0), some (dI (a1)), some (dI (a2)), some (dI (a3)), some (dI (a4)), none, none] [] h 0 0
  refine di_aload_n rfl rfl ?_
  refine dr_iload_n rfl rfl ?_
  obtain ⟨r1, c2, c3, hc4⟩ := I_cls hI
  refine dr_virt rfl rfl rfl rfl hc4 (f_X6_bookAt l hl hI (a1 := a1) (by omega) (by omega)) (by decide) (by decide) (by decide) (Nat.le_of_ble_eq_true rfl) (fun Y h9 q9 => by obtain ⟨rfl, rfl, hC⟩ := q9; exact dr_out rfl (by decide) (by decide) (QX_1 (a := 0) hI FrC_rf hS (by omega) (by unfold spPut; (repeat' split) <;> first | rfl | (exfalso; omega) | (apply Prod.ext <;> first | rfl | (dsimp only; omega) | (apply Prod.ext <;> first | rfl | (dsimp only; omega)))))) (kPXR (fun r5 ⟨q6, q7, q8, q10⟩ => ?_))
  refine di_astore (ls2 := [some (.ref 0), some (dI (a1)), some (dI (a2)), some (dI (a3)), some (dI (a4)), some (.ref r5), none]) rfl rfl rfl ?_
  refine dr_iload_n rfl rfl ?_
  refine dr_iload_n rfl rfl ?_
  refine dr_stat rfl rfl rfl rfl (f_X6_codeOfSpan l hl hI (a0 := a2) (by omega) (by omega) (a1 := a3) (by omega) (by omega)) (by decide) (by decide) (by decide) (Nat.le_of_ble_eq_true rfl) (fun Y h9 q9 => by obtain ⟨rfl, rfl, hC⟩ := q9; exact dr_out rfl (by decide) (by decide) (QX_2 (a := 0) hI FrC_rf hS (by omega) (by unfold spPut; (repeat' split) <;> first | rfl | (exfalso; omega) | (apply Prod.ext <;> first | rfl | (dsimp only; omega) | (apply Prod.ext <;> first | rfl | (dsimp only; omega)))))) (kPXI (fun y11 ⟨q12, q13, q14, q15⟩ => ?_))
  subst q12
  refine di_istore (ls2 := [some (.ref 0), some (dI (a1)), some (dI (a2)), some (dI (a3)), some (dI (a4)), some (.ref r5), some (dI ((100 * a3 + a2)))]) rfl rfl rfl ?_
  refine dr_iload rfl rfl ?_
  refine dr_stat rfl rfl rfl rfl (f_X6_needNote l hl hI (a0 := a4) (by omega) (by omega)) (by decide) (by decide) (by decide) (Nat.le_of_ble_eq_true rfl) (fun Y h9 q9 => by obtain ⟨rfl, rfl, hC⟩ := q9; exact dr_out rfl (by decide) (by decide) (QX_2 (a := 0) hI FrC_rf hS (by omega) (by unfold spPut; (repeat' split) <;> first | rfl | (exfalso; omega) | (apply Prod.ext <;> first | rfl | (dsimp only; omega) | (apply Prod.ext <;> first | rfl | (dsimp only; omega)))))) (kPXV (fun q16 => ?_))
  refine di_aload_n rfl rfl ?_
  refine di_aload rfl rfl ?_
  refine dr_iload rfl rfl ?_
  refine dr_iload rfl rfl ?_
  obtain ⟨s17, m18, u19, w20, hc21, hr22, ht23, ma24, mb25⟩ := CSt_bk hS (k := a1) q8 q10 q7
  have sq26 : 0 ≤ s17 ∧ s17 ≤ 8 := ⟨hc21.2.2.2.2.2.1, hc21.2.2.2.2.2.2.1⟩
  have hz27 : zF (σ.1 a1) = s17 := zF_eq hr22
  refine dr_virt rfl rfl rfl rfl hc4 (c_X6_setOrBring l hl hI hS (by omega) q6 q8 q10 q7 (a2 := (100 * a3 + a2)) (by omega) (by omega) (a3 := a4) (by omega) (by omega) (by omega)) (by decide) (by decide) (by decide) (Nat.le_of_ble_eq_true rfl) kQCN (kQC (fun h28 hI29 hF30 hS31 => ?_))
  have hF32 := hF30
  exact dr_iret (ty := .int) rfl rfl rfl (by decide) (by decide) (QX_ok hI29 hF32 hS31 (by omega) (by unfold spPut; (repeat' split) <;> first | rfl | (exfalso; omega) | (apply Prod.ext <;> first | rfl | (dsimp only; omega) | (apply Prod.ext <;> first | rfl | (dsimp only; omega)))))
set_option maxHeartbeats 4000000 in
set_option maxRecDepth 100000 in
/-- Earlyends.add -/
theorem c_X6_add (l : Launch) (hl : l.stackTraces = false) {kc km : Int} {h : dm_H} (hI : Inv kc km h) {B : Int} {σ : St} (hS : CSt B σ h) (hB : B ≤ 80000) {a1 : Int} (h1a : -2147483648 ≤ a1) (h1b : a1 ≤ 2147483647) {a2 : Int} (h2a : -2147483648 ≤ a2) (h2b : a2 ≤ 2147483647) {a3 : Int} (h3a : -2147483648 ≤ a3) (h3b : a3 ≤ 2147483647) {a4 : Int} (h4a : -2147483648 ≤ a4) (h4b : a4 ≤ 2147483647) : dm_M l 56 6 8 48 [.ref 0, dI (a1), dI (a2), dI (a3), dI (a4)] h (QX kc km h (B + 20) XB XA (spAdd σ a1 a2 a3 a4)) := by
  refine dm_M_of dk_56 hl rfl (Nat.le_of_ble_eq_true rfl) ?_
  show dm_W (fun _ _ _ => True) (dm_P (QX kc km h (B + 20) XB XA (spAdd σ a1 a2 a3 a4)) 8 48) l 56 6 8 48 0 [some (.ref 0), some (dI (a1)), some (dI (a2)), some (dI (a3)), some (dI (a4)), none, none, none] [] h 0 0
  refine di_aload_n rfl rfl ?_
  refine dr_iload_n rfl rfl ?_
  obtain ⟨r1, c2, c3, hc4⟩ := I_cls hI
  refine dr_virt rfl rfl rfl rfl hc4 (f_X6_bookAt l hl hI (a1 := a1) (by omega) (by omega)) (by decide) (by decide) (by decide) (Nat.le_of_ble_eq_true rfl) (fun Y h9 q9 => by obtain ⟨rfl, rfl, hC⟩ := q9; exact dr_out rfl (by decide) (by decide) (QX_1 (a := 0) hI FrC_rf hS (by omega) (by unfold spAdd; (try unfold sPut); (try unfold sBring); (repeat' split) <;> first | rfl | (exfalso; omega) | (apply Prod.ext <;> first | rfl | (dsimp only; omega) | (apply Prod.ext <;> first | rfl | (dsimp only; omega)))))) (kPXR (fun r5 ⟨q6, q7, q8, q10⟩ => ?_))
  refine di_astore (ls2 := [some (.ref 0), some (dI (a1)), some (dI (a2)), some (dI (a3)), some (dI (a4)), some (.ref r5), none, none]) rfl rfl rfl ?_
  refine dr_iload_n rfl rfl ?_
  refine dr_iload_n rfl rfl ?_
  refine dr_stat rfl rfl rfl rfl (f_X6_codeOfSpan l hl hI (a0 := a2) (by omega) (by omega) (a1 := a3) (by omega) (by omega)) (by decide) (by decide) (by decide) (Nat.le_of_ble_eq_true rfl) (fun Y h9 q9 => by obtain ⟨rfl, rfl, hC⟩ := q9; exact dr_out rfl (by decide) (by decide) (QX_2 (a := 0) hI FrC_rf hS (by omega) (by unfold spAdd; (try unfold sPut); (try unfold sBring); (repeat' split) <;> first | rfl | (exfalso; omega) | (apply Prod.ext <;> first | rfl | (dsimp only; omega) | (apply Prod.ext <;> first | rfl | (dsimp only; omega)))))) (kPXI (fun y11 ⟨q12, q13, q14, q15⟩ => ?_))
  subst q12
  refine di_istore (ls2 := [some (.ref 0), some (dI (a1)), some (dI (a2)), some (dI (a3)), some (dI (a4)), some (.ref r5), some (dI ((100 * a3 + a2))), none]) rfl rfl rfl ?_
  refine dr_iload rfl rfl ?_
  refine dr_stat rfl rfl rfl rfl (f_X6_needNote l hl hI (a0 := a4) (by omega) (by omega)) (by decide) (by decide) (by decide) (Nat.le_of_ble_eq_true rfl) (fun Y h9 q9 => by obtain ⟨rfl, rfl, hC⟩ := q9; exact dr_out rfl (by decide) (by decide) (QX_2 (a := 0) hI FrC_rf hS (by omega) (by unfold spAdd; (try unfold sPut); (try unfold sBring); (repeat' split) <;> first | rfl | (exfalso; omega) | (apply Prod.ext <;> first | rfl | (dsimp only; omega) | (apply Prod.ext <;> first | rfl | (dsimp only; omega)))))) (kPXV (fun q16 => ?_))
  refine di_aload rfl rfl ?_
  refine dr_iload rfl rfl ?_
  obtain ⟨s17, m18, u19, w20, hc21, hr22, ht23, ma24, mb25⟩ := CSt_bk hS (k := a1) q8 q10 q7
  have sq26 : 0 ≤ s17 ∧ s17 ≤ 8 := ⟨hc21.2.2.2.2.2.1, hc21.2.2.2.2.2.2.1⟩
  have hz27 : zF (σ.1 a1) = s17 := zF_eq hr22
  refine dr_virt rfl rfl rfl rfl hc21.1 (f_X0_rankOf l hl hI q6 hc21 (a1 := (100 * a3 + a2)) (by omega) (by omega) hr22 ht23) (by decide) (by decide) (by decide) (Nat.le_of_ble_eq_true rfl) kNP (kIP (fun y28 y28f y28a y28b => ?_))
  obtain ⟨y28c, y28d, y28k⟩ := y28f
  refine di_istore (ls2 := [some (.ref 0), some (dI (a1)), some (dI (a2)), some (dI (a3)), some (dI (a4)), some (.ref r5), some (dI ((100 * a3 + a2))), some (dI (y28))]) rfl rfl rfl ?_
  refine dr_iload rfl rfl ?_
  refine di_const rfl ?_
  refine di_icmp_ne rfl rfl (by omega) (by omega) (by omega) (by omega) (fun c29 => ?_) (fun c29 => ?_)
  · skip
    have hFy31 := rkp_y hr22 y28k (by omega)
    have hri30 := rkp_in y28k (by omega)
    refine di_aload rfl rfl ?_
    refine dr_iload rfl rfl ?_
    refine dr_virt rfl rfl rfl rfl hc21.1 (f_X0_noteAt l hl hI q6 hc21 (a1 := y28) (by omega) (by omega)) (by decide) (by decide) (by decide) (Nat.le_of_ble_eq_true rfl) kNP (kIP (fun y32 y32f y32a y32b => ?_))
    obtain ⟨y32c, y32d, y32k, y32k2, y32k3⟩ := y32f
    have y32n : (σ.1 a1) (100 * a3 + a2) = y32 := rk_note hr22 y28k y32k y32k2 y32k3
    have y32q := Rep_ge hr22 (100 * a3 + a2)
    clear y32k y32k2 y32k3
    subst y32n
    exact dr_iret (ty := .int) rfl rfl rfl (by decide) (by decide) (QX_ok hI FrC_rf hS (by omega) (by unfold spAdd; (try unfold sPut); (try unfold sBring); (repeat' split) <;> first | rfl | (exfalso; omega) | (apply Prod.ext <;> first | rfl | (dsimp only; omega) | (apply Prod.ext <;> first | rfl | (dsimp only; omega)))))
  · skip
    have hFn33 := rkp_n y28k (by omega)
    refine di_aload_n rfl rfl ?_
    refine di_aload rfl rfl ?_
    refine dr_iload rfl rfl ?_
    refine dr_iload rfl rfl ?_
    refine di_const rfl ?_
    refine dr_virt rfl rfl rfl rfl hc4 (c_X6_bring l hl hI hS (by omega) q6 q8 q10 q7 (a2 := (100 * a3 + a2)) (by omega) (by omega) (a3 := a4) (by omega) (by omega) (a4 := (-1)) (by omega) (by omega) (by omega) (by assumption)) (by decide) (by decide) (by decide) (Nat.le_of_ble_eq_true rfl) kQCN (kQC (fun h34 hI35 hF36 hS37 => ?_))
    have hF38 := hF36
    refine dr_goto rfl rfl ?_
    exact dr_iret (ty := .int) rfl rfl rfl (by decide) (by decide) (QX_ok hI35 hF38 hS37 (by omega) (by unfold spAdd; (try unfold sPut); (try unfold sBring); (repeat' split) <;> first | rfl | (exfalso; omega) | (apply Prod.ext <;> first | rfl | (dsimp only; omega) | (apply Prod.ext <;> first | rfl | (dsimp only; omega)))))
set_option maxHeartbeats 4000000 in
set_option maxRecDepth 100000 in
/-- Earlyends.more -/
theorem c_X6_more (l : Launch) (hl : l.stackTraces = false) {kc km : Int} {h : dm_H} (hI : Inv kc km h) {B : Int} {σ : St} (hS : CSt B σ h) (hB : B ≤ 80000) {a1 : Int} (h1a : -2147483648 ≤ a1) (h1b : a1 ≤ 2147483647) {a2 : Int} (h2a : -2147483648 ≤ a2) (h2b : a2 ≤ 2147483647) {a3 : Int} (h3a : -2147483648 ≤ a3) (h3b : a3 ≤ 2147483647) {a4 : Int} (h4a : -2147483648 ≤ a4) (h4b : a4 ≤ 2147483647) : dm_M l 57 6 8 48 [.ref 0, dI (a1), dI (a2), dI (a3), dI (a4)] h (QX kc km h (B + 20) XB XA (spMore σ a1 a2 a3 a4)) := by
  refine dm_M_of dk_57 hl rfl (Nat.le_of_ble_eq_true rfl) ?_
  show dm_W (fun _ _ _ => True) (dm_P (QX kc km h (B + 20) XB XA (spMore σ a1 a2 a3 a4)) 8 48) l 57 6 8 48 0 [some (.ref 0), some (dI (a1)), some (dI (a2)), some (dI (a3)), some (dI (a4)), none, none, none, none] [] h 0 0
  refine di_aload_n rfl rfl ?_
  refine dr_iload_n rfl rfl ?_
  obtain ⟨r1, c2, c3, hc4⟩ := I_cls hI
  refine dr_virt rfl rfl rfl rfl hc4 (f_X6_bookAt l hl hI (a1 := a1) (by omega) (by omega)) (by decide) (by decide) (by decide) (Nat.le_of_ble_eq_true rfl) (fun Y h9 q9 => by obtain ⟨rfl, rfl, hC⟩ := q9; exact dr_out rfl (by decide) (by decide) (QX_1 (a := 0) hI FrC_rf hS (by omega) (by unfold spMore; (try unfold sMore); (try unfold sBring); (repeat' split) <;> first | rfl | (exfalso; omega) | (apply Prod.ext <;> first | rfl | (dsimp only; omega) | (apply Prod.ext <;> first | rfl | (dsimp only; omega)))))) (kPXR (fun r5 ⟨q6, q7, q8, q10⟩ => ?_))
  refine di_astore (ls2 := [some (.ref 0), some (dI (a1)), some (dI (a2)), some (dI (a3)), some (dI (a4)), some (.ref r5), none, none, none]) rfl rfl rfl ?_
  refine dr_iload_n rfl rfl ?_
  refine dr_iload_n rfl rfl ?_
  refine dr_stat rfl rfl rfl rfl (f_X6_codeOfSpan l hl hI (a0 := a2) (by omega) (by omega) (a1 := a3) (by omega) (by omega)) (by decide) (by decide) (by decide) (Nat.le_of_ble_eq_true rfl) (fun Y h9 q9 => by obtain ⟨rfl, rfl, hC⟩ := q9; exact dr_out rfl (by decide) (by decide) (QX_2 (a := 0) hI FrC_rf hS (by omega) (by unfold spMore; (try unfold sMore); (try unfold sBring); (repeat' split) <;> first | rfl | (exfalso; omega) | (apply Prod.ext <;> first | rfl | (dsimp only; omega) | (apply Prod.ext <;> first | rfl | (dsimp only; omega)))))) (kPXI (fun y11 ⟨q12, q13, q14, q15⟩ => ?_))
  subst q12
  refine di_istore (ls2 := [some (.ref 0), some (dI (a1)), some (dI (a2)), some (dI (a3)), some (dI (a4)), some (.ref r5), some (dI ((100 * a3 + a2))), none, none]) rfl rfl rfl ?_
  refine dr_iload rfl rfl ?_
  refine dr_stat rfl rfl rfl rfl (f_X6_needNote l hl hI (a0 := a4) (by omega) (by omega)) (by decide) (by decide) (by decide) (Nat.le_of_ble_eq_true rfl) (fun Y h9 q9 => by obtain ⟨rfl, rfl, hC⟩ := q9; exact dr_out rfl (by decide) (by decide) (QX_2 (a := 0) hI FrC_rf hS (by omega) (by unfold spMore; (try unfold sMore); (try unfold sBring); (repeat' split) <;> first | rfl | (exfalso; omega) | (apply Prod.ext <;> first | rfl | (dsimp only; omega) | (apply Prod.ext <;> first | rfl | (dsimp only; omega)))))) (kPXV (fun q16 => ?_))
  refine di_aload rfl rfl ?_
  refine dr_iload rfl rfl ?_
  obtain ⟨s17, m18, u19, w20, hc21, hr22, ht23, ma24, mb25⟩ := CSt_bk hS (k := a1) q8 q10 q7
  have sq26 : 0 ≤ s17 ∧ s17 ≤ 8 := ⟨hc21.2.2.2.2.2.1, hc21.2.2.2.2.2.2.1⟩
  have hz27 : zF (σ.1 a1) = s17 := zF_eq hr22
  refine dr_virt rfl rfl rfl rfl hc21.1 (f_X0_rankOf l hl hI q6 hc21 (a1 := (100 * a3 + a2)) (by omega) (by omega) hr22 ht23) (by decide) (by decide) (by decide) (Nat.le_of_ble_eq_true rfl) kNP (kIP (fun y28 y28f y28a y28b => ?_))
  obtain ⟨y28c, y28d, y28k⟩ := y28f
  refine di_istore (ls2 := [some (.ref 0), some (dI (a1)), some (dI (a2)), some (dI (a3)), some (dI (a4)), some (.ref r5), some (dI ((100 * a3 + a2))), some (dI (y28)), none]) rfl rfl rfl ?_
  refine dr_iload rfl rfl ?_
  refine di_const rfl ?_
  refine di_icmp_ne rfl rfl (by omega) (by omega) (by omega) (by omega) (fun c29 => ?_) (fun c29 => ?_)
  · skip
    have hFy31 := rkp_y hr22 y28k (by omega)
    have hri30 := rkp_in y28k (by omega)
    refine di_aload rfl rfl ?_
    refine dr_iload rfl rfl ?_
    refine dr_virt rfl rfl rfl rfl hc21.1 (f_X0_noteAt l hl hI q6 hc21 (a1 := y28) (by omega) (by omega)) (by decide) (by decide) (by decide) (Nat.le_of_ble_eq_true rfl) kNP (kIP (fun y32 y32f y32a y32b => ?_))
    obtain ⟨y32c, y32d, y32k, y32k2, y32k3⟩ := y32f
    have y32n : (σ.1 a1) (100 * a3 + a2) = y32 := rk_note hr22 y28k y32k y32k2 y32k3
    have y32q := Rep_ge hr22 (100 * a3 + a2)
    clear y32k y32k2 y32k3
    subst y32n
    refine dr_iload rfl rfl ?_
    refine di_iadd rfl ?_
    refine di_bipush rfl (by decide) ?_
    refine di_irem rfl (by omega) (by omega) (by omega) (by omega) ?_
    refine di_istore (ls2 := [some (.ref 0), some (dI (a1)), some (dI (a2)), some (dI (a3)), some (dI (a4)), some (.ref r5), some (dI ((100 * a3 + a2))), some (dI (y28)), some (dI (((((σ.1 a1) (100 * a3 + a2)) + a4) % 100)))]) rfl rfl rfl ?_
    refine di_aload rfl rfl ?_
    refine dr_iload rfl rfl ?_
    refine dr_iload rfl rfl ?_
    refine dr_virt rfl rfl rfl rfl hc21.1 (c_swap hl hI hS q8 q10 q7 q6 hc21 hr22 hri30.1 hri30.2.1 hri30.2.2 (x := ((((σ.1 a1) (100 * a3 + a2)) + a4) % 100)) (by omega) (by omega)) (by decide) (by decide) (by decide) (Nat.le_of_ble_eq_true rfl) kQCN (kQC (fun h33 hI34 hF35 hS36 => ?_))
    have hF37 := hF35
    refine dr_pop rfl rfl ?_
    refine dr_iload rfl rfl ?_
    exact dr_iret (ty := .int) rfl rfl rfl (by decide) (by decide) (QX_ok hI34 hF37 hS36 (by omega) (by unfold spMore; (try unfold sMore); (try unfold sBring); (repeat' split) <;> first | rfl | (exfalso; omega) | (apply Prod.ext <;> first | rfl | (dsimp only; omega) | (apply Prod.ext <;> first | rfl | (dsimp only; omega)))))
  · skip
    have hFn38 := rkp_n y28k (by omega)
    refine di_aload_n rfl rfl ?_
    refine di_aload rfl rfl ?_
    refine dr_iload rfl rfl ?_
    refine dr_iload rfl rfl ?_
    refine dr_iload rfl rfl ?_
    refine dr_virt rfl rfl rfl rfl hc4 (c_X6_bring l hl hI hS (by omega) q6 q8 q10 q7 (a2 := (100 * a3 + a2)) (by omega) (by omega) (a3 := a4) (by omega) (by omega) (a4 := a4) (by omega) (by omega) (by omega) (by assumption)) (by decide) (by decide) (by decide) (Nat.le_of_ble_eq_true rfl) kQCN (kQC (fun h39 hI40 hF41 hS42 => ?_))
    have hF43 := hF41
    exact dr_iret (ty := .int) rfl rfl rfl (by decide) (by decide) (QX_ok hI40 hF43 hS42 (by omega) (by unfold spMore; (try unfold sMore); (try unfold sBring); (repeat' split) <;> first | rfl | (exfalso; omega) | (apply Prod.ext <;> first | rfl | (dsimp only; omega) | (apply Prod.ext <;> first | rfl | (dsimp only; omega)))))
set_option maxHeartbeats 4000000 in
set_option maxRecDepth 100000 in
/-- Earlyends.change -/
theorem c_X6_change (l : Launch) (hl : l.stackTraces = false) {kc km : Int} {h : dm_H} (hI : Inv kc km h) {B : Int} {σ : St} (hS : CSt B σ h) (hB : B ≤ 80000) {a1 : Int} (h1a : -2147483648 ≤ a1) (h1b : a1 ≤ 2147483647) {a2 : Int} (h2a : -2147483648 ≤ a2) (h2b : a2 ≤ 2147483647) {a3 : Int} (h3a : -2147483648 ≤ a3) (h3b : a3 ≤ 2147483647) {a4 : Int} (h4a : -2147483648 ≤ a4) (h4b : a4 ≤ 2147483647) : dm_M l 58 6 8 48 [.ref 0, dI (a1), dI (a2), dI (a3), dI (a4)] h (QX kc km h (B + 20) XB XA (spChange σ a1 a2 a3 a4)) := by
  refine dm_M_of dk_58 hl rfl (Nat.le_of_ble_eq_true rfl) ?_
  show dm_W (fun _ _ _ => True) (dm_P (QX kc km h (B + 20) XB XA (spChange σ a1 a2 a3 a4)) 8 48) l 58 6 8 48 0 [some (.ref 0), some (dI (a1)), some (dI (a2)), some (dI (a3)), some (dI (a4)), none, none] [] h 0 0
  refine di_aload_n rfl rfl ?_
  refine dr_iload_n rfl rfl ?_
  obtain ⟨r1, c2, c3, hc4⟩ := I_cls hI
  refine dr_virt rfl rfl rfl rfl hc4 (f_X6_bookAt l hl hI (a1 := a1) (by omega) (by omega)) (by decide) (by decide) (by decide) (Nat.le_of_ble_eq_true rfl) (fun Y h9 q9 => by obtain ⟨rfl, rfl, hC⟩ := q9; exact dr_out rfl (by decide) (by decide) (QX_1 (a := 0) hI FrC_rf hS (by omega) (by unfold spChange; (repeat' split) <;> first | rfl | (exfalso; omega) | (apply Prod.ext <;> first | rfl | (dsimp only; omega) | (apply Prod.ext <;> first | rfl | (dsimp only; omega)))))) (kPXR (fun r5 ⟨q6, q7, q8, q10⟩ => ?_))
  refine di_astore (ls2 := [some (.ref 0), some (dI (a1)), some (dI (a2)), some (dI (a3)), some (dI (a4)), some (.ref r5), none]) rfl rfl rfl ?_
  refine dr_iload_n rfl rfl ?_
  refine dr_iload_n rfl rfl ?_
  refine dr_stat rfl rfl rfl rfl (f_X6_codeOfSpan l hl hI (a0 := a2) (by omega) (by omega) (a1 := a3) (by omega) (by omega)) (by decide) (by decide) (by decide) (Nat.le_of_ble_eq_true rfl) (fun Y h9 q9 => by obtain ⟨rfl, rfl, hC⟩ := q9; exact dr_out rfl (by decide) (by decide) (QX_2 (a := 0) hI FrC_rf hS (by omega) (by unfold spChange; (repeat' split) <;> first | rfl | (exfalso; omega) | (apply Prod.ext <;> first | rfl | (dsimp only; omega) | (apply Prod.ext <;> first | rfl | (dsimp only; omega)))))) (kPXI (fun y11 ⟨q12, q13, q14, q15⟩ => ?_))
  subst q12
  refine di_istore (ls2 := [some (.ref 0), some (dI (a1)), some (dI (a2)), some (dI (a3)), some (dI (a4)), some (.ref r5), some (dI ((100 * a3 + a2)))]) rfl rfl rfl ?_
  refine dr_iload rfl rfl ?_
  refine dr_stat rfl rfl rfl rfl (f_X6_needNote l hl hI (a0 := a4) (by omega) (by omega)) (by decide) (by decide) (by decide) (Nat.le_of_ble_eq_true rfl) (fun Y h9 q9 => by obtain ⟨rfl, rfl, hC⟩ := q9; exact dr_out rfl (by decide) (by decide) (QX_2 (a := 0) hI FrC_rf hS (by omega) (by unfold spChange; (repeat' split) <;> first | rfl | (exfalso; omega) | (apply Prod.ext <;> first | rfl | (dsimp only; omega) | (apply Prod.ext <;> first | rfl | (dsimp only; omega)))))) (kPXV (fun q16 => ?_))
  refine di_aload rfl rfl ?_
  refine di_aload rfl rfl ?_
  refine dr_iload rfl rfl ?_
  obtain ⟨s17, m18, u19, w20, hc21, hr22, ht23, ma24, mb25⟩ := CSt_bk hS (k := a1) q8 q10 q7
  have sq26 : 0 ≤ s17 ∧ s17 ≤ 8 := ⟨hc21.2.2.2.2.2.1, hc21.2.2.2.2.2.2.1⟩
  have hz27 : zF (σ.1 a1) = s17 := zF_eq hr22
  refine dr_virt rfl rfl rfl rfl hc21.1 (f_X0_rankOf l hl hI q6 hc21 (a1 := (100 * a3 + a2)) (by omega) (by omega) hr22 ht23) (by decide) (by decide) (by decide) (Nat.le_of_ble_eq_true rfl) kNP (kIP (fun y28 y28f y28a y28b => ?_))
  obtain ⟨y28c, y28d, y28k⟩ := y28f
  refine dr_iload rfl rfl ?_
  by_cases cc29 : y28 = -1
  · skip
    have hFn30 := rkp_n y28k cc29
    have em31 : y28 = -1 := by omega
    rw [em31]
    refine dr_virt rfl rfl rfl rfl hc21.1 (c_swap_no hl hI hS q8 q10 q7 q6 hc21 hr22 (by omega) (by omega)) (by decide) (by decide) (by decide) (Nat.le_of_ble_eq_true rfl) kQCN (kQC (fun h32 hI33 hF34 hS35 => ?_))
    have hF36 := hF34
    exact dr_iret (ty := .int) rfl rfl rfl (by decide) (by decide) (QX_ok hI33 hF36 hS35 (by omega) (by unfold spChange; (repeat' split) <;> first | rfl | (exfalso; omega) | (apply Prod.ext <;> first | rfl | (dsimp only; omega) | (apply Prod.ext <;> first | rfl | (dsimp only; omega)))))
  · skip
    have hFy38 := rkp_y hr22 y28k cc29
    have hri37 := rkp_in y28k cc29
    refine dr_virt rfl rfl rfl rfl hc21.1 (c_swap hl hI hS q8 q10 q7 q6 hc21 hr22 hri37.1 hri37.2.1 hri37.2.2 (x := a4) (by omega) (by omega)) (by decide) (by decide) (by decide) (Nat.le_of_ble_eq_true rfl) kQCN (kQC (fun h39 hI40 hF41 hS42 => ?_))
    have hF43 := hF41
    exact dr_iret (ty := .int) rfl rfl rfl (by decide) (by decide) (QX_ok hI40 hF43 hS42 (by omega) (by unfold spChange; (repeat' split) <;> first | rfl | (exfalso; omega) | (apply Prod.ext <;> first | rfl | (dsimp only; omega) | (apply Prod.ext <;> first | rfl | (dsimp only; omega)))))
set_option maxHeartbeats 4000000 in
set_option maxRecDepth 100000 in
/-- Earlyends.changeIf -/
theorem c_X6_changeIf (l : Launch) (hl : l.stackTraces = false) {kc km : Int} {h : dm_H} (hI : Inv kc km h) {B : Int} {σ : St} (hS : CSt B σ h) (hB : B ≤ 80000) {a1 : Int} (h1a : -2147483648 ≤ a1) (h1b : a1 ≤ 2147483647) {a2 : Int} (h2a : -2147483648 ≤ a2) (h2b : a2 ≤ 2147483647) {a3 : Int} (h3a : -2147483648 ≤ a3) (h3b : a3 ≤ 2147483647) {a4 : Int} (h4a : -2147483648 ≤ a4) (h4b : a4 ≤ 2147483647) {a5 : Int} (h5a : -2147483648 ≤ a5) (h5b : a5 ≤ 2147483647) : dm_M l 59 6 8 48 [.ref 0, dI (a1), dI (a2), dI (a3), dI (a4), dI (a5)] h (QX kc km h (B + 20) XB XA (spChangeIf σ a1 a2 a3 a4 a5)) := by
  refine dm_M_of dk_59 hl rfl (Nat.le_of_ble_eq_true rfl) ?_
  show dm_W (fun _ _ _ => True) (dm_P (QX kc km h (B + 20) XB XA (spChangeIf σ a1 a2 a3 a4 a5)) 8 48) l 59 6 8 48 0 [some (.ref 0), some (dI (a1)), some (dI (a2)), some (dI (a3)), some (dI (a4)), some (dI (a5)), none, none, none] [] h 0 0
  refine di_aload_n rfl rfl ?_
  refine dr_iload_n rfl rfl ?_
  obtain ⟨r1, c2, c3, hc4⟩ := I_cls hI
  refine dr_virt rfl rfl rfl rfl hc4 (f_X6_bookAt l hl hI (a1 := a1) (by omega) (by omega)) (by decide) (by decide) (by decide) (Nat.le_of_ble_eq_true rfl) (fun Y h9 q9 => by obtain ⟨rfl, rfl, hC⟩ := q9; exact dr_out rfl (by decide) (by decide) (QX_1 (a := 0) hI FrC_rf hS (by omega) (by unfold spChangeIf; (repeat' split) <;> first | rfl | (exfalso; omega) | (apply Prod.ext <;> first | rfl | (dsimp only; omega) | (apply Prod.ext <;> first | rfl | (dsimp only; omega)))))) (kPXR (fun r5 ⟨q6, q7, q8, q10⟩ => ?_))
  refine di_astore (ls2 := [some (.ref 0), some (dI (a1)), some (dI (a2)), some (dI (a3)), some (dI (a4)), some (dI (a5)), some (.ref r5), none, none]) rfl rfl rfl ?_
  refine dr_iload_n rfl rfl ?_
  refine dr_iload_n rfl rfl ?_
  refine dr_stat rfl rfl rfl rfl (f_X6_codeOfSpan l hl hI (a0 := a2) (by omega) (by omega) (a1 := a3) (by omega) (by omega)) (by decide) (by decide) (by decide) (Nat.le_of_ble_eq_true rfl) (fun Y h9 q9 => by obtain ⟨rfl, rfl, hC⟩ := q9; exact dr_out rfl (by decide) (by decide) (QX_2 (a := 0) hI FrC_rf hS (by omega) (by unfold spChangeIf; (repeat' split) <;> first | rfl | (exfalso; omega) | (apply Prod.ext <;> first | rfl | (dsimp only; omega) | (apply Prod.ext <;> first | rfl | (dsimp only; omega)))))) (kPXI (fun y11 ⟨q12, q13, q14, q15⟩ => ?_))
  subst q12
  refine di_istore (ls2 := [some (.ref 0), some (dI (a1)), some (dI (a2)), some (dI (a3)), some (dI (a4)), some (dI (a5)), some (.ref r5), some (dI ((100 * a3 + a2))), none]) rfl rfl rfl ?_
  refine dr_iload rfl rfl ?_
  refine dr_stat rfl rfl rfl rfl (f_X6_needNote l hl hI (a0 := a4) (by omega) (by omega)) (by decide) (by decide) (by decide) (Nat.le_of_ble_eq_true rfl) (fun Y h9 q9 => by obtain ⟨rfl, rfl, hC⟩ := q9; exact dr_out rfl (by decide) (by decide) (QX_2 (a := 0) hI FrC_rf hS (by omega) (by unfold spChangeIf; (repeat' split) <;> first | rfl | (exfalso; omega) | (apply Prod.ext <;> first | rfl | (dsimp only; omega) | (apply Prod.ext <;> first | rfl | (dsimp only; omega)))))) (kPXV (fun q16 => ?_))
  refine dr_iload rfl rfl ?_
  refine dr_stat rfl rfl rfl rfl (f_X6_needNote l hl hI (a0 := a5) (by omega) (by omega)) (by decide) (by decide) (by decide) (Nat.le_of_ble_eq_true rfl) (fun Y h9 q9 => by obtain ⟨rfl, rfl, hC⟩ := q9; exact dr_out rfl (by decide) (by decide) (QX_2 (a := 0) hI FrC_rf hS (by omega) (by unfold spChangeIf; (repeat' split) <;> first | rfl | (exfalso; omega) | (apply Prod.ext <;> first | rfl | (dsimp only; omega) | (apply Prod.ext <;> first | rfl | (dsimp only; omega)))))) (kPXV (fun q17 => ?_))
  refine di_aload rfl rfl ?_
  refine dr_iload rfl rfl ?_
  obtain ⟨s18, m19, u20, w21, hc22, hr23, ht24, ma25, mb26⟩ := CSt_bk hS (k := a1) q8 q10 q7
  have sq27 : 0 ≤ s18 ∧ s18 ≤ 8 := ⟨hc22.2.2.2.2.2.1, hc22.2.2.2.2.2.2.1⟩
  have hz28 : zF (σ.1 a1) = s18 := zF_eq hr23
  refine dr_virt rfl rfl rfl rfl hc22.1 (f_X0_rankOf l hl hI q6 hc22 (a1 := (100 * a3 + a2)) (by omega) (by omega) hr23 ht24) (by decide) (by decide) (by decide) (Nat.le_of_ble_eq_true rfl) kNP (kIP (fun y29 y29f y29a y29b => ?_))
  obtain ⟨y29c, y29d, y29k⟩ := y29f
  refine di_istore (ls2 := [some (.ref 0), some (dI (a1)), some (dI (a2)), some (dI (a3)), some (dI (a4)), some (dI (a5)), some (.ref r5), some (dI ((100 * a3 + a2))), some (dI (y29))]) rfl rfl rfl ?_
  refine di_aload rfl rfl ?_
  refine dr_iload rfl rfl ?_
  refine dr_virt rfl rfl rfl rfl hc22.1 (f_X0_noteAt l hl hI q6 hc22 (a1 := y29) (by omega) (by omega)) (by decide) (by decide) (by decide) (Nat.le_of_ble_eq_true rfl) kNP (kIP (fun y30 y30f y30a y30b => ?_))
  obtain ⟨y30c, y30d, y30k, y30k2, y30k3⟩ := y30f
  have y30n : (σ.1 a1) (100 * a3 + a2) = y30 := rk_note hr23 y29k y30k y30k2 y30k3
  have y30q := Rep_ge hr23 (100 * a3 + a2)
  clear y30k y30k2 y30k3
  subst y30n
  refine dr_iload rfl rfl ?_
  refine di_icmp_eq rfl rfl (by omega) (by omega) (by omega) (by omega) (fun c31 => ?_) (fun c31 => ?_)
  · skip
    refine di_aload rfl rfl ?_
    refine dr_iload rfl rfl ?_
    refine dr_iload rfl rfl ?_
    by_cases cc32 : y29 = -1
    · skip
      have hFn33 := rkp_n y29k cc32
      have em34 : y29 = -1 := by omega
      rw [em34]
      refine dr_virt rfl rfl rfl rfl hc22.1 (c_swap_no hl hI hS q8 q10 q7 q6 hc22 hr23 (by omega) (by omega)) (by decide) (by decide) (by decide) (Nat.le_of_ble_eq_true rfl) kQCN (kQC (fun h35 hI36 hF37 hS38 => ?_))
      have hF39 := hF37
      refine dr_pop rfl rfl ?_
      refine di_const rfl ?_
      exact dr_iret (ty := .int) rfl rfl rfl (by decide) (by decide) (QX_ok hI36 hF39 hS38 (by omega) (by unfold spChangeIf; (repeat' split) <;> first | rfl | (exfalso; omega) | (apply Prod.ext <;> first | rfl | (dsimp only; omega) | (apply Prod.ext <;> first | rfl | (dsimp only; omega)))))
    · skip
      have hFy41 := rkp_y hr23 y29k cc32
      have hri40 := rkp_in y29k cc32
      refine dr_virt rfl rfl rfl rfl hc22.1 (c_swap hl hI hS q8 q10 q7 q6 hc22 hr23 hri40.1 hri40.2.1 hri40.2.2 (x := a5) (by omega) (by omega)) (by decide) (by decide) (by decide) (Nat.le_of_ble_eq_true rfl) kQCN (kQC (fun h42 hI43 hF44 hS45 => ?_))
      have hF46 := hF44
      refine dr_pop rfl rfl ?_
      refine di_const rfl ?_
      exact dr_iret (ty := .int) rfl rfl rfl (by decide) (by decide) (QX_ok hI43 hF46 hS45 (by omega) (by unfold spChangeIf; (repeat' split) <;> first | rfl | (exfalso; omega) | (apply Prod.ext <;> first | rfl | (dsimp only; omega) | (apply Prod.ext <;> first | rfl | (dsimp only; omega)))))
  · skip
    refine di_const rfl ?_
    exact dr_iret (ty := .int) rfl rfl rfl (by decide) (by decide) (QX_ok hI FrC_rf hS (by omega) (by unfold spChangeIf; (repeat' split) <;> first | rfl | (exfalso; omega) | (apply Prod.ext <;> first | rfl | (dsimp only; omega) | (apply Prod.ext <;> first | rfl | (dsimp only; omega)))))
set_option maxHeartbeats 4000000 in
set_option maxRecDepth 100000 in
/-- Earlyends.take -/
theorem c_X6_take (l : Launch) (hl : l.stackTraces = false) {kc km : Int} {h : dm_H} (hI : Inv kc km h) {B : Int} {σ : St} (hS : CSt B σ h) (hB : B ≤ 80000) {a1 : Int} (h1a : -2147483648 ≤ a1) (h1b : a1 ≤ 2147483647) {a2 : Int} (h2a : -2147483648 ≤ a2) (h2b : a2 ≤ 2147483647) {a3 : Int} (h3a : -2147483648 ≤ a3) (h3b : a3 ≤ 2147483647) : dm_M l 60 6 8 48 [.ref 0, dI (a1), dI (a2), dI (a3)] h (QX kc km h (B + 20) XB XA (spTake σ a1 a2 a3)) := by
  refine dm_M_of dk_60 hl rfl (Nat.le_of_ble_eq_true rfl) ?_
  show dm_W (fun _ _ _ => True) (dm_P (QX kc km h (B + 20) XB XA (spTake σ a1 a2 a3)) 8 48) l 60 6 8 48 0 [some (.ref 0), some (dI (a1)), some (dI (a2)), some (dI (a3)), none, none] [] h 0 0
  refine di_aload_n rfl rfl ?_
  refine dr_iload_n rfl rfl ?_
  obtain ⟨r1, c2, c3, hc4⟩ := I_cls hI
  refine dr_virt rfl rfl rfl rfl hc4 (f_X6_bookAt l hl hI (a1 := a1) (by omega) (by omega)) (by decide) (by decide) (by decide) (Nat.le_of_ble_eq_true rfl) (fun Y h9 q9 => by obtain ⟨rfl, rfl, hC⟩ := q9; exact dr_out rfl (by decide) (by decide) (QX_1 (a := 0) hI FrC_rf hS (by omega) (by unfold spTake; (repeat' split) <;> first | rfl | (exfalso; omega) | (apply Prod.ext <;> first | rfl | (dsimp only; omega) | (apply Prod.ext <;> first | rfl | (dsimp only; omega)))))) (kPXR (fun r5 ⟨q6, q7, q8, q10⟩ => ?_))
  refine di_astore (ls2 := [some (.ref 0), some (dI (a1)), some (dI (a2)), some (dI (a3)), some (.ref r5), none]) rfl rfl rfl ?_
  refine dr_iload_n rfl rfl ?_
  refine dr_iload_n rfl rfl ?_
  refine dr_stat rfl rfl rfl rfl (f_X6_codeOfSpan l hl hI (a0 := a2) (by omega) (by omega) (a1 := a3) (by omega) (by omega)) (by decide) (by decide) (by decide) (Nat.le_of_ble_eq_true rfl) (fun Y h9 q9 => by obtain ⟨rfl, rfl, hC⟩ := q9; exact dr_out rfl (by decide) (by decide) (QX_2 (a := 0) hI FrC_rf hS (by omega) (by unfold spTake; (repeat' split) <;> first | rfl | (exfalso; omega) | (apply Prod.ext <;> first | rfl | (dsimp only; omega) | (apply Prod.ext <;> first | rfl | (dsimp only; omega)))))) (kPXI (fun y11 ⟨q12, q13, q14, q15⟩ => ?_))
  subst q12
  refine di_istore (ls2 := [some (.ref 0), some (dI (a1)), some (dI (a2)), some (dI (a3)), some (.ref r5), some (dI ((100 * a3 + a2)))]) rfl rfl rfl ?_
  refine di_aload rfl rfl ?_
  refine di_aload rfl rfl ?_
  refine dr_iload rfl rfl ?_
  obtain ⟨s16, m17, u18, w19, hc20, hr21, ht22, ma23, mb24⟩ := CSt_bk hS (k := a1) q8 q10 q7
  have sq25 : 0 ≤ s16 ∧ s16 ≤ 8 := ⟨hc20.2.2.2.2.2.1, hc20.2.2.2.2.2.2.1⟩
  have hz26 : zF (σ.1 a1) = s16 := zF_eq hr21
  refine dr_virt rfl rfl rfl rfl hc20.1 (f_X0_rankOf l hl hI q6 hc20 (a1 := (100 * a3 + a2)) (by omega) (by omega) hr21 ht22) (by decide) (by decide) (by decide) (Nat.le_of_ble_eq_true rfl) kNP (kIP (fun y27 y27f y27a y27b => ?_))
  obtain ⟨y27c, y27d, y27k⟩ := y27f
  refine dr_stat rfl rfl rfl rfl (c_X6_removeTold l hl hI hS (by omega) q6 q8 q10 q7 (a1 := y27) (by omega) (by omega) hc20 hr21 ht22 ma23 mb24 y27k) (by decide) (by decide) (by decide) (Nat.le_of_ble_eq_true rfl) kQCN (kQC (fun h28 hI29 hF30 hS31 => ?_))
  have hF32 := hF30
  exact dr_iret (ty := .int) rfl rfl rfl (by decide) (by decide) (QX_ok hI29 hF32 hS31 (by omega) (by unfold spTake; (repeat' split) <;> first | rfl | (exfalso; omega) | (apply Prod.ext <;> first | rfl | (dsimp only; omega) | (apply Prod.ext <;> first | rfl | (dsimp only; omega)))))
set_option maxHeartbeats 4000000 in
set_option maxRecDepth 100000 in
/-- Earlyends.takeIf -/
theorem c_X6_takeIf (l : Launch) (hl : l.stackTraces = false) {kc km : Int} {h : dm_H} (hI : Inv kc km h) {B : Int} {σ : St} (hS : CSt B σ h) (hB : B ≤ 80000) {a1 : Int} (h1a : -2147483648 ≤ a1) (h1b : a1 ≤ 2147483647) {a2 : Int} (h2a : -2147483648 ≤ a2) (h2b : a2 ≤ 2147483647) {a3 : Int} (h3a : -2147483648 ≤ a3) (h3b : a3 ≤ 2147483647) {a4 : Int} (h4a : -2147483648 ≤ a4) (h4b : a4 ≤ 2147483647) : dm_M l 61 6 8 48 [.ref 0, dI (a1), dI (a2), dI (a3), dI (a4)] h (QX kc km h (B + 20) XB XA (spTakeIf σ a1 a2 a3 a4)) := by
  refine dm_M_of dk_61 hl rfl (Nat.le_of_ble_eq_true rfl) ?_
  show dm_W (fun _ _ _ => True) (dm_P (QX kc km h (B + 20) XB XA (spTakeIf σ a1 a2 a3 a4)) 8 48) l 61 6 8 48 0 [some (.ref 0), some (dI (a1)), some (dI (a2)), some (dI (a3)), some (dI (a4)), none, none, none] [] h 0 0
  refine di_aload_n rfl rfl ?_
  refine dr_iload_n rfl rfl ?_
  obtain ⟨r1, c2, c3, hc4⟩ := I_cls hI
  refine dr_virt rfl rfl rfl rfl hc4 (f_X6_bookAt l hl hI (a1 := a1) (by omega) (by omega)) (by decide) (by decide) (by decide) (Nat.le_of_ble_eq_true rfl) (fun Y h9 q9 => by obtain ⟨rfl, rfl, hC⟩ := q9; exact dr_out rfl (by decide) (by decide) (QX_1 (a := 0) hI FrC_rf hS (by omega) (by unfold spTakeIf; (repeat' split) <;> first | rfl | (exfalso; omega) | (apply Prod.ext <;> first | rfl | (dsimp only; omega) | (apply Prod.ext <;> first | rfl | (dsimp only; omega)))))) (kPXR (fun r5 ⟨q6, q7, q8, q10⟩ => ?_))
  refine di_astore (ls2 := [some (.ref 0), some (dI (a1)), some (dI (a2)), some (dI (a3)), some (dI (a4)), some (.ref r5), none, none]) rfl rfl rfl ?_
  refine dr_iload_n rfl rfl ?_
  refine dr_iload_n rfl rfl ?_
  refine dr_stat rfl rfl rfl rfl (f_X6_codeOfSpan l hl hI (a0 := a2) (by omega) (by omega) (a1 := a3) (by omega) (by omega)) (by decide) (by decide) (by decide) (Nat.le_of_ble_eq_true rfl) (fun Y h9 q9 => by obtain ⟨rfl, rfl, hC⟩ := q9; exact dr_out rfl (by decide) (by decide) (QX_2 (a := 0) hI FrC_rf hS (by omega) (by unfold spTakeIf; (repeat' split) <;> first | rfl | (exfalso; omega) | (apply Prod.ext <;> first | rfl | (dsimp only; omega) | (apply Prod.ext <;> first | rfl | (dsimp only; omega)))))) (kPXI (fun y11 ⟨q12, q13, q14, q15⟩ => ?_))
  subst q12
  refine di_istore (ls2 := [some (.ref 0), some (dI (a1)), some (dI (a2)), some (dI (a3)), some (dI (a4)), some (.ref r5), some (dI ((100 * a3 + a2))), none]) rfl rfl rfl ?_
  refine dr_iload rfl rfl ?_
  refine dr_stat rfl rfl rfl rfl (f_X6_needNote l hl hI (a0 := a4) (by omega) (by omega)) (by decide) (by decide) (by decide) (Nat.le_of_ble_eq_true rfl) (fun Y h9 q9 => by obtain ⟨rfl, rfl, hC⟩ := q9; exact dr_out rfl (by decide) (by decide) (QX_2 (a := 0) hI FrC_rf hS (by omega) (by unfold spTakeIf; (repeat' split) <;> first | rfl | (exfalso; omega) | (apply Prod.ext <;> first | rfl | (dsimp only; omega) | (apply Prod.ext <;> first | rfl | (dsimp only; omega)))))) (kPXV (fun q16 => ?_))
  refine di_aload rfl rfl ?_
  refine dr_iload rfl rfl ?_
  obtain ⟨s17, m18, u19, w20, hc21, hr22, ht23, ma24, mb25⟩ := CSt_bk hS (k := a1) q8 q10 q7
  have sq26 : 0 ≤ s17 ∧ s17 ≤ 8 := ⟨hc21.2.2.2.2.2.1, hc21.2.2.2.2.2.2.1⟩
  have hz27 : zF (σ.1 a1) = s17 := zF_eq hr22
  refine dr_virt rfl rfl rfl rfl hc21.1 (f_X0_rankOf l hl hI q6 hc21 (a1 := (100 * a3 + a2)) (by omega) (by omega) hr22 ht23) (by decide) (by decide) (by decide) (Nat.le_of_ble_eq_true rfl) kNP (kIP (fun y28 y28f y28a y28b => ?_))
  obtain ⟨y28c, y28d, y28k⟩ := y28f
  refine di_istore (ls2 := [some (.ref 0), some (dI (a1)), some (dI (a2)), some (dI (a3)), some (dI (a4)), some (.ref r5), some (dI ((100 * a3 + a2))), some (dI (y28))]) rfl rfl rfl ?_
  refine di_aload rfl rfl ?_
  refine dr_iload rfl rfl ?_
  refine dr_virt rfl rfl rfl rfl hc21.1 (f_X0_noteAt l hl hI q6 hc21 (a1 := y28) (by omega) (by omega)) (by decide) (by decide) (by decide) (Nat.le_of_ble_eq_true rfl) kNP (kIP (fun y29 y29f y29a y29b => ?_))
  obtain ⟨y29c, y29d, y29k, y29k2, y29k3⟩ := y29f
  have y29n : (σ.1 a1) (100 * a3 + a2) = y29 := rk_note hr22 y28k y29k y29k2 y29k3
  have y29q := Rep_ge hr22 (100 * a3 + a2)
  clear y29k y29k2 y29k3
  subst y29n
  refine dr_iload rfl rfl ?_
  refine di_icmp_eq rfl rfl (by omega) (by omega) (by omega) (by omega) (fun c30 => ?_) (fun c30 => ?_)
  · skip
    refine di_aload rfl rfl ?_
    refine dr_iload rfl rfl ?_
    by_cases cc31 : y28 = -1
    · skip
      have hFn32 := rkp_n y28k cc31
      have em33 : y28 = -1 := by omega
      rw [em33]
      refine dr_virt rfl rfl rfl rfl hc21.1 (c_rem_no hl hI hS (by omega) q8 q10 q7 q6 hc21 hr22 mb25) (by decide) (by decide) (by decide) (Nat.le_of_ble_eq_true rfl) kQCVN (kQCV (fun h34 hI35 hF36 hS37 => ?_))
      have hF38 := hF36
      refine di_const rfl ?_
      exact dr_iret (ty := .int) rfl rfl rfl (by decide) (by decide) (QX_ok hI35 hF38 hS37 (by omega) (by unfold spTakeIf; (repeat' split) <;> first | rfl | (exfalso; omega) | (apply Prod.ext <;> first | rfl | (dsimp only; omega) | (apply Prod.ext <;> first | rfl | (dsimp only; omega)))))
    · skip
      have hFy40 := rkp_y hr22 y28k cc31
      have hri39 := rkp_in y28k cc31
      refine dr_virt rfl rfl rfl rfl hc21.1 (c_rem hl hI hS (by omega) q8 q10 q7 q6 hc21 hr22 ht23 mb25 hri39.1 hri39.2.1 hri39.2.2) (by decide) (by decide) (by decide) (Nat.le_of_ble_eq_true rfl) kQCVN (kQCV (fun h41 hI42 hF43 hS44 => ?_))
      have hF45 := hF43
      refine di_const rfl ?_
      exact dr_iret (ty := .int) rfl rfl rfl (by decide) (by decide) (QX_ok hI42 hF45 hS44 (by omega) (by unfold spTakeIf; (repeat' split) <;> first | rfl | (exfalso; omega) | (apply Prod.ext <;> first | rfl | (dsimp only; omega) | (apply Prod.ext <;> first | rfl | (dsimp only; omega)))))
  · skip
    refine di_const rfl ?_
    exact dr_iret (ty := .int) rfl rfl rfl (by decide) (by decide) (QX_ok hI FrC_rf hS (by omega) (by unfold spTakeIf; (repeat' split) <;> first | rfl | (exfalso; omega) | (apply Prod.ext <;> first | rfl | (dsimp only; omega) | (apply Prod.ext <;> first | rfl | (dsimp only; omega)))))
/-! ===== draws, the part ===== -/
theorem tn_no {f g F : Int → Int} {s x : Int} (hr : Rep f g s F) (hn : ∀ j : Int, 0 ≤ j → j < s → g j ≠ x) : lst F (fun c => decide (F c = x)) = -1 := lst_no (fun c hc => by
  obtain ⟨j, j0, j1, e⟩ := hr.2.1 c hc
  have := (Rep_yes hr j0 j1 e).1
  exact decide_eq_false (by rw [this]; exact hn j j0 j1))
theorem tn_yes {f g F : Int → Int} {s x y : Int} (hr : Rep f g s F) (ht : Srt f s) (h0 : 0 ≤ y) (h1 : y < s) (hx : g y = x) (hn : ∀ j : Int, 0 ≤ j → j < y → g j ≠ x) : lst F (fun c => decide (F c = x)) = f y := lst_eq (by
  obtain ⟨q1, q2, -⟩ := Rep_yes hr h0 h1 rfl
  refine ⟨q2, decide_eq_true (q1.trans hx), fun c hc hP => ?_⟩
  obtain ⟨j, j0, j1, e⟩ := hr.2.1 c hc
  have a := (Rep_yes hr j0 j1 e).1
  have b : F c = x := of_decide_eq_true hP
  by_cases q : j < y
  · exact absurd (a.symm.trans b) (hn j j0 q)
  · by_cases q3 : j = y
    · rw [← e, q3]; exact Int.le_refl _
    · have := ht y j h0 (by omega) j1
      omega)
def rgP (f : Int → Int) (s a e : Int) (P : Int → Bool) : Prop := 0 ≤ a ∧ e ≤ s ∧ ∀ j : Int, 0 ≤ j → j < s → (P (f j) = true ↔ a ≤ j ∧ j < e)
theorem dw_no {f g F : Int → Int} {s a e : Int} {P : Int → Bool} (hr : Rep f g s F) (hP : rgP f s a e P) (h : e ≤ a) : lst F P = -1 ∧ grt F P = -1 := by
  have k : ∀ c, F c ≠ -1 → P c = false := fun c hc => by
    obtain ⟨j, j0, j1, e9⟩ := hr.2.1 c hc
    have := hP.2.2 j j0 j1
    rw [e9] at this
    cases hPc : P c with
    | false => rfl
    | true => have := this.mp hPc; omega
  exact ⟨lst_no k, grt_no k⟩
theorem dw_l {f g F : Int → Int} {s a e : Int} {P : Int → Bool} (hr : Rep f g s F) (ht : Srt f s) (hP : rgP f s a e P) (h : a < e) : lst F P = f a := by
  obtain ⟨p0, p1, p2⟩ := hP
  refine lst_eq ⟨(Rep_yes hr p0 (by omega) rfl).2.1, (p2 a p0 (by omega)).mpr ⟨Int.le_refl _, h⟩, fun c hc hPc => ?_⟩
  obtain ⟨j, j0, j1, e9⟩ := hr.2.1 c hc
  rw [← e9] at hPc
  have := (p2 j j0 j1).mp hPc
  by_cases q : j = a
  · rw [← e9, q]; exact Int.le_refl _
  · have := ht a j p0 (by omega) j1
    omega
theorem dw_g {f g F : Int → Int} {s a e : Int} {P : Int → Bool} (hr : Rep f g s F) (ht : Srt f s) (hP : rgP f s a e P) (h : a < e) : grt F P = f (e - 1) := by
  obtain ⟨p0, p1, p2⟩ := hP
  refine grt_eq ⟨(Rep_yes hr (by omega) (by omega) rfl).2.1, (p2 (e - 1) (by omega) (by omega)).mpr ⟨by omega, by omega⟩, fun c hc hPc => ?_⟩
  obtain ⟨j, j0, j1, e9⟩ := hr.2.1 c hc
  rw [← e9] at hPc
  have := (p2 j j0 j1).mp hPc
  by_cases q : j = e - 1
  · rw [← e9, q]; exact Int.le_refl _
  · have := ht j (e - 1) j0 (by omega) (by omega)
    omega
theorem cnt_rg {f : Int → Int} {P : Int → Bool} {a e : Int} : ∀ n : Nat, (∀ j : Int, 0 ≤ j → j < n → (P (f j) = true ↔ a ≤ j ∧ j < e)) → 0 ≤ a → a ≤ e → cnt f P n = (if (n : Int) ≤ a then 0 else if (n : Int) ≤ e then n - a else e - a)
  | 0, _, h0, _ => by rw [if_pos (by omega)]; rfl
  | n + 1, h, h0, h1 => by
    have ih := cnt_rg (f := f) (P := P) n (fun j j0 j1 => h j j0 (by omega)) h0 h1
    have hn := h n (by omega) (by omega)
    show cnt f P n + (if P (f (n : Int)) then 1 else 0) = _
    rw [ih]
    by_cases q : P (f (n : Int)) = true
    · have := hn.mp q
      rw [if_pos q]
      (repeat' split) <;> omega
    · have hq : ¬ (a ≤ (n : Int) ∧ (n : Int) < e) := fun z => q (hn.mpr z)
      rw [if_neg q, Int.add_zero]
      (repeat' split) <;> omega
def stb (f : Int → Int) (s lo x : Int) : Prop := 0 ≤ x ∧ x ≤ s ∧ ∀ j : Int, 0 ≤ j → j < s → (x ≤ j ↔ (lo = -1 ∨ lo ≤ f j / 100))
def enb (f : Int → Int) (s hi x : Int) : Prop := 0 ≤ x ∧ x ≤ s ∧ ∀ j : Int, 0 ≤ j → j < s → (j < x ↔ (hi = -1 ∨ f j / 100 ≤ hi))
theorem stb_0 {f : Int → Int} {s lo : Int} (hs : 0 ≤ s) (h : lo = -1) : stb f s lo 0 := ⟨Int.le_refl _, hs, fun j j0 j1 => ⟨fun _ => Or.inl h, fun _ => j0⟩⟩
theorem enb_0 {f : Int → Int} {s hi : Int} (hs : 0 ≤ s) (h : hi = -1) : enb f s hi s := ⟨hs, Int.le_refl _, fun j j0 j1 => ⟨fun _ => Or.inl h, fun _ => j1⟩⟩
theorem stb_1 {f : Int → Int} {s lo x : Int} (ht : Srt f s) (hb : blw f s (100 * lo) x) (h : 0 ≤ lo) : stb f s lo x := by
  have hg := blw_ge ht hb
  obtain ⟨b0, b1, b2, b3⟩ := hb
  refine ⟨b0, b1, fun j j0 j1 => ⟨fun q => Or.inr (by have := hg j q j1; omega), fun q => ?_⟩⟩
  by_cases q2 : x ≤ j
  · exact q2
  · have := b2 j j0 (by omega); omega
theorem enb_1 {f : Int → Int} {s hi x : Int} (ht : Srt f s) (hb : blw f s (100 * (hi + 1)) x) (h : 0 ≤ hi) : enb f s hi x := by
  have hg := blw_ge ht hb
  obtain ⟨b0, b1, b2, b3⟩ := hb
  refine ⟨b0, b1, fun j j0 j1 => ⟨fun q => Or.inr (by have := b2 j j0 q; omega), fun q => ?_⟩⟩
  by_cases q2 : j < x
  · exact q2
  · have := hg j (by omega) j1; omega
theorem rg_P {f : Int → Int} {s lo hi a e : Int} (ha : stb f s lo a) (he : enb f s hi e) : rgP f s a e (inP lo hi) := ⟨ha.1, he.2.1, fun j j0 j1 => by
  unfold inP
  rw [decide_eq_true_iff, ← ha.2.2 j j0 j1, ← he.2.2 j j0 j1]⟩
theorem rg_le {f : Int → Int} {s lo hi a e : Int} (ha : stb f s lo a) (he : enb f s hi e) (hlo : -1 ≤ lo) (hhi : -1 ≤ hi) (h : 0 ≤ lo → 0 ≤ hi → lo ≤ hi) : a ≤ e := by
  obtain ⟨a0, a1, a2⟩ := ha
  obtain ⟨e0, e1, e2⟩ := he
  by_cases q : a ≤ e
  · exact q
  · have x := a2 e e0 (by omega)
    have y := e2 e e0 (by omega)
    have x1 : ¬ (lo = -1 ∨ lo ≤ f e / 100) := fun z => absurd (x.mpr z) (by omega)
    have y1 : ¬ (hi = -1 ∨ f e / 100 ≤ hi) := fun z => absurd (y.mpr z) (by omega)
    omega
theorem ci_e {f g F : Int → Int} {s lo hi a e : Int} (hr : Rep f g s F) (ha : stb f s lo a) (he : enb f s hi e) (hlo : -1 ≤ lo) (hhi : -1 ≤ hi) (h : 0 ≤ lo → 0 ≤ hi → lo ≤ hi) : e - a = nF F (inP lo hi) := by
  have hle := rg_le ha he hlo hhi h
  obtain ⟨p0, p1, p2⟩ := rg_P ha he
  have hs := hr.1.1
  rw [nF_eq _ hr, cnt_rg s.toNat (fun j j0 j1 => p2 j j0 (by omega)) p0 hle]
  by_cases q : (s.toNat : Int) ≤ a
  · rw [if_pos q]; omega
  · rw [if_neg q]
    by_cases q2 : (s.toNat : Int) ≤ e
    · rw [if_pos q2]; omega
    · rw [if_neg q2]
theorem rg_all {f : Int → Int} {s : Int} : rgP f s 0 s (fun _ => true) := ⟨Int.le_refl _, Int.le_refl _, fun j j0 j1 => ⟨fun _ => ⟨j0, j1⟩, fun _ => rfl⟩⟩
set_option maxRecDepth 100000 in
theorem f_X6_bookOfPart (l : Launch) (hl : l.stackTraces = false) {kc km : Int} {h : dm_H} (hI : Inv kc km h) {B : Int} {σ : St} (hS : CSt B σ h) (_hB : B ≤ 100000) : dm_M l 114 1 1 6 [.ref 0] h (QPX h (fun v => ∃ x : Nat, v = some (.ref x) ∧ (isBk x ∧ (x : Int) = 17 + 3 * σ.2.1.1 ∧ 0 ≤ σ.2.1.1 ∧ σ.2.1.1 ≤ 2)) XS (σ.2.1.1 = -1)) := by
  refine dm_M_of dk_114 hl rfl (Nat.le_of_ble_eq_true rfl) ?_
  show dm_W (fun _ _ _ => True) (dm_P (QPX h (fun v => ∃ x : Nat, v = some (.ref x) ∧ (isBk x ∧ (x : Int) = 17 + 3 * σ.2.1.1 ∧ 0 ≤ σ.2.1.1 ∧ σ.2.1.1 ≤ 2)) XS (σ.2.1.1 = -1)) 1 6) l 114 1 1 6 0 [some (.ref 0)] [] h 0 0
  obtain ⟨r, c1, c2, hc⟩ := I_cls hI
  obtain ⟨p1, p2, p3, p4⟩ := hS.2
  refine di_aload_n rfl rfl ?_
  refine dr_getf rfl hc rfl ?_
  refine dr_getf rfl p1 rfl ?_
  refine dr_stat rfl rfl rfl rfl (s_X6_isBook l hl hI (a0 := σ.2.1.1) (by omega) (by omega)) (by decide) (by decide) (by decide) (Nat.le_of_ble_eq_true rfl) kNP (kIP (fun y yf ya yb => ?_))
  obtain ⟨y0, y1, y2, y3⟩ := yf
  refine di_if_ne rfl rfl (by omega) (by omega) (fun c => ?_) (fun c => ?_)
  · refine di_aload_n rfl rfl ?_
    refine dr_getf rfl hc rfl ?_
    refine di_aload_n rfl rfl ?_
    refine dr_getf rfl hc rfl ?_
    refine dr_getf rfl p1 rfl ?_
    refine paaB rfl (I_bks hI) (by omega) (by omega) (fun r9 hr9 hk9 => ?_)
    exact dr_aret rfl rfl (Or.inl ⟨_, rfl⟩) (Or.inl ⟨_, rfl⟩) (by decide) (by decide) ⟨rfl, r9, rfl, hr9, hk9, by omega, by omega⟩
  · exact dr_throw rfl (by decide) rfl (by decide) (by decide) (by decide) (Nat.le_of_ble_eq_true rfl) ⟨rfl, rfl, by omega⟩
set_option maxRecDepth 100000 in
theorem f_X6_bookOfHand (l : Launch) (hl : l.stackTraces = false) {kc km : Int} {h : dm_H} (hI : Inv kc km h) {B : Int} {σ : St} (hS : CSt B σ h) (_hB : B ≤ 100000) : dm_M l 115 1 1 6 [.ref 0] h (QPX h (fun v => ∃ x : Nat, v = some (.ref x) ∧ (isBk x ∧ (x : Int) = 17 + 3 * σ.2.2.1 ∧ 0 ≤ σ.2.2.1 ∧ σ.2.2.1 ≤ 2)) XS (σ.2.2.1 = -1)) := by
  refine dm_M_of dk_115 hl rfl (Nat.le_of_ble_eq_true rfl) ?_
  show dm_W (fun _ _ _ => True) (dm_P (QPX h (fun v => ∃ x : Nat, v = some (.ref x) ∧ (isBk x ∧ (x : Int) = 17 + 3 * σ.2.2.1 ∧ 0 ≤ σ.2.2.1 ∧ σ.2.2.1 ≤ 2)) XS (σ.2.2.1 = -1)) 1 6) l 115 1 1 6 0 [some (.ref 0)] [] h 0 0
  obtain ⟨r, c1, c2, hc⟩ := I_cls hI
  obtain ⟨⟨⟨mv, -, sn, nx, ho, p1, p2, -⟩, -⟩, -⟩ := hS
  refine di_aload_n rfl rfl ?_
  refine dr_getf rfl hc rfl ?_
  refine dr_getf rfl p1 rfl ?_
  refine dr_stat rfl rfl rfl rfl (s_X6_isBook l hl hI (a0 := σ.2.2.1) (by omega) (by omega)) (by decide) (by decide) (by decide) (Nat.le_of_ble_eq_true rfl) kNP (kIP (fun y yf ya yb => ?_))
  obtain ⟨y0, y1, y2, y3⟩ := yf
  refine di_if_ne rfl rfl (by omega) (by omega) (fun c => ?_) (fun c => ?_)
  · refine di_aload_n rfl rfl ?_
    refine dr_getf rfl hc rfl ?_
    refine di_aload_n rfl rfl ?_
    refine dr_getf rfl hc rfl ?_
    refine dr_getf rfl p1 rfl ?_
    refine paaB rfl (I_bks hI) (by omega) (by omega) (fun r9 hr9 hk9 => ?_)
    exact dr_aret rfl rfl (Or.inl ⟨_, rfl⟩) (Or.inl ⟨_, rfl⟩) (by decide) (by decide) ⟨rfl, r9, rfl, hr9, hk9, by omega, by omega⟩
  · exact dr_throw rfl (by decide) rfl (by decide) (by decide) (by decide) (Nat.le_of_ble_eq_true rfl) ⟨rfl, rfl, by omega⟩

set_option maxHeartbeats 4000000 in
set_option maxRecDepth 100000 in
/-- Earlyends$Part.isWithin -/
theorem f_X4_isWithin (l : Launch) (hl : l.stackTraces = false) {kc km : Int} {h : dm_H} (hI : Inv kc km h) {B : Int} {σ : St} (hS : CSt B σ h) (hB : B ≤ 90000) {a1 : Int} (h1a : -2147483648 ≤ a1) (h1b : a1 ≤ 2147483647) : dm_M l 42 0 0 0 [.ref 2, dI (a1)] h (QP h (RI (fun x => 0 ≤ x ∧ x ≤ 1 ∧ (x = 1 → (σ.2.1.2.1 = -1 ∨ σ.2.1.2.1 ≤ a1) ∧ (σ.2.1.2.2 = -1 ∨ a1 ≤ σ.2.1.2.2)) ∧ (x = 0 → (σ.2.1.2.1 ≠ -1 ∧ a1 < σ.2.1.2.1) ∨ (σ.2.1.2.2 ≠ -1 ∧ σ.2.1.2.2 < a1)))) []) := by
  refine dm_M_of dk_42 hl rfl (Nat.le_of_ble_eq_true rfl) ?_
  show dm_W (fun _ _ _ => True) (dm_P (QP h (RI (fun x => 0 ≤ x ∧ x ≤ 1 ∧ (x = 1 → (σ.2.1.2.1 = -1 ∨ σ.2.1.2.1 ≤ a1) ∧ (σ.2.1.2.2 = -1 ∨ a1 ≤ σ.2.1.2.2)) ∧ (x = 0 → (σ.2.1.2.1 ≠ -1 ∧ a1 < σ.2.1.2.1) ∨ (σ.2.1.2.2 ≠ -1 ∧ σ.2.1.2.2 < a1)))) []) 0 0) l 42 0 0 0 0 [some (.ref 2), some (dI (a1))] [] h 0 0
  refine di_aload_n rfl rfl ?_
  have pr1 := hS.2
  obtain ⟨pr1a, pr1b, pr1c, pr1d⟩ := pr1
  refine dr_getf rfl pr1a rfl ?_
  refine di_const rfl ?_
  refine di_icmp_eq rfl rfl (by omega) (by omega) (by omega) (by omega) (fun c2 => ?_) (fun c2 => ?_)
  · skip
    refine di_aload_n rfl rfl ?_
    refine dr_getf rfl pr1a rfl ?_
    refine di_const rfl ?_
    refine di_icmp_eq rfl rfl (by omega) (by omega) (by omega) (by omega) (fun c3 => ?_) (fun c3 => ?_)
    · skip
      refine di_const rfl ?_
      refine dr_goto rfl rfl ?_
      exact dr_iret (ty := .boolean) rfl rfl (nar_z (by omega) (by omega)) (by decide) (by decide) ⟨rfl, 1, (show 0 ≤ (1) ∧ (1) ≤ 1 ∧ ((1) = 1 → (σ.2.1.2.1 = -1 ∨ σ.2.1.2.1 ≤ a1) ∧ (σ.2.1.2.2 = -1 ∨ a1 ≤ σ.2.1.2.2)) ∧ ((1) = 0 → (σ.2.1.2.1 ≠ -1 ∧ a1 < σ.2.1.2.1) ∨ (σ.2.1.2.2 ≠ -1 ∧ σ.2.1.2.2 < a1)) by omega), by omega, by omega, rfl⟩
    · skip
      refine dr_iload_n rfl rfl ?_
      refine di_aload_n rfl rfl ?_
      refine dr_getf rfl pr1a rfl ?_
      refine di_icmp_gt rfl rfl (by omega) (by omega) (by omega) (by omega) (fun c4 => ?_) (fun c4 => ?_)
      · skip
        refine di_const rfl ?_
        exact dr_iret (ty := .boolean) rfl rfl (nar_z (by omega) (by omega)) (by decide) (by decide) ⟨rfl, 0, (show 0 ≤ (0) ∧ (0) ≤ 1 ∧ ((0) = 1 → (σ.2.1.2.1 = -1 ∨ σ.2.1.2.1 ≤ a1) ∧ (σ.2.1.2.2 = -1 ∨ a1 ≤ σ.2.1.2.2)) ∧ ((0) = 0 → (σ.2.1.2.1 ≠ -1 ∧ a1 < σ.2.1.2.1) ∨ (σ.2.1.2.2 ≠ -1 ∧ σ.2.1.2.2 < a1)) by omega), by omega, by omega, rfl⟩
      · skip
        refine di_const rfl ?_
        refine dr_goto rfl rfl ?_
        exact dr_iret (ty := .boolean) rfl rfl (nar_z (by omega) (by omega)) (by decide) (by decide) ⟨rfl, 1, (show 0 ≤ (1) ∧ (1) ≤ 1 ∧ ((1) = 1 → (σ.2.1.2.1 = -1 ∨ σ.2.1.2.1 ≤ a1) ∧ (σ.2.1.2.2 = -1 ∨ a1 ≤ σ.2.1.2.2)) ∧ ((1) = 0 → (σ.2.1.2.1 ≠ -1 ∧ a1 < σ.2.1.2.1) ∨ (σ.2.1.2.2 ≠ -1 ∧ σ.2.1.2.2 < a1)) by omega), by omega, by omega, rfl⟩
  · skip
    refine dr_iload_n rfl rfl ?_
    refine di_aload_n rfl rfl ?_
    refine dr_getf rfl pr1a rfl ?_
    refine di_icmp_lt rfl rfl (by omega) (by omega) (by omega) (by omega) (fun c5 => ?_) (fun c5 => ?_)
    · skip
      refine di_const rfl ?_
      exact dr_iret (ty := .boolean) rfl rfl (nar_z (by omega) (by omega)) (by decide) (by decide) ⟨rfl, 0, (show 0 ≤ (0) ∧ (0) ≤ 1 ∧ ((0) = 1 → (σ.2.1.2.1 = -1 ∨ σ.2.1.2.1 ≤ a1) ∧ (σ.2.1.2.2 = -1 ∨ a1 ≤ σ.2.1.2.2)) ∧ ((0) = 0 → (σ.2.1.2.1 ≠ -1 ∧ a1 < σ.2.1.2.1) ∨ (σ.2.1.2.2 ≠ -1 ∧ σ.2.1.2.2 < a1)) by omega), by omega, by omega, rfl⟩
    · skip
      refine di_aload_n rfl rfl ?_
      refine dr_getf rfl pr1a rfl ?_
      refine di_const rfl ?_
      refine di_icmp_eq rfl rfl (by omega) (by omega) (by omega) (by omega) (fun c6 => ?_) (fun c6 => ?_)
      · skip
        refine di_const rfl ?_
        refine dr_goto rfl rfl ?_
        exact dr_iret (ty := .boolean) rfl rfl (nar_z (by omega) (by omega)) (by decide) (by decide) ⟨rfl, 1, (show 0 ≤ (1) ∧ (1) ≤ 1 ∧ ((1) = 1 → (σ.2.1.2.1 = -1 ∨ σ.2.1.2.1 ≤ a1) ∧ (σ.2.1.2.2 = -1 ∨ a1 ≤ σ.2.1.2.2)) ∧ ((1) = 0 → (σ.2.1.2.1 ≠ -1 ∧ a1 < σ.2.1.2.1) ∨ (σ.2.1.2.2 ≠ -1 ∧ σ.2.1.2.2 < a1)) by omega), by omega, by omega, rfl⟩
      · skip
        refine dr_iload_n rfl rfl ?_
        refine di_aload_n rfl rfl ?_
        refine dr_getf rfl pr1a rfl ?_
        refine di_icmp_gt rfl rfl (by omega) (by omega) (by omega) (by omega) (fun c7 => ?_) (fun c7 => ?_)
        · skip
          refine di_const rfl ?_
          exact dr_iret (ty := .boolean) rfl rfl (nar_z (by omega) (by omega)) (by decide) (by decide) ⟨rfl, 0, (show 0 ≤ (0) ∧ (0) ≤ 1 ∧ ((0) = 1 → (σ.2.1.2.1 = -1 ∨ σ.2.1.2.1 ≤ a1) ∧ (σ.2.1.2.2 = -1 ∨ a1 ≤ σ.2.1.2.2)) ∧ ((0) = 0 → (σ.2.1.2.1 ≠ -1 ∧ a1 < σ.2.1.2.1) ∨ (σ.2.1.2.2 ≠ -1 ∧ σ.2.1.2.2 < a1)) by omega), by omega, by omega, rfl⟩
        · skip
          refine di_const rfl ?_
          refine dr_goto rfl rfl ?_
          exact dr_iret (ty := .boolean) rfl rfl (nar_z (by omega) (by omega)) (by decide) (by decide) ⟨rfl, 1, (show 0 ≤ (1) ∧ (1) ≤ 1 ∧ ((1) = 1 → (σ.2.1.2.1 = -1 ∨ σ.2.1.2.1 ≤ a1) ∧ (σ.2.1.2.2 = -1 ∨ a1 ≤ σ.2.1.2.2)) ∧ ((1) = 0 → (σ.2.1.2.1 ≠ -1 ∧ a1 < σ.2.1.2.1) ∨ (σ.2.1.2.2 ≠ -1 ∧ σ.2.1.2.2 < a1)) by omega), by omega, by omega, rfl⟩
set_option maxHeartbeats 4000000 in
set_option maxRecDepth 100000 in
/-- Earlyends$Part.startIn -/
theorem f_X4_startIn (l : Launch) (hl : l.stackTraces = false) {kc km : Int} {h : dm_H} (hI : Inv kc km h) {B : Int} {σ : St} (hS : CSt B σ h) (hB : B ≤ 90000) {b1 : Nat} {k1 : Int} (hb1 : isBk b1) (k10 : 0 ≤ k1) (k11 : k1 ≤ 2) (kb1 : (b1 : Int) = 17 + 3 * k1) {s m : Int} {u w : List Value} (hc : CA b1 s m u w h) (hr : Rep (cv u) (cv w) s (σ.1 k1)) (ht : Srt (cv u) s) (ma : 0 ≤ m) (mb : m ≤ B) : dm_M l 43 1 0 0 [.ref 2, .ref b1] h (QP h (RI (fun x => 0 ≤ x ∧ x ≤ 8 ∧ stb (cv u) s σ.2.1.2.1 x)) []) := by
  refine dm_M_of dk_43 hl rfl (Nat.le_of_ble_eq_true rfl) ?_
  show dm_W (fun _ _ _ => True) (dm_P (QP h (RI (fun x => 0 ≤ x ∧ x ≤ 8 ∧ stb (cv u) s σ.2.1.2.1 x)) []) 0 0) l 43 1 0 0 0 [some (.ref 2), some (.ref b1)] [] h 0 0
  have sq : 0 ≤ s ∧ s ≤ 8 := ⟨hc.2.2.2.2.2.1, hc.2.2.2.2.2.2.1⟩
  have hz : zF (σ.1 k1) = s := zF_eq hr
  refine di_aload_n rfl rfl ?_
  have pr1 := hS.2
  obtain ⟨pr1a, pr1b, pr1c, pr1d⟩ := pr1
  refine dr_getf rfl pr1a rfl ?_
  refine di_const rfl ?_
  refine di_icmp_ne rfl rfl (by omega) (by omega) (by omega) (by omega) (fun c2 => ?_) (fun c2 => ?_)
  · skip
    refine di_aload_n rfl rfl ?_
    refine di_bipush rfl (by decide) ?_
    refine di_aload_n rfl rfl ?_
    refine dr_getf rfl pr1a rfl ?_
    refine di_imul rfl ?_
    refine dr_virt rfl rfl rfl rfl hc.1 (f_X0_countBelow l hl hI hb1 hc (a1 := (100 * σ.2.1.2.1)) (by omega) (by omega)) (by decide) (by decide) (by decide) (Nat.le_of_ble_eq_true rfl) kNP (kIP (fun y3 y3f y3a y3b => ?_))
    obtain ⟨y3c, y3d, y3k⟩ := y3f
    have y3l : y3 ≤ s := y3k.2.1
    exact dr_iret (ty := .int) rfl rfl rfl (by decide) (by decide) ⟨rfl, y3, ⟨by omega, by omega, stb_1 ht y3k (by omega)⟩, by omega, by omega, rfl⟩
  · skip
    refine di_const rfl ?_
    refine dr_goto rfl rfl ?_
    exact dr_iret (ty := .int) rfl rfl rfl (by decide) (by decide) ⟨rfl, 0, ⟨by omega, by omega, stb_0 (by omega) (by omega)⟩, by omega, by omega, rfl⟩
set_option maxHeartbeats 4000000 in
set_option maxRecDepth 100000 in
/-- Earlyends$Part.endIn -/
theorem f_X4_endIn (l : Launch) (hl : l.stackTraces = false) {kc km : Int} {h : dm_H} (hI : Inv kc km h) {B : Int} {σ : St} (hS : CSt B σ h) (hB : B ≤ 90000) {b1 : Nat} {k1 : Int} (hb1 : isBk b1) (k10 : 0 ≤ k1) (k11 : k1 ≤ 2) (kb1 : (b1 : Int) = 17 + 3 * k1) {s m : Int} {u w : List Value} (hc : CA b1 s m u w h) (hr : Rep (cv u) (cv w) s (σ.1 k1)) (ht : Srt (cv u) s) (ma : 0 ≤ m) (mb : m ≤ B) : dm_M l 44 1 0 0 [.ref 2, .ref b1] h (QP h (RI (fun x => 0 ≤ x ∧ x ≤ 8 ∧ enb (cv u) s σ.2.1.2.2 x)) []) := by
  refine dm_M_of dk_44 hl rfl (Nat.le_of_ble_eq_true rfl) ?_
  show dm_W (fun _ _ _ => True) (dm_P (QP h (RI (fun x => 0 ≤ x ∧ x ≤ 8 ∧ enb (cv u) s σ.2.1.2.2 x)) []) 0 0) l 44 1 0 0 0 [some (.ref 2), some (.ref b1)] [] h 0 0
  have sq : 0 ≤ s ∧ s ≤ 8 := ⟨hc.2.2.2.2.2.1, hc.2.2.2.2.2.2.1⟩
  have hz : zF (σ.1 k1) = s := zF_eq hr
  refine di_aload_n rfl rfl ?_
  have pr1 := hS.2
  obtain ⟨pr1a, pr1b, pr1c, pr1d⟩ := pr1
  refine dr_getf rfl pr1a rfl ?_
  refine di_const rfl ?_
  refine di_icmp_ne rfl rfl (by omega) (by omega) (by omega) (by omega) (fun c2 => ?_) (fun c2 => ?_)
  · skip
    refine di_aload_n rfl rfl ?_
    refine di_bipush rfl (by decide) ?_
    refine di_aload_n rfl rfl ?_
    refine dr_getf rfl pr1a rfl ?_
    refine di_const rfl ?_
    refine di_iadd rfl ?_
    refine di_imul rfl ?_
    refine dr_virt rfl rfl rfl rfl hc.1 (f_X0_countBelow l hl hI hb1 hc (a1 := (100 * (σ.2.1.2.2 + 1))) (by omega) (by omega)) (by decide) (by decide) (by decide) (Nat.le_of_ble_eq_true rfl) kNP (kIP (fun y3 y3f y3a y3b => ?_))
    obtain ⟨y3c, y3d, y3k⟩ := y3f
    have y3l : y3 ≤ s := y3k.2.1
    exact dr_iret (ty := .int) rfl rfl rfl (by decide) (by decide) ⟨rfl, y3, ⟨by omega, by omega, enb_1 ht y3k (by omega)⟩, by omega, by omega, rfl⟩
  · skip
    refine di_aload_n rfl rfl ?_
    refine dr_virt rfl rfl rfl rfl hc.1 (f_X0_count l hl hI hb1 hc ) (by decide) (by decide) (by decide) (Nat.le_of_ble_eq_true rfl) kNP (kIP (fun y4 y4f y4a y4b => ?_))
    obtain ⟨y4c, y4d, y4e⟩ := y4f
    have y4e2 := y4e.symm
    subst y4e2
    refine dr_goto rfl rfl ?_
    exact dr_iret (ty := .int) rfl rfl rfl (by decide) (by decide) ⟨rfl, s, ⟨by omega, by omega, enb_0 (by omega) (by omega)⟩, by omega, by omega, rfl⟩
set_option maxHeartbeats 4000000 in
set_option maxRecDepth 100000 in
/-- Earlyends$Part.countIn -/
theorem f_X4_countIn (l : Launch) (hl : l.stackTraces = false) {kc km : Int} {h : dm_H} (hI : Inv kc km h) {B : Int} {σ : St} (hS : CSt B σ h) (hB : B ≤ 90000) {b1 : Nat} {k1 : Int} (hb1 : isBk b1) (k10 : 0 ≤ k1) (k11 : k1 ≤ 2) (kb1 : (b1 : Int) = 17 + 3 * k1) {s m : Int} {u w : List Value} (hc : CA b1 s m u w h) (hr : Rep (cv u) (cv w) s (σ.1 k1)) (ht : Srt (cv u) s) (ma : 0 ≤ m) (mb : m ≤ B) : dm_M l 45 2 0 0 [.ref 2, .ref b1] h (QP h (RI (fun x => 0 ≤ x ∧ x ≤ 8 ∧ x = nF (σ.1 k1) (inP σ.2.1.2.1 σ.2.1.2.2))) []) := by
  refine dm_M_of dk_45 hl rfl (Nat.le_of_ble_eq_true rfl) ?_
  show dm_W (fun _ _ _ => True) (dm_P (QP h (RI (fun x => 0 ≤ x ∧ x ≤ 8 ∧ x = nF (σ.1 k1) (inP σ.2.1.2.1 σ.2.1.2.2))) []) 0 0) l 45 2 0 0 0 [some (.ref 2), some (.ref b1)] [] h 0 0
  have sq : 0 ≤ s ∧ s ≤ 8 := ⟨hc.2.2.2.2.2.1, hc.2.2.2.2.2.2.1⟩
  have hz : zF (σ.1 k1) = s := zF_eq hr
  refine di_aload_n rfl rfl ?_
  refine di_aload_n rfl rfl ?_
  have pr1 := hS.2
  obtain ⟨pr1a, pr1b, pr1c, pr1d⟩ := pr1
  refine dr_virt rfl rfl rfl rfl pr1a (f_X4_endIn l hl hI hS (by omega) hb1 k10 k11 kb1 hc hr ht ma mb) (by decide) (by decide) (by decide) (Nat.le_of_ble_eq_true rfl) kNP (kIP (fun y2 y2f y2a y2b => ?_))
  obtain ⟨y2c, y2d, y2k⟩ := y2f
  have y2l : y2 ≤ s := y2k.2.1
  refine di_aload_n rfl rfl ?_
  refine di_aload_n rfl rfl ?_
  refine dr_virt rfl rfl rfl rfl pr1a (f_X4_startIn l hl hI hS (by omega) hb1 k10 k11 kb1 hc hr ht ma mb) (by decide) (by decide) (by decide) (Nat.le_of_ble_eq_true rfl) kNP (kIP (fun y3 y3f y3a y3b => ?_))
  obtain ⟨y3c, y3d, y3k⟩ := y3f
  have y3l : y3 ≤ s := y3k.2.1
  refine di_isub rfl ?_
  obtain ⟨zp1, zp2, zp3, zp4, zp5⟩ := hS.2
  have zle := rg_le y3k y2k (by omega) (by omega) zp5
  exact dr_iret (ty := .int) rfl rfl rfl (by decide) (by decide) ⟨rfl, (y2 - y3), ⟨by omega, by omega, ci_e hr y3k y2k (by omega) (by omega) zp5⟩, by omega, by omega, rfl⟩
set_option maxHeartbeats 4000000 in
set_option maxRecDepth 100000 in
/-- Earlyends.takeNote -/
theorem c_X6_takeNote (l : Launch) (hl : l.stackTraces = false) {kc km : Int} {h : dm_H} (hI : Inv kc km h) {B : Int} {σ : St} (hS : CSt B σ h) (hB : B ≤ 80000) {a1 : Int} (h1a : -2147483648 ≤ a1) (h1b : a1 ≤ 2147483647) {a2 : Int} (h2a : -2147483648 ≤ a2) (h2b : a2 ≤ 2147483647) : dm_M l 62 6 8 48 [.ref 0, dI (a1), dI (a2)] h (QX kc km h (B + 20) XB XA (spTakeNote σ a1 a2)) := by
  refine dm_M_of dk_62 hl rfl (Nat.le_of_ble_eq_true rfl) ?_
  show dm_W (fun _ _ _ => True) (dm_P (QX kc km h (B + 20) XB XA (spTakeNote σ a1 a2)) 8 48) l 62 6 8 48 0 [some (.ref 0), some (dI (a1)), some (dI (a2)), none, none] [] h 0 0
  refine di_aload_n rfl rfl ?_
  refine dr_iload_n rfl rfl ?_
  obtain ⟨r1, c2, c3, hc4⟩ := I_cls hI
  refine dr_virt rfl rfl rfl rfl hc4 (f_X6_bookAt l hl hI (a1 := a1) (by omega) (by omega)) (by decide) (by decide) (by decide) (Nat.le_of_ble_eq_true rfl) (fun Y h9 q9 => by obtain ⟨rfl, rfl, hC⟩ := q9; exact dr_out rfl (by decide) (by decide) (QX_1 (a := 0) hI FrC_rf hS (by omega) (by unfold spTakeNote; (repeat' split) <;> first | rfl | (exfalso; omega) | (apply Prod.ext <;> first | rfl | (dsimp only; omega) | (apply Prod.ext <;> first | rfl | (dsimp only; omega)))))) (kPXR (fun r5 ⟨q6, q7, q8, q10⟩ => ?_))
  refine di_astore_n (ls2 := [some (.ref 0), some (dI (a1)), some (dI (a2)), some (.ref r5), none]) rfl rfl rfl ?_
  refine dr_iload_n rfl rfl ?_
  refine dr_stat rfl rfl rfl rfl (f_X6_needNote l hl hI (a0 := a2) (by omega) (by omega)) (by decide) (by decide) (by decide) (Nat.le_of_ble_eq_true rfl) (fun Y h9 q9 => by obtain ⟨rfl, rfl, hC⟩ := q9; exact dr_out rfl (by decide) (by decide) (QX_2 (a := 0) hI FrC_rf hS (by omega) (by unfold spTakeNote; (repeat' split) <;> first | rfl | (exfalso; omega) | (apply Prod.ext <;> first | rfl | (dsimp only; omega) | (apply Prod.ext <;> first | rfl | (dsimp only; omega)))))) (kPXV (fun q11 => ?_))
  refine di_aload_n rfl rfl ?_
  refine dr_iload_n rfl rfl ?_
  obtain ⟨s12, m13, u14, w15, hc16, hr17, ht18, ma19, mb20⟩ := CSt_bk hS (k := a1) q8 q10 q7
  have sq21 : 0 ≤ s12 ∧ s12 ≤ 8 := ⟨hc16.2.2.2.2.2.1, hc16.2.2.2.2.2.2.1⟩
  have hz22 : zF (σ.1 a1) = s12 := zF_eq hr17
  refine dr_virt rfl rfl rfl rfl hc16.1 (f_X0_rankOfNote l hl hI q6 hc16 (a1 := a2) (by omega) (by omega)) (by decide) (by decide) (by decide) (Nat.le_of_ble_eq_true rfl) kNP (kIP (fun y23 y23f y23a y23b => ?_))
  obtain ⟨y23c, y23d, y23k⟩ := y23f
  refine di_istore (ls2 := [some (.ref 0), some (dI (a1)), some (dI (a2)), some (.ref r5), some (dI (y23))]) rfl rfl rfl ?_
  refine dr_iload rfl rfl ?_
  refine di_const rfl ?_
  refine di_icmp_ne rfl rfl (by omega) (by omega) (by omega) (by omega) (fun c24 => ?_) (fun c24 => ?_)
  · skip
    have rn9 : 0 ≤ y23 ∧ y23 < s12 ∧ cv w15 y23 = a2 ∧ ∀ j : Int, 0 ≤ j → j < y23 → cv w15 j ≠ a2 := by rcases y23k with q9 | q9; exact absurd q9.1 (by omega); exact q9
    have ll9 := tn_yes hr17 ht18 rn9.1 rn9.2.1 rn9.2.2.1 rn9.2.2.2
    have cc9 := (Rep_yes hr17 rn9.1 rn9.2.1 rfl).2.2
    obtain ⟨rn1, rn2, rn3, rn4⟩ := rn9
    clear rn4
    refine di_aload_n rfl rfl ?_
    refine dr_iload rfl rfl ?_
    refine dr_virt rfl rfl rfl rfl hc16.1 (c_rem hl hI hS (by omega) q8 q10 q7 q6 hc16 hr17 ht18 mb20 (r := y23) (c := (cv u14 y23)) rn1 rn2 rfl) (by decide) (by decide) (by decide) (Nat.le_of_ble_eq_true rfl) kQCVN (kQCV (fun h25 hI26 hF27 hS28 => ?_))
    have hF29 := hF27
    refine di_const rfl ?_
    exact dr_iret (ty := .int) rfl rfl rfl (by decide) (by decide) (QX_ok hI26 hF29 hS28 (by omega) (by unfold spTakeNote; (try rw [ll9]); (repeat' split) <;> first | rfl | (exfalso; omega) | (apply Prod.ext <;> first | rfl | (dsimp only; omega) | (apply Prod.ext <;> first | rfl | (dsimp only; omega)))))
  · skip
    have rn9 : ∀ j : Int, 0 ≤ j → j < s12 → cv w15 j ≠ a2 := by rcases y23k with q9 | q9; exact q9.2; exact absurd q9.1 (by omega)
    have ll9 := tn_no hr17 rn9
    clear rn9
    refine di_const rfl ?_
    exact dr_iret (ty := .int) rfl rfl rfl (by decide) (by decide) (QX_ok hI FrC_rf hS (by omega) (by unfold spTakeNote; (try rw [ll9]); (repeat' split) <;> first | rfl | (exfalso; omega) | (apply Prod.ext <;> first | rfl | (dsimp only; omega) | (apply Prod.ext <;> first | rfl | (dsimp only; omega)))))
set_option maxHeartbeats 4000000 in
set_option maxRecDepth 100000 in
/-- Earlyends.drawWithin -/
theorem c_X6_drawWithin (l : Launch) (hl : l.stackTraces = false) {kc km : Int} {h : dm_H} (hI : Inv kc km h) {B : Int} {σ : St} (hS : CSt B σ h) (hB : B ≤ 90000) {b0 : Nat} {k0 : Int} (hb0 : isBk b0) (k00 : 0 ≤ k0) (k01 : k0 ≤ 2) (kb0 : (b0 : Int) = 17 + 3 * k0) {a1 : Int} (h1a : 0 ≤ a1) (h1b : a1 ≤ 8) {a2 : Int} (h2a : 0 ≤ a2) (h2b : a2 ≤ 8) {a3 : Int} (h3a : 0 ≤ a3) (h3b : a3 ≤ 1) {s m : Int} {u w : List Value} (hc : CA b0 s m u w h) (hr : Rep (cv u) (cv w) s (σ.1 k0)) (ht : Srt (cv u) s) (ma : 0 ≤ m) (mb : m ≤ B) {P : Int → Bool} (hP : rgP (cv u) s a1 a2 P) : dm_M l 111 3 0 0 [.ref b0, dI (a1), dI (a2), dI (a3)] h (QC kc km h (B + 1) (sDraw σ k0 P a3).1 (sDraw σ k0 P a3).2) := by
  refine dm_M_of dk_111 hl rfl (Nat.le_of_ble_eq_true rfl) ?_
  show dm_W (fun _ _ _ => True) (dm_P (QC kc km h (B + 1) (sDraw σ k0 P a3).1 (sDraw σ k0 P a3).2) 0 0) l 111 3 0 0 0 [some (.ref b0), some (dI (a1)), some (dI (a2)), some (dI (a3)), none, none] [] h 0 0
  have sq : 0 ≤ s ∧ s ≤ 8 := ⟨hc.2.2.2.2.2.1, hc.2.2.2.2.2.2.1⟩
  have hz : zF (σ.1 k0) = s := zF_eq hr
  have hp9 : 0 ≤ a1 ∧ a2 ≤ s := ⟨hP.1, hP.2.1⟩
  refine dr_iload_n rfl rfl ?_
  refine dr_iload_n rfl rfl ?_
  refine di_icmp_lt rfl rfl (by omega) (by omega) (by omega) (by omega) (fun c1 => ?_) (fun c1 => ?_)
  · skip
    refine dr_iload_n rfl rfl ?_
    refine di_if_eq rfl rfl (by omega) (by omega) (fun c2 => ?_) (fun c2 => ?_)
    · skip
      refine dr_iload_n rfl rfl ?_
      refine di_istore (ls2 := [some (.ref b0), some (dI (a1)), some (dI (a2)), some (dI (a3)), some (dI (a1)), none]) rfl rfl rfl ?_
      refine di_aload_n rfl rfl ?_
      refine dr_iload rfl rfl ?_
      refine dr_virt rfl rfl rfl rfl hc.1 (f_X0_codeAt l hl hI hb0 hc (a1 := a1) (by omega) (by omega)) (by decide) (by decide) (by decide) (Nat.le_of_ble_eq_true rfl) kNP (kIP (fun y3 y3f y3a y3b => ?_))
      obtain ⟨y3c, y3d, y3k, y3k2, y3k3⟩ := y3f
      refine di_istore (ls2 := [some (.ref b0), some (dI (a1)), some (dI (a2)), some (dI (a3)), some (dI (a1)), some (dI (y3))]) rfl rfl rfl ?_
      have dl9 := dw_l hr ht hP (by omega)
      have dg9 := dw_g hr ht hP (by omega)
      have ey9 : y3 = cv u a1 := by omega
      have cy9 := (Rep_at hr (j := a1) (by omega) (by omega)).1
      subst ey9
      refine di_aload_n rfl rfl ?_
      refine dr_iload rfl rfl ?_
      refine dr_virt rfl rfl rfl rfl hc.1 (c_rem hl hI hS (by omega) k00 k01 kb0 hb0 hc hr ht mb (r := a1) (c := (cv u a1)) (by omega) (by omega) rfl) (by decide) (by decide) (by decide) (Nat.le_of_ble_eq_true rfl) kQCVN (kQCV (fun h4 hI5 hF6 hS7 => ?_))
      have hF8 := hF6
      refine dr_iload rfl rfl ?_
      exact dr_iret (ty := .int) rfl rfl rfl (by decide) (by decide) (QC_eq hI5 hF8 hS7 (by omega) (by unfold sDraw; (try rw [dl9]); (try rw [dg9]); (repeat' split) <;> first | rfl | (exfalso; omega) | (apply Prod.ext <;> first | rfl | (dsimp only; omega) | (apply Prod.ext <;> first | rfl | (dsimp only; omega)))))
    · skip
      refine dr_iload_n rfl rfl ?_
      refine di_const rfl ?_
      refine di_isub rfl ?_
      refine dr_goto rfl rfl ?_
      refine di_istore (ls2 := [some (.ref b0), some (dI (a1)), some (dI (a2)), some (dI (a3)), some (dI ((a2 - 1))), none]) rfl rfl rfl ?_
      refine di_aload_n rfl rfl ?_
      refine dr_iload rfl rfl ?_
      refine dr_virt rfl rfl rfl rfl hc.1 (f_X0_codeAt l hl hI hb0 hc (a1 := (a2 - 1)) (by omega) (by omega)) (by decide) (by decide) (by decide) (Nat.le_of_ble_eq_true rfl) kNP (kIP (fun y10 y10f y10a y10b => ?_))
      obtain ⟨y10c, y10d, y10k, y10k2, y10k3⟩ := y10f
      refine di_istore (ls2 := [some (.ref b0), some (dI (a1)), some (dI (a2)), some (dI (a3)), some (dI ((a2 - 1))), some (dI (y10))]) rfl rfl rfl ?_
      have dl9 := dw_l hr ht hP (by omega)
      have dg9 := dw_g hr ht hP (by omega)
      have ey9 : y10 = cv u (a2 - 1) := by omega
      have cy9 := (Rep_at hr (j := (a2 - 1)) (by omega) (by omega)).1
      subst ey9
      refine di_aload_n rfl rfl ?_
      refine dr_iload rfl rfl ?_
      refine dr_virt rfl rfl rfl rfl hc.1 (c_rem hl hI hS (by omega) k00 k01 kb0 hb0 hc hr ht mb (r := (a2 - 1)) (c := (cv u (a2 - 1))) (by omega) (by omega) rfl) (by decide) (by decide) (by decide) (Nat.le_of_ble_eq_true rfl) kQCVN (kQCV (fun h11 hI12 hF13 hS14 => ?_))
      have hF15 := hF13
      refine dr_iload rfl rfl ?_
      exact dr_iret (ty := .int) rfl rfl rfl (by decide) (by decide) (QC_eq hI12 hF15 hS14 (by omega) (by unfold sDraw; (try rw [dl9]); (try rw [dg9]); (repeat' split) <;> first | rfl | (exfalso; omega) | (apply Prod.ext <;> first | rfl | (dsimp only; omega) | (apply Prod.ext <;> first | rfl | (dsimp only; omega)))))
  · skip
    have dn9 := dw_no hr hP (by omega)
    obtain ⟨dl9, dg9⟩ := dn9
    refine di_const rfl ?_
    exact dr_iret (ty := .int) rfl rfl rfl (by decide) (by decide) (QC_eq hI FrC_rf hS (by omega) (by unfold sDraw; (try rw [dl9]); (try rw [dg9]); (repeat' split) <;> first | rfl | (exfalso; omega) | (apply Prod.ext <;> first | rfl | (dsimp only; omega) | (apply Prod.ext <;> first | rfl | (dsimp only; omega)))))
set_option maxHeartbeats 4000000 in
set_option maxRecDepth 100000 in
/-- Earlyends.draw -/
theorem c_X6_draw (l : Launch) (hl : l.stackTraces = false) {kc km : Int} {h : dm_H} (hI : Inv kc km h) {B : Int} {σ : St} (hS : CSt B σ h) (hB : B ≤ 80000) {a1 : Int} (h1a : -2147483648 ≤ a1) (h1b : a1 ≤ 2147483647) {a2 : Int} (h2a : 0 ≤ a2) (h2b : a2 ≤ 1) : dm_M l 63 6 8 48 [.ref 0, dI (a1), dI (a2)] h (QX kc km h (B + 20) XB XA (spDraw σ a1 a2)) := by
  refine dm_M_of dk_63 hl rfl (Nat.le_of_ble_eq_true rfl) ?_
  show dm_W (fun _ _ _ => True) (dm_P (QX kc km h (B + 20) XB XA (spDraw σ a1 a2)) 8 48) l 63 6 8 48 0 [some (.ref 0), some (dI (a1)), some (dI (a2)), none] [] h 0 0
  refine di_aload_n rfl rfl ?_
  refine dr_iload_n rfl rfl ?_
  obtain ⟨r1, c2, c3, hc4⟩ := I_cls hI
  refine dr_virt rfl rfl rfl rfl hc4 (f_X6_bookAt l hl hI (a1 := a1) (by omega) (by omega)) (by decide) (by decide) (by decide) (Nat.le_of_ble_eq_true rfl) (fun Y h9 q9 => by obtain ⟨rfl, rfl, hC⟩ := q9; exact dr_out rfl (by decide) (by decide) (QX_1 (a := 0) hI FrC_rf hS (by omega) (by unfold spDraw; (repeat' split) <;> first | rfl | (exfalso; omega) | (apply Prod.ext <;> first | rfl | (dsimp only; omega) | (apply Prod.ext <;> first | rfl | (dsimp only; omega)))))) (kPXR (fun r5 ⟨q6, q7, q8, q10⟩ => ?_))
  refine di_astore_n (ls2 := [some (.ref 0), some (dI (a1)), some (dI (a2)), some (.ref r5)]) rfl rfl rfl ?_
  refine di_aload_n rfl rfl ?_
  refine di_const rfl ?_
  refine di_aload_n rfl rfl ?_
  obtain ⟨s11, m12, u13, w14, hc15, hr16, ht17, ma18, mb19⟩ := CSt_bk hS (k := a1) q8 q10 q7
  have sq20 : 0 ≤ s11 ∧ s11 ≤ 8 := ⟨hc15.2.2.2.2.2.1, hc15.2.2.2.2.2.2.1⟩
  have hz21 : zF (σ.1 a1) = s11 := zF_eq hr16
  refine dr_virt rfl rfl rfl rfl hc15.1 (f_X0_count l hl hI q6 hc15 ) (by decide) (by decide) (by decide) (Nat.le_of_ble_eq_true rfl) kNP (kIP (fun y22 y22f y22a y22b => ?_))
  obtain ⟨y22c, y22d, y22e⟩ := y22f
  have y22e2 := y22e.symm
  subst y22e2
  refine dr_iload_n rfl rfl ?_
  refine dr_stat rfl rfl rfl rfl (c_X6_drawWithin l hl hI hS (by omega) q6 q8 q10 q7 (a1 := 0) (by omega) (by omega) (a2 := s11) (by omega) (by omega) (a3 := a2) (by omega) (by omega) hc15 hr16 ht17 ma18 mb19 (P := (fun _ => true)) rg_all) (by decide) (by decide) (by decide) (Nat.le_of_ble_eq_true rfl) kQCN (kQC (fun h23 hI24 hF25 hS26 => ?_))
  have hF27 := hF25
  exact dr_iret (ty := .int) rfl rfl rfl (by decide) (by decide) (QX_ok hI24 hF27 hS26 (by omega) (by unfold spDraw; (repeat' split) <;> first | rfl | (exfalso; omega) | (apply Prod.ext <;> first | rfl | (dsimp only; omega) | (apply Prod.ext <;> first | rfl | (dsimp only; omega)))))
set_option maxHeartbeats 4000000 in
set_option maxRecDepth 100000 in
/-- Earlyends.partPut -/
theorem c_X6_partPut (l : Launch) (hl : l.stackTraces = false) {kc km : Int} {h : dm_H} (hI : Inv kc km h) {B : Int} {σ : St} (hS : CSt B σ h) (hB : B ≤ 80000) {a1 : Int} (h1a : -2147483648 ≤ a1) (h1b : a1 ≤ 2147483647) {a2 : Int} (h2a : -2147483648 ≤ a2) (h2b : a2 ≤ 2147483647) {a3 : Int} (h3a : -2147483648 ≤ a3) (h3b : a3 ≤ 2147483647) : dm_M l 70 6 8 48 [.ref 0, dI (a1), dI (a2), dI (a3)] h (QX kc km h (B + 20) XA XS (spPartPut σ a1 a2 a3)) := by
  refine dm_M_of dk_70 hl rfl (Nat.le_of_ble_eq_true rfl) ?_
  show dm_W (fun _ _ _ => True) (dm_P (QX kc km h (B + 20) XA XS (spPartPut σ a1 a2 a3)) 8 48) l 70 6 8 48 0 [some (.ref 0), some (dI (a1)), some (dI (a2)), some (dI (a3)), none, none] [] h 0 0
  refine dr_iload_n rfl rfl ?_
  refine dr_iload_n rfl rfl ?_
  refine dr_stat rfl rfl rfl rfl (f_X6_codeOfSpan l hl hI (a0 := a1) (by omega) (by omega) (a1 := a2) (by omega) (by omega)) (by decide) (by decide) (by decide) (Nat.le_of_ble_eq_true rfl) (fun Y h9 q9 => by obtain ⟨rfl, rfl, hC⟩ := q9; exact dr_out rfl (by decide) (by decide) (QX_1 (a := 0) hI FrC_rf hS (by omega) (by unfold spPartPut; (repeat' split) <;> first | rfl | (exfalso; omega) | (apply Prod.ext <;> first | rfl | (dsimp only; omega) | (apply Prod.ext <;> first | rfl | (dsimp only; omega)))))) (kPXI (fun y1 ⟨q2, q3, q4, q5⟩ => ?_))
  subst q2
  refine di_istore (ls2 := [some (.ref 0), some (dI (a1)), some (dI (a2)), some (dI (a3)), some (dI ((100 * a2 + a1))), none]) rfl rfl rfl ?_
  refine dr_iload_n rfl rfl ?_
  refine dr_stat rfl rfl rfl rfl (f_X6_needNote l hl hI (a0 := a3) (by omega) (by omega)) (by decide) (by decide) (by decide) (Nat.le_of_ble_eq_true rfl) (fun Y h9 q9 => by obtain ⟨rfl, rfl, hC⟩ := q9; exact dr_out rfl (by decide) (by decide) (QX_1 (a := 0) hI FrC_rf hS (by omega) (by unfold spPartPut; (repeat' split) <;> first | rfl | (exfalso; omega) | (apply Prod.ext <;> first | rfl | (dsimp only; omega) | (apply Prod.ext <;> first | rfl | (dsimp only; omega)))))) (kPXV (fun q6 => ?_))
  refine di_aload_n rfl rfl ?_
  obtain ⟨r7, c8, c10, hc11⟩ := I_cls hI
  refine dr_virt rfl rfl rfl rfl hc11 (f_X6_bookOfPart l hl hI hS (by omega)) (by decide) (by decide) (by decide) (Nat.le_of_ble_eq_true rfl) (fun Y h9 q9 => by obtain ⟨rfl, rfl, hC⟩ := q9; exact dr_out rfl (by decide) (by decide) (QX_2 (a := 0) hI FrC_rf hS (by omega) (by unfold spPartPut; (repeat' split) <;> first | rfl | (exfalso; omega) | (apply Prod.ext <;> first | rfl | (dsimp only; omega) | (apply Prod.ext <;> first | rfl | (dsimp only; omega)))))) (kPXR (fun r12 ⟨q13, q14, q15, q16⟩ => ?_))
  refine di_astore (ls2 := [some (.ref 0), some (dI (a1)), some (dI (a2)), some (dI (a3)), some (dI ((100 * a2 + a1))), some (.ref r12)]) rfl rfl rfl ?_
  refine di_aload_n rfl rfl ?_
  refine dr_getf rfl hc11 rfl ?_
  refine dr_iload_n rfl rfl ?_
  have pr17 := hS.2
  obtain ⟨pr17a, pr17b, pr17c, pr17d⟩ := pr17
  refine dr_virt rfl rfl rfl rfl pr17a (f_X4_isWithin l hl hI hS (by omega) (a1 := a2) (by omega) (by omega)) (by decide) (by decide) (by decide) (Nat.le_of_ble_eq_true rfl) kNP (kIP (fun y18 y18f y18a y18b => ?_))
  obtain ⟨y18c, y18d, y18e, y18g⟩ := y18f
  refine di_if_eq rfl rfl (by omega) (by omega) (fun c19 => ?_) (fun c19 => ?_)
  · skip
    refine di_aload_n rfl rfl ?_
    refine dr_virt rfl rfl rfl rfl hc11 (c_X6_refuse l hl hI hS (by omega)) (by decide) (by decide) (by decide) (Nat.le_of_ble_eq_true rfl) kQCN (kQC (fun h20 hI21 hF22 hS23 => ?_))
    have hF24 := hF22
    exact dr_iret (ty := .int) rfl rfl rfl (by decide) (by decide) (QX_ok hI21 hF24 hS23 (by omega) (by unfold spPartPut; (repeat' split) <;> first | rfl | (exfalso; omega) | (apply Prod.ext <;> first | rfl | (dsimp only; omega) | (apply Prod.ext <;> first | rfl | (dsimp only; omega)))))
  · skip
    refine di_aload_n rfl rfl ?_
    refine di_aload rfl rfl ?_
    refine dr_iload rfl rfl ?_
    refine dr_iload_n rfl rfl ?_
    obtain ⟨s25, m26, u27, w28, hc29, hr30, ht31, ma32, mb33⟩ := CSt_bk hS (k := σ.2.1.1) q15 q16 q14
    have sq34 : 0 ≤ s25 ∧ s25 ≤ 8 := ⟨hc29.2.2.2.2.2.1, hc29.2.2.2.2.2.2.1⟩
    have hz35 : zF (σ.1 σ.2.1.1) = s25 := zF_eq hr30
    refine dr_virt rfl rfl rfl rfl hc11 (c_X6_setOrBring l hl hI hS (by omega) q13 q15 q16 q14 (a2 := (100 * a2 + a1)) (by omega) (by omega) (a3 := a3) (by omega) (by omega) (by omega)) (by decide) (by decide) (by decide) (Nat.le_of_ble_eq_true rfl) kQCN (kQC (fun h36 hI37 hF38 hS39 => ?_))
    have hF40 := hF38
    refine dr_goto rfl rfl ?_
    exact dr_iret (ty := .int) rfl rfl rfl (by decide) (by decide) (QX_ok hI37 hF40 hS39 (by omega) (by unfold spPartPut; (repeat' split) <;> first | rfl | (exfalso; omega) | (apply Prod.ext <;> first | rfl | (dsimp only; omega) | (apply Prod.ext <;> first | rfl | (dsimp only; omega)))))
set_option maxHeartbeats 4000000 in
set_option maxRecDepth 100000 in
/-- Earlyends.partTake -/
theorem c_X6_partTake (l : Launch) (hl : l.stackTraces = false) {kc km : Int} {h : dm_H} (hI : Inv kc km h) {B : Int} {σ : St} (hS : CSt B σ h) (hB : B ≤ 80000) {a1 : Int} (h1a : -2147483648 ≤ a1) (h1b : a1 ≤ 2147483647) {a2 : Int} (h2a : -2147483648 ≤ a2) (h2b : a2 ≤ 2147483647) : dm_M l 71 6 8 48 [.ref 0, dI (a1), dI (a2)] h (QX kc km h (B + 20) XA XS (spPartTake σ a1 a2)) := by
  refine dm_M_of dk_71 hl rfl (Nat.le_of_ble_eq_true rfl) ?_
  show dm_W (fun _ _ _ => True) (dm_P (QX kc km h (B + 20) XA XS (spPartTake σ a1 a2)) 8 48) l 71 6 8 48 0 [some (.ref 0), some (dI (a1)), some (dI (a2)), none, none] [] h 0 0
  refine dr_iload_n rfl rfl ?_
  refine dr_iload_n rfl rfl ?_
  refine dr_stat rfl rfl rfl rfl (f_X6_codeOfSpan l hl hI (a0 := a1) (by omega) (by omega) (a1 := a2) (by omega) (by omega)) (by decide) (by decide) (by decide) (Nat.le_of_ble_eq_true rfl) (fun Y h9 q9 => by obtain ⟨rfl, rfl, hC⟩ := q9; exact dr_out rfl (by decide) (by decide) (QX_1 (a := 0) hI FrC_rf hS (by omega) (by unfold spPartTake; (repeat' split) <;> first | rfl | (exfalso; omega) | (apply Prod.ext <;> first | rfl | (dsimp only; omega) | (apply Prod.ext <;> first | rfl | (dsimp only; omega)))))) (kPXI (fun y1 ⟨q2, q3, q4, q5⟩ => ?_))
  subst q2
  refine di_istore_n (ls2 := [some (.ref 0), some (dI (a1)), some (dI (a2)), some (dI ((100 * a2 + a1))), none]) rfl rfl rfl ?_
  refine di_aload_n rfl rfl ?_
  obtain ⟨r6, c7, c8, hc10⟩ := I_cls hI
  refine dr_virt rfl rfl rfl rfl hc10 (f_X6_bookOfPart l hl hI hS (by omega)) (by decide) (by decide) (by decide) (Nat.le_of_ble_eq_true rfl) (fun Y h9 q9 => by obtain ⟨rfl, rfl, hC⟩ := q9; exact dr_out rfl (by decide) (by decide) (QX_2 (a := 0) hI FrC_rf hS (by omega) (by unfold spPartTake; (repeat' split) <;> first | rfl | (exfalso; omega) | (apply Prod.ext <;> first | rfl | (dsimp only; omega) | (apply Prod.ext <;> first | rfl | (dsimp only; omega)))))) (kPXR (fun r11 ⟨q12, q13, q14, q15⟩ => ?_))
  refine di_astore (ls2 := [some (.ref 0), some (dI (a1)), some (dI (a2)), some (dI ((100 * a2 + a1))), some (.ref r11)]) rfl rfl rfl ?_
  refine di_aload_n rfl rfl ?_
  refine dr_getf rfl hc10 rfl ?_
  refine dr_iload_n rfl rfl ?_
  have pr16 := hS.2
  obtain ⟨pr16a, pr16b, pr16c, pr16d⟩ := pr16
  refine dr_virt rfl rfl rfl rfl pr16a (f_X4_isWithin l hl hI hS (by omega) (a1 := a2) (by omega) (by omega)) (by decide) (by decide) (by decide) (Nat.le_of_ble_eq_true rfl) kNP (kIP (fun y17 y17f y17a y17b => ?_))
  obtain ⟨y17c, y17d, y17e, y17g⟩ := y17f
  refine di_if_eq rfl rfl (by omega) (by omega) (fun c18 => ?_) (fun c18 => ?_)
  · skip
    refine di_const rfl ?_
    exact dr_iret (ty := .int) rfl rfl rfl (by decide) (by decide) (QX_ok hI FrC_rf hS (by omega) (by unfold spPartTake; (repeat' split) <;> first | rfl | (exfalso; omega) | (apply Prod.ext <;> first | rfl | (dsimp only; omega) | (apply Prod.ext <;> first | rfl | (dsimp only; omega)))))
  · skip
    refine di_aload rfl rfl ?_
    refine di_aload rfl rfl ?_
    refine dr_iload_n rfl rfl ?_
    obtain ⟨s19, m20, u21, w22, hc23, hr24, ht25, ma26, mb27⟩ := CSt_bk hS (k := σ.2.1.1) q14 q15 q13
    have sq28 : 0 ≤ s19 ∧ s19 ≤ 8 := ⟨hc23.2.2.2.2.2.1, hc23.2.2.2.2.2.2.1⟩
    have hz29 : zF (σ.1 σ.2.1.1) = s19 := zF_eq hr24
    refine dr_virt rfl rfl rfl rfl hc23.1 (f_X0_rankOf l hl hI q12 hc23 (a1 := (100 * a2 + a1)) (by omega) (by omega) hr24 ht25) (by decide) (by decide) (by decide) (Nat.le_of_ble_eq_true rfl) kNP (kIP (fun y30 y30f y30a y30b => ?_))
    obtain ⟨y30c, y30d, y30k⟩ := y30f
    refine dr_stat rfl rfl rfl rfl (c_X6_removeTold l hl hI hS (by omega) q12 q14 q15 q13 (a1 := y30) (by omega) (by omega) hc23 hr24 ht25 ma26 mb27 y30k) (by decide) (by decide) (by decide) (Nat.le_of_ble_eq_true rfl) kQCN (kQC (fun h31 hI32 hF33 hS34 => ?_))
    have hF35 := hF33
    refine dr_goto rfl rfl ?_
    exact dr_iret (ty := .int) rfl rfl rfl (by decide) (by decide) (QX_ok hI32 hF35 hS34 (by omega) (by unfold spPartTake; (repeat' split) <;> first | rfl | (exfalso; omega) | (apply Prod.ext <;> first | rfl | (dsimp only; omega) | (apply Prod.ext <;> first | rfl | (dsimp only; omega)))))
set_option maxHeartbeats 4000000 in
set_option maxRecDepth 100000 in
/-- Earlyends.partDraw -/
theorem c_X6_partDraw (l : Launch) (hl : l.stackTraces = false) {kc km : Int} {h : dm_H} (hI : Inv kc km h) {B : Int} {σ : St} (hS : CSt B σ h) (hB : B ≤ 80000) {a1 : Int} (h1a : 0 ≤ a1) (h1b : a1 ≤ 1) : dm_M l 72 6 8 48 [.ref 0, dI (a1)] h (QX kc km h (B + 20) XS XA (spPartDraw σ a1)) := by
  refine dm_M_of dk_72 hl rfl (Nat.le_of_ble_eq_true rfl) ?_
  show dm_W (fun _ _ _ => True) (dm_P (QX kc km h (B + 20) XS XA (spPartDraw σ a1)) 8 48) l 72 6 8 48 0 [some (.ref 0), some (dI (a1)), none] [] h 0 0
  refine di_aload_n rfl rfl ?_
  obtain ⟨r1, c2, c3, hc4⟩ := I_cls hI
  refine dr_virt rfl rfl rfl rfl hc4 (f_X6_bookOfPart l hl hI hS (by omega)) (by decide) (by decide) (by decide) (Nat.le_of_ble_eq_true rfl) (fun Y h9 q9 => by obtain ⟨rfl, rfl, hC⟩ := q9; exact dr_out rfl (by decide) (by decide) (QX_1 (a := 0) hI FrC_rf hS (by omega) (by unfold spPartDraw; (repeat' split) <;> first | rfl | (exfalso; omega) | (apply Prod.ext <;> first | rfl | (dsimp only; omega) | (apply Prod.ext <;> first | rfl | (dsimp only; omega)))))) (kPXR (fun r5 ⟨q6, q7, q8, q10⟩ => ?_))
  refine di_astore_n (ls2 := [some (.ref 0), some (dI (a1)), some (.ref r5)]) rfl rfl rfl ?_
  refine di_aload_n rfl rfl ?_
  refine di_aload_n rfl rfl ?_
  refine dr_getf rfl hc4 rfl ?_
  refine di_aload_n rfl rfl ?_
  have pr11 := hS.2
  obtain ⟨pr11a, pr11b, pr11c, pr11d⟩ := pr11
  obtain ⟨s12, m13, u14, w15, hc16, hr17, ht18, ma19, mb20⟩ := CSt_bk hS (k := σ.2.1.1) q8 q10 q7
  have sq21 : 0 ≤ s12 ∧ s12 ≤ 8 := ⟨hc16.2.2.2.2.2.1, hc16.2.2.2.2.2.2.1⟩
  have hz22 : zF (σ.1 σ.2.1.1) = s12 := zF_eq hr17
  refine dr_virt rfl rfl rfl rfl pr11a (f_X4_startIn l hl hI hS (by omega) q6 q8 q10 q7 hc16 hr17 ht18 ma19 mb20) (by decide) (by decide) (by decide) (Nat.le_of_ble_eq_true rfl) kNP (kIP (fun y23 y23f y23a y23b => ?_))
  obtain ⟨y23c, y23d, y23k⟩ := y23f
  have y23l : y23 ≤ s12 := y23k.2.1
  refine di_aload_n rfl rfl ?_
  refine dr_getf rfl hc4 rfl ?_
  refine di_aload_n rfl rfl ?_
  refine dr_virt rfl rfl rfl rfl pr11a (f_X4_endIn l hl hI hS (by omega) q6 q8 q10 q7 hc16 hr17 ht18 ma19 mb20) (by decide) (by decide) (by decide) (Nat.le_of_ble_eq_true rfl) kNP (kIP (fun y24 y24f y24a y24b => ?_))
  obtain ⟨y24c, y24d, y24k⟩ := y24f
  have y24l : y24 ≤ s12 := y24k.2.1
  refine dr_iload_n rfl rfl ?_
  refine dr_stat rfl rfl rfl rfl (c_X6_drawWithin l hl hI hS (by omega) q6 q8 q10 q7 (a1 := y23) (by omega) (by omega) (a2 := y24) (by omega) (by omega) (a3 := a1) (by omega) (by omega) hc16 hr17 ht18 ma19 mb20 (P := (inP σ.2.1.2.1 σ.2.1.2.2)) (rg_P y23k y24k)) (by decide) (by decide) (by decide) (Nat.le_of_ble_eq_true rfl) kQCN (kQC (fun h25 hI26 hF27 hS28 => ?_))
  have hF29 := hF27
  exact dr_iret (ty := .int) rfl rfl rfl (by decide) (by decide) (QX_ok hI26 hF29 hS28 (by omega) (by unfold spPartDraw; (repeat' split) <;> first | rfl | (exfalso; omega) | (apply Prod.ext <;> first | rfl | (dsimp only; omega) | (apply Prod.ext <;> first | rfl | (dsimp only; omega)))))
