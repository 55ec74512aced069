/-! ===== the model's calls that make rows ===== -/
def FrN (h h1 : dm_H) : Prop := h.length ≤ h1.length ∧ ∀ j : Nat, j < h.length → j < 26 ∨ 36 ≤ j → h1[j]? = h[j]?
theorem FrM_N {h h1 : dm_H} (a : FrM h h1) : FrN h h1 := ⟨by rw [a.1]; exact Nat.le_refl _, fun j _ x => a.2 j x⟩
theorem App_N {h h1 : dm_H} (a : App h h1) : FrN h h1 := ⟨a.1, fun j x _ => a.2 j x⟩
theorem FrN_tr {h h1 h2 : dm_H} (a : FrN h h1) (b : FrN h1 h2) : FrN h h2 := ⟨Nat.le_trans a.1 b.1, fun j x y => (b.2 j (Nat.lt_of_lt_of_le x a.1) y).trans (a.2 j x y)⟩
theorem CSt_FrN {kc km B : Int} {σ : St} {h h' : dm_H} (hS : CSt B σ h) (hI : Inv kc km h) (f : FrN h h') : CSt B σ h' := CSt_same hS (fun j j0 j1 j2 => f.2 j (by have := Inv_len hI; omega) (by omega))
theorem MSt_Ap {kc km km2 th : Int} {σ : St} {h h' : dm_H} (hM : MSt km th σ h) (hI : Inv kc km2 h) (f : App h h') : MSt km th σ h' := MSt_same hM (fun j _ j1 => f.2 j (by have := Inv_len hI; omega))
def QMA (kc km : Int) (h : dm_H) (q : Int × Int × St) : dm_Rs := fun r h' => Inv kc km h' ∧ FrN h h' ∧ MSt km q.1 q.2.2 h' ∧ ∃ a : Int, r = .inl (some (dI a)) ∧ -2147483648 ≤ a ∧ a < 2147483648 ∧ (q.1 = 0 → a = q.2.1)
section QMAR
variable {E : dm_Ex} {P : dm_Po} {l : Launch} {z d MC MS pc ce sl : Nat} {ls : List (Option Value)} {st : List Value} {h h' : dm_H} {kc km th a : Int} {σ : St}
theorem kQMA {q : Int × Int × St} (kk : ∀ (a : Int) (h1 : dm_H), Inv kc km h1 → FrN h h1 → MSt km q.1 q.2.2 h1 → -2147483648 ≤ a → a < 2147483648 → (q.1 = 0 → a = q.2.1) → dm_W E P l z d MC MS pc ls (dI a :: st) h1 ce sl) : ∀ (v : Option Value) (h1 : dm_H), QMA kc km h q (.inl v) h1 → dm_W E P l z d MC MS pc ls (v.toList ++ st) h1 ce sl := by
  rintro v h1 ⟨x, y, z, a, e, b0, b1, w⟩
  cases e
  exact kk a h1 x y z b0 b1 w
theorem kQMAN {q : Int × Int × St} : ∀ (Y : String) (h1 : dm_H), QMA kc km h q (.inr Y) h1 → dm_T9 E P l z d MC MS Y pc ls h1 ce sl := fun _ _ q => by obtain ⟨a, e, -⟩ := q.2.2.2; cases e
theorem QMA_ok {q : Int × Int × St} (hI : Inv kc km h') (hF : FrN h h') (hM : MSt km th σ h') (b0 : -2147483648 ≤ a) (b1 : a < 2147483648) (e : q = (th, a, σ)) : QMA kc km h q (.inl (some (dI a))) h' := by
  subst e; exact ⟨hI, hF, hM, a, rfl, b0, b1, fun _ => rfl⟩
theorem QMA_no {q : Int × Int × St} {x : Int} (hI : Inv kc km h') (hF : FrN h h') (hM : MSt km th σ h') (ht : th ≠ 0) (b0 : -2147483648 ≤ a) (b1 : a < 2147483648) (e : q = (th, x, σ)) : QMA kc km h q (.inl (some (dI a))) h' := by
  subst e; exact ⟨hI, hF, hM, a, rfl, b0, b1, fun e => absurd e ht⟩
theorem pdsX {h0 : dm_H} {i n : Nat} {vs : List Value} {e x : Int} (hi : dm_at z pc = some (.iastore, 1, [])) (hh : h[i]? = some (20, vs)) (ha : arr n okR vs) (h1 : 0 ≤ e) (h2 : e < n) (hF : okR x) (hb : h0.length ≤ i) (hA : App h0 h)
    (kk : ∀ h1 : dm_H, App h0 h1 → ∀ us : List Value, h1[i]? = some (20, us) → arr n okR us → stt vs us e x → (∀ j : Nat, j ≠ i → h1[j]? = h[j]?) → dm_W E P l z d MC MS (pc + 1) ls st h1 ce sl) : dm_W E P l z d MC MS pc ls (dI x :: dI e :: .ref i :: st) h ce sl :=
  di_iast hi hh ha h1 h2 hF (by have := hF.1; omega) (by have := hF.2; omega) (fun hs => kk _ ⟨by rw [List.length_set]; exact hA.1, fun j hj => by rw [List.getElem?_set, if_neg (by omega)]; exact hA.2 j hj⟩ _ (by rw [List.getElem?_set, if_pos rfl, if_pos (App_lt hh)]) hs (cv_st h1 (by rw [ha.1]; omega) (by have := hF.1; omega) (by have := hF.2; omega)) (fun j hj => by rw [List.getElem?_set, if_neg (fun e => hj e.symm)]))
/-- a row of the codes by rank -/
def rwQ (F : Int → Int) (n : Nat) (v : List Value) : Prop := ((n : Int) = zF F ∧ n ≤ 8) ∧ okV v n ∧ ∀ j : Int, 0 ≤ j → j < n → cv v j = cR F j
def RW (h : dm_H) (Φ : Nat → List Value → Prop) : Option Value → dm_H → Prop := fun v h' => ∃ (b n : Nat) (vs : List Value), Φ n vs ∧ h.length ≤ b ∧ h'[b]? = some (20, vs) ∧ arr n okR vs ∧ v = some (.ref b)
theorem kRW {Φ : Nat → List Value → Prop} (kk : ∀ (h1 : dm_H), App h h1 → ∀ (b n : Nat) (vs : List Value), Φ n vs → h.length ≤ b → h1[b]? = some (20, vs) → arr n okR vs → dm_W E P l z d MC MS pc ls (.ref b :: st) h1 ce sl) : ∀ (v : Option Value) (h1 : dm_H), QA h (RW h Φ) (.inl v) h1 → dm_W E P l z d MC MS pc ls (v.toList ++ st) h1 ce sl := by
  rintro v h1 ⟨a, b, n, vs, c1, c2, c3, c4, rfl⟩
  exact kk h1 a b n vs c1 c2 c3 c4
end QMAR
theorem choM_y {F : Int → Int} {n : Nat} {v : List Value} {A : Int} (h : rwQ F n v) (k : apt (cv v) n A) : anChoice F A = bb A 8 := @if_pos _ (Classical.propDecidable _) (by rw [← h.1.1]; exact apt_cg h.2.2 k) Int (bb A 8) (-1)
theorem choM_n {F : Int → Int} {n : Nat} {v : List Value} {A : Int} (h : rwQ F n v) (k : ¬ apt (cv v) n A) : anChoice F A = -1 := @if_neg _ (Classical.propDecidable _) (by rw [← h.1.1]; exact fun q => k (apt_cg (fun j j0 j1 => (h.2.2 j j0 j1).symm) q)) Int (bb A 8) (-1)
def rwI (F : Int → Int) (v : List Value) (i : Int) : Prop := ∀ j : Int, 0 ≤ j → j < i → cv v j = cR F j ∧ 0 ≤ cv v j ∧ cv v j % 100 ≤ cv v j / 100
theorem rwI_0 {F : Int → Int} {v : List Value} : rwI F v 0 := fun j h0 h1 => by omega
theorem rwI_s {F f g : Int → Int} {s i x : Int} {v v2 : List Value} (h : rwI F v i) (hT : sRp F) (hr : Rep f g s F) (hok : ∀ j : Int, 0 ≤ j → j < s → f j % 100 ≤ f j / 100) (i0 : 0 ≤ i) (i1 : i < s) (hx : rkC F i x) (hs : stt v v2 i x) : rwI F v2 (i + 1) := fun j j0 j1 => by
  by_cases q : j = i
  · rw [q, stt_at hs i0]
    obtain ⟨f0, g0, s0, r0, t0⟩ := hT
    have es := Rep_sz hr r0
    subst es
    have e := (rkC_s hx r0 t0).1 i0 i1
    obtain ⟨k, k0, k1, ek⟩ := Rep_ex hr (Rep_yes r0 i0 i1 rfl).2.1
    have h9 := Rep_at hr k0 k1
    have := hok k k0 k1
    refine ⟨by rw [e, cR_eq r0 t0 i0 i1], ?_⟩
    rw [e, ← ek]
    omega
  · rw [stt_ne hs j0 q]; exact h j j0 (by omega)
theorem rwI_e {F f g : Int → Int} {s i : Int} {n : Nat} {v : List Value} (h : rwI F v i) (hr : Rep f g s F) (e : (n : Int) = s) (s8 : s ≤ 8) (ei : (n : Int) ≤ i) : rwQ F n v := ⟨⟨by rw [zF_eq hr]; exact e, by omega⟩, fun j j0 j1 => (h j j0 (by omega)).2, fun j j0 j1 => (h j j0 (by omega)).1⟩
set_option maxHeartbeats 4000000 in
set_option maxRecDepth 100000 in
theorem n_X8_row (l : Launch) (hl : l.stackTraces = false) {kc km : Int} {h : dm_H} (hI : Inv kc km h) {th : Int} {σ : St} (hM : MSt km th σ h) {a1 : Int} (h1a : 0 ≤ a1) (h1b : a1 ≤ 2) {r q : Nat} {u w us : List Value} (er : (r : Int) = (28 : Nat) + a1) (eq : (q : Int) = (32 : Nat) + a1) (hu : h[r]? = some (20, u)) (hw : h[q]? = some (20, w)) (au : arr 8 okC u) (aw : arr 8 anyI w) (h35 : h[35]? = some (20, us)) (as : arr 3 okS us) (hr : Rep (cv u) (cv w) (cv us a1) (σ.1 a1)) (s0 : 0 ≤ cv us a1) (s8 : cv us a1 ≤ 8) (hT : sSt σ) : dm_M l 137 2 1 16 [.ref 26, dI a1] h (QA h (RW h (rwQ (σ.1 a1)))) := by
  obtain ⟨ni, c26, -, -⟩ := hM.1
  have l37 := Inv_len hI
  have hTa := hT a1 h1a h1b
  refine dm_M_of dk_137 hl rfl (Nat.le_of_ble_eq_true rfl) ?_
  show dm_W (fun _ _ _ => True) (dm_P (QA h (RW h (rwQ (σ.1 a1)))) 1 16) l 137 2 1 16 0 [some (.ref 26), some (dI a1), none, none] [] h 0 0
  refine di_aload_n rfl rfl ?_
  refine dr_getf rfl c26 rfl ?_
  refine dr_iload_n rfl rfl ?_
  refine di_iald rfl h35 as (by omega) (by omega) (fun x xf xa xb xv => ?_)
  have xg : 0 ≤ x ∧ x ≤ 8 := xf
  have xw : cv us a1 = x := cv_eq xv xa xb
  obtain ⟨n, hn⟩ := Int.eq_ofNat_of_zero_le (show 0 ≤ x by omega)
  have n8 : n ≤ 8 := by omega
  refine pnw rfl hn (by omega) (by omega) (by omega) (fun h1 hA1 b hb vs hc ha => ?_)
  refine dm_cew (ce2 := 1) (sl2 := 8) (by omega) (by omega) ?_
  refine di_astore_n (ls2 := [some (.ref 26), some (dI a1), some (.ref b), none]) rfl rfl rfl ?_
  refine di_const rfl ?_
  refine di_istore_n (ls2 := [some (.ref 26), some (dI a1), some (.ref b), some (dI 0)]) rfl rfl rfl ?_
  have L : ∀ (k : Nat) (i : Int) (h2 : dm_H) (v : List Value), (8 - i).toNat < k → 0 ≤ i → i ≤ n → App h h2 → h2[b]? = some (20, v) → arr n okR v → rwI (σ.1 a1) v i → dm_W (fun _ _ _ => True) (dm_P (QA h (RW h (rwQ (σ.1 a1)))) 1 16) l 137 2 1 16 11 [some (.ref 26), some (dI a1), some (.ref b), some (dI i)] [] h2 1 8 := by
    intro k
    induction k with
    | zero => intro i h2 v hm; exact absurd hm (Nat.not_lt_zero _)
    | succ k ih =>
      intro i h2 v hm i0 i1 hA hc ha PR
      have hI2 := App_Inv hA hI
      have hM2 := MSt_Ap hM hI hA
      refine dr_iload_n rfl rfl ?_
      refine di_aload_n rfl rfl ?_
      refine di_alen (n := n) rfl hc (Or.inl rfl) ha.1 ?_
      refine di_icmp_ge rfl rfl (by omega) (by omega) (by omega) (by omega) (fun c => ?_) (fun c => ?_)
      · refine di_aload_n rfl rfl ?_
        exact dr_aret rfl rfl (Or.inr ⟨_, rfl⟩) (Or.inl ⟨_, rfl⟩) (by omega) (by omega) ⟨hA, b, n, v, rwI_e PR hr (by omega) s8 c, hb, hc, ha, rfl⟩
      · refine di_aload_n rfl rfl ?_
        refine dr_iload_n rfl rfl ?_
        refine di_aload_n rfl rfl ?_
        refine dr_iload_n rfl rfl ?_
        refine dr_iload_n rfl rfl ?_
        refine dr_virt rfl rfl rfl rfl (App_at hA c26) (n_X8_codeAt l hl hI2 hM2 (a1 := a1) (by omega) (by omega) (a2 := i) (by omega) (by omega) er eq (App_at hA hu) (App_at hA hw) au aw (App_at hA h35) as hr s0 s8) (by decide) (by decide) (by decide) (Nat.le_of_ble_eq_true rfl) kNP (kIP (fun y yf ya yb => ?_))
        obtain ⟨yc, yd, yk⟩ := yf
        refine pdsX rfl hc ha (by omega) (by omega) ⟨by omega, by omega⟩ hb hA (fun h3 hA3 us3 hc3 ha3 hs3 hk3 => ?_)
        refine di_iinc (ls2 := [some (.ref 26), some (dI a1), some (.ref b), some (dI (i + 1))]) rfl rfl rfl rfl ?_
        refine dr_goto rfl rfl ?_
        exact ih (i + 1) h3 us3 (by omega) (by omega) (by omega) hA3 hc3 ha3 (rwI_s PR hTa hr (CA_ok au s8) i0 (by omega) yk hs3)
  exact L _ 0 h1 vs (Nat.lt_succ_self _) (by omega) (by omega) hA1 hc ha rwI_0
set_option maxHeartbeats 4000000 in
set_option maxRecDepth 100000 in
/-- EarlyendsModel.isNoSet -/
theorem n_X8_isNoSet (l : Launch) (hl : l.stackTraces = false) {kc km : Int} {h : dm_H} (hI : Inv kc km h) {th : Int} {σ : St} (hM : MSt km th σ h) {a1 : Int} (h1a : 0 ≤ a1) (h1b : a1 ≤ 2) {a2 : Int} (h2a : -2147483648 ≤ a2) (h2b : a2 ≤ 2147483647) {r q : Nat} {u w us : List Value} (er : (r : Int) = (28 : Nat) + a1) (eq : (q : Int) = (32 : Nat) + a1) (hu : h[r]? = some (20, u)) (hw : h[q]? = some (20, w)) (au : arr 8 okC u) (aw : arr 8 anyI w) (h35 : h[35]? = some (20, us)) (as : arr 3 okS us) (hr : Rep (cv u) (cv w) (cv us a1) (σ.1 a1)) (s0 : 0 ≤ cv us a1) (s8 : cv us a1 ≤ 8) : dm_M l 193 0 0 0 [.ref 26, dI (a1), dI (a2)] h (QP h (RI (fun x => 0 ≤ x ∧ x ≤ 1 ∧ (x = 1 → a2 < 0 ∨ pwI (cv us a1) ≤ a2) ∧ (x = 0 → 0 ≤ a2 ∧ a2 < pwI (cv us a1)))) []) := by
  obtain ⟨⟨ni, c26, ni0, ni1⟩, ⟨⟨R1, R2⟩, ⟨R3, R4⟩, ⟨R5, R6⟩, ⟨R7, R8⟩, ⟨R9, R10⟩, ⟨R11, R12⟩, R13⟩, ⟨th0, th1⟩, -⟩ := id hM
  have R14 : σ.2.2.2.2.2.1 = -1 ∨ (0 ≤ σ.2.2.2.2.2.1 ∧ σ.2.2.2.2.2.1 ≤ 9999 ∧ σ.2.2.2.2.2.1 % 100 ≤ σ.2.2.2.2.2.1 / 100) := R13
  have mr : isCR r := isCR_of er (by omega) (by omega)
  have mq : isNR q := isNR_of eq (by omega) (by omega)
  refine dm_M_of dk_193 hl rfl (Nat.le_of_ble_eq_true rfl) ?_
  show dm_W (fun _ _ _ => True) (dm_P (QP h (RI (fun x => 0 ≤ x ∧ x ≤ 1 ∧ (x = 1 → a2 < 0 ∨ pwI (cv us a1) ≤ a2) ∧ (x = 0 → 0 ≤ a2 ∧ a2 < pwI (cv us a1)))) []) 0 0) l 193 0 0 0 0 [some (.ref 26), some (dI (a1)), some (dI (a2))] [] h 0 0
  refine dr_iload_n rfl rfl ?_
  refine di_if_lt rfl rfl (by omega) (by omega) (fun c1 => ?_) (fun c1 => ?_)
  · skip
    refine di_const rfl ?_
    refine dr_goto rfl rfl ?_
    exact dr_iret (ty := .boolean) rfl rfl (nar_z (by omega) (by omega)) (by decide) (by decide) ⟨rfl, 1, ⟨by omega, by omega, fun _ => Or.inl (by omega), fun e9 => absurd e9 (by decide)⟩, by omega, by omega, rfl⟩
  · skip
    refine dr_iload_n rfl rfl ?_
    refine di_const rfl ?_
    refine di_aload_n rfl rfl ?_
    refine dr_getf rfl c26 rfl ?_
    refine dr_iload_n rfl rfl ?_
    refine di_iald rfl h35 as (by omega) (by omega) (fun x2 x2f x2a x2b x2v => ?_)
    have x2w : cv us a1 = x2 := cv_eq x2v x2a x2b
    have x2g : 0 ≤ x2 ∧ x2 ≤ 8 := x2f
    refine di_shl8 rfl (by omega) (by omega) (fun w3 w3a w3b w3e => ?_)
    refine di_icmp_lt rfl rfl (by omega) (by omega) (by omega) (by omega) (fun c4 => ?_) (fun c4 => ?_)
    · skip
      refine di_const rfl ?_
      exact dr_iret (ty := .boolean) rfl rfl (nar_z (by omega) (by omega)) (by decide) (by decide) ⟨rfl, 0, ⟨by omega, by omega, by rw [x2w]; omega, by rw [x2w]; omega⟩, by omega, by omega, rfl⟩
    · skip
      refine di_const rfl ?_
      refine dr_goto rfl rfl ?_
      exact dr_iret (ty := .boolean) rfl rfl (nar_z (by omega) (by omega)) (by decide) (by decide) ⟨rfl, 1, ⟨by omega, by omega, by rw [x2w]; omega, by rw [x2w]; omega⟩, by omega, by omega, rfl⟩
set_option maxHeartbeats 4000000 in
set_option maxRecDepth 100000 in
/-- EarlyendsModel.choice -/
theorem n_X8_choice (l : Launch) (hl : l.stackTraces = false) {kc km : Int} {h : dm_H} (hI : Inv kc km h) {th : Int} {σ : St} (hM : MSt km th σ h) {a1 : Int} (h1a : -2147483648 ≤ a1) (h1b : a1 ≤ 2147483647) {a2 : Int} (h2a : -2147483648 ≤ a2) (h2b : a2 ≤ 2147483647) (hT : sSt σ) : dm_M l 195 8 1 16 [.ref 26, dI (a1), dI (a2)] h (QMA kc km h (spChoice σ a1 a2)) := by
  obtain ⟨⟨ni, c26, ni0, ni1⟩, ⟨⟨R1, R2⟩, ⟨R3, R4⟩, ⟨R5, R6⟩, ⟨R7, R8⟩, ⟨R9, R10⟩, ⟨R11, R12⟩, R13⟩, ⟨th0, th1⟩, -⟩ := id hM
  have R14 : σ.2.2.2.2.2.1 = -1 ∨ (0 ≤ σ.2.2.2.2.2.1 ∧ σ.2.2.2.2.2.1 ≤ 9999 ∧ σ.2.2.2.2.2.1 % 100 ≤ σ.2.2.2.2.2.1 / 100) := R13
  refine dm_M_of dk_195 hl rfl (Nat.le_of_ble_eq_true rfl) ?_
  show dm_W (fun _ _ _ => True) (dm_P (QMA kc km h (spChoice σ a1 a2)) 1 16) l 195 8 1 16 0 [some (.ref 26), some (dI (a1)), some (dI (a2))] [] h 0 0
  refine di_aload_n rfl rfl ?_
  refine dr_iload_n rfl rfl ?_
  refine dr_stat rfl rfl rfl rfl (f_X8_isNoBook l hl hI (a0 := a1) (by omega) (by omega)) (by decide) (by decide) (by decide) (Nat.le_of_ble_eq_true rfl) kNP (kIP (fun y1 y1f y1a y1b => ?_))
  have y1g : 0 ≤ y1 ∧ y1 ≤ 1 ∧ (y1 = 0 → 0 ≤ a1 ∧ a1 ≤ 2) ∧ (y1 = 1 → a1 < 0 ∨ 2 < a1) := y1f
  clear y1f
  refine di_const rfl ?_
  rcases (by omega : y1 = 0 ∨ y1 = 1) with ey2 | ey2
  · skip
    rw [ey2]
    refine dr_virt rfl rfl rfl rfl c26 (f_X8_start0 l hl hI hM (a2 := 1) (by omega) (by omega)) (by decide) (by decide) (by decide) (Nat.le_of_ble_eq_true rfl) kNQN (kNQ (fun h3 hI4 hF5 hM6 => ?_))
    have hF7 := FrM_tr FrM_rf hF5
    refine di_if_ne rfl rfl (by omega) (by omega) (fun c9 => by exfalso; omega) (fun _ => ?_)
    refine di_aload_n rfl rfl ?_
    refine di_aload_n rfl rfl ?_
    refine dr_iload_n rfl rfl ?_
    refine dr_iload_n rfl rfl ?_
    obtain ⟨⟨ni8, ni8c, ni8a, ni8b⟩, -⟩ := id hM6
    obtain ⟨r10, q11, u12, w13, us14, er15, eq16, hu17, hw18, au19, aw20, hs21, as22, hr23, sa24, sb25⟩ := MSt_bk hM6 (k := a1) (by omega) (by omega)
    have hz26 : zF (σ.1 a1) = cv us14 a1 := zF_eq hr23
    have mr27 : isCR r10 := isCR_of er15 (by omega) (by omega)
    have mq28 : isNR q11 := isNR_of eq16 (by omega) (by omega)
    have y29p := pwI_8 (r := cv us14 a1) (by omega) (by omega)
    refine dr_virt rfl rfl rfl rfl ni8c (n_X8_isNoSet l hl hI4 hM6 (a1 := a1) (by omega) (by omega) (a2 := a2) (by omega) (by omega) er15 eq16 hu17 hw18 au19 aw20 hs21 as22 hr23 sa24 sb25) (by decide) (by decide) (by decide) (Nat.le_of_ble_eq_true rfl) kNP (kIP (fun y29 y29f y29a y29b => ?_))
    obtain ⟨y29c, y29d, y29k, y29k2⟩ := y29f
    refine di_const rfl ?_
    rcases (by omega : y29 = 0 ∨ y29 = 1) with ey30 | ey30
    · skip
      rw [ey30]
      refine dr_virt rfl rfl rfl rfl ni8c (f_X8_refuse0 l hl hI4 hM6 (a2 := 2) (by omega) (by omega)) (by decide) (by decide) (by decide) (Nat.le_of_ble_eq_true rfl) kNQN (kNQ (fun h31 hI32 hF33 hM34 => ?_))
      have hF35 := FrM_tr hF7 hF33
      refine di_if_eq rfl rfl (by omega) (by omega) (fun _ => ?_) (fun c9 => by exfalso; omega)
      refine di_aload_n rfl rfl ?_
      refine dr_iload_n rfl rfl ?_
      obtain ⟨r36, q37, u38, w39, us40, er41, eq42, hu43, hw44, au45, aw46, hs47, as48, hr49, sa50, sb51⟩ := MSt_bk hM34 (k := a1) (by omega) (by omega)
      have hz52 : zF (σ.1 a1) = cv us40 a1 := zF_eq hr49
      have mr53 : isCR r36 := isCR_of er41 (by omega) (by omega)
      have mq54 : isNR q37 := isNR_of eq42 (by omega) (by omega)
      obtain ⟨⟨ni55, ni55c, ni55a, ni55b⟩, -⟩ := id hM34
      refine dr_virt rfl rfl rfl rfl ni55c (n_X8_row l hl hI32 hM34 (a1 := a1) (by omega) (by omega) er41 eq42 hu43 hw44 au45 aw46 hs47 as48 hr49 sa50 sb51 hT) (by decide) (by decide) (by decide) (Nat.le_of_ble_eq_true rfl) kAN (kRW (fun h56 hA57 b58 n59 vs60 hp61 hb62 hc63 ha64 => ?_))
      have hp61 : rwQ (σ.1 a1) n59 vs60 := hp61
      have hI65 := App_Inv hA57 hI32
      have hM66 := MSt_Ap hM34 hI32 hA57
      have hN67 := FrN_tr (FrM_N hF35) (App_N hA57)
      have hc68 := App_at hA57 hu43
      have hc69 := App_at hA57 hw44
      have hc70 := App_at hA57 hs47
      have hc71 := App_at hA57 ni55c
      have hc72 := App_at hA57 hu43
      have hc73 := App_at hA57 hw44
      have hc74 := App_at hA57 hs47
      have n59b := hp61.1.2
      refine dr_iload_n rfl rfl ?_
      refine dr_stat rfl rfl rfl rfl (s_X8_isApart_f l hl hI65 (b0 := b58) (n0 := n59) (v0 := vs60) hc63 ha64 (by omega) (a1 := a2) (by omega) (by omega) (hv := hp61.2.1)) (by decide) (by decide) (by decide) (Nat.le_of_ble_eq_true rfl) kNP (kIP (fun y75 y75f y75a y75b => ?_))
      obtain ⟨y75c, y75d, y75k, y75k2⟩ := y75f
      refine di_if_eq rfl rfl (by omega) (by omega) (fun c76 => ?_) (fun c76 => ?_)
      · skip
        refine di_const rfl ?_
        have e9 : anChoice (σ.1 a1) a2 = -1 := choM_n hp61 (y75k2 (by omega))
        exact dr_iret (ty := .int) rfl rfl rfl (by decide) (by decide) (QMA_ok hI65 hN67 hM66 (by omega) (by omega) (by unfold spChoice; (try rw [hz26]); (try rw [e9]); (repeat' split) <;> first | rfl | (exfalso; omega) | (apply Prod.ext <;> first | rfl | (dsimp only; omega) | (apply Prod.ext <;> first | rfl | (dsimp only; omega)))))
      · skip
        refine dr_iload_n rfl rfl ?_
        refine dr_stat rfl rfl rfl rfl (s_X8_sizeOf_s l hl hI65 (a0 := a2) (by omega) (by omega)) (by decide) (by decide) (by decide) (Nat.le_of_ble_eq_true rfl) kNP (kIP (fun y77 y77f y77a y77b => ?_))
        obtain ⟨y77c, y77d, y77k⟩ := y77f
        refine dr_goto rfl rfl ?_
        have e9 : anChoice (σ.1 a1) a2 = y77 := (choM_y hp61 (y75k (by omega))).trans y77k.symm
        exact dr_iret (ty := .int) rfl rfl rfl (by decide) (by decide) (QMA_ok hI65 hN67 hM66 (by omega) (by omega) (by unfold spChoice; (try rw [hz26]); (try rw [e9]); (repeat' split) <;> first | rfl | (exfalso; omega) | (apply Prod.ext <;> first | rfl | (dsimp only; omega) | (apply Prod.ext <;> first | rfl | (dsimp only; omega)))))
    · skip
      rw [ey30]
      refine dr_virt rfl rfl rfl rfl ni8c (f_X8_refuse1 l hl hI4 hM6 (a2 := 2) (by omega) (by omega)) (by decide) (by decide) (by decide) (Nat.le_of_ble_eq_true rfl) kNQN (kNQ (fun h78 hI79 hF80 hM81 => ?_))
      have hF82 := FrM_tr hF7 hF80
      refine di_if_eq rfl rfl (by omega) (by omega) (fun c9 => by exfalso; omega) (fun _ => ?_)
      refine di_const rfl ?_
      exact dr_iret (ty := .int) rfl rfl rfl (by decide) (by decide) (QMA_no (x := 0) hI79 (FrM_N hF82) hM81 (by omega) (by omega) (by omega) (by unfold spChoice; (try rw [hz26]); (repeat' split) <;> first | rfl | (exfalso; omega) | (apply Prod.ext <;> first | rfl | (dsimp only; omega) | (apply Prod.ext <;> first | rfl | (dsimp only; omega)))))
  · skip
    rw [ey2]
    refine dr_virt rfl rfl rfl rfl c26 (f_X8_start1 l hl hI hM (a2 := 1) (by omega) (by omega)) (by decide) (by decide) (by decide) (Nat.le_of_ble_eq_true rfl) kNQN (kNQ (fun h83 hI84 hF85 hM86 => ?_))
    have hF87 := FrM_tr FrM_rf hF85
    refine di_if_ne rfl rfl (by omega) (by omega) (fun _ => ?_) (fun c9 => by exfalso; omega)
    refine di_const rfl ?_
    exact dr_iret (ty := .int) rfl rfl rfl (by decide) (by decide) (QMA_no (x := 0) hI84 (FrM_N hF87) hM86 (by omega) (by omega) (by omega) (by unfold spChoice; (repeat' split) <;> first | rfl | (exfalso; omega) | (apply Prod.ext <;> first | rfl | (dsimp only; omega) | (apply Prod.ext <;> first | rfl | (dsimp only; omega)))))
set_option maxHeartbeats 4000000 in
set_option maxRecDepth 100000 in
/-- EarlyendsModel.unheld -/
theorem n_X8_unheld (l : Launch) (hl : l.stackTraces = false) {kc km : Int} {h : dm_H} (hI : Inv kc km h) {th : Int} {σ : St} (hM : MSt km th σ h) {a1 : Int} (h1a : -2147483648 ≤ a1) (h1b : a1 ≤ 2147483647) {a2 : Int} (h2a : -2147483648 ≤ a2) (h2b : a2 ≤ 2147483647) (hT : sSt σ) : dm_M l 197 8 1 16 [.ref 26, dI (a1), dI (a2)] h (QMA kc km h (spUnheld σ a1 a2)) := by
  obtain ⟨⟨ni, c26, ni0, ni1⟩, ⟨⟨R1, R2⟩, ⟨R3, R4⟩, ⟨R5, R6⟩, ⟨R7, R8⟩, ⟨R9, R10⟩, ⟨R11, R12⟩, R13⟩, ⟨th0, th1⟩, -⟩ := id hM
  have R14 : σ.2.2.2.2.2.1 = -1 ∨ (0 ≤ σ.2.2.2.2.2.1 ∧ σ.2.2.2.2.2.1 ≤ 9999 ∧ σ.2.2.2.2.2.1 % 100 ≤ σ.2.2.2.2.2.1 / 100) := R13
  refine dm_M_of dk_197 hl rfl (Nat.le_of_ble_eq_true rfl) ?_
  show dm_W (fun _ _ _ => True) (dm_P (QMA kc km h (spUnheld σ a1 a2)) 1 16) l 197 8 1 16 0 [some (.ref 26), some (dI (a1)), some (dI (a2))] [] h 0 0
  refine di_aload_n rfl rfl ?_
  refine dr_iload_n rfl rfl ?_
  refine dr_stat rfl rfl rfl rfl (f_X8_isNoBook l hl hI (a0 := a1) (by omega) (by omega)) (by decide) (by decide) (by decide) (Nat.le_of_ble_eq_true rfl) kNP (kIP (fun y1 y1f y1a y1b => ?_))
  have y1g : 0 ≤ y1 ∧ y1 ≤ 1 ∧ (y1 = 0 → 0 ≤ a1 ∧ a1 ≤ 2) ∧ (y1 = 1 → a1 < 0 ∨ 2 < a1) := y1f
  clear y1f
  refine di_const rfl ?_
  rcases (by omega : y1 = 0 ∨ y1 = 1) with ey2 | ey2
  · skip
    rw [ey2]
    refine dr_virt rfl rfl rfl rfl c26 (f_X8_start0 l hl hI hM (a2 := 1) (by omega) (by omega)) (by decide) (by decide) (by decide) (Nat.le_of_ble_eq_true rfl) kNQN (kNQ (fun h3 hI4 hF5 hM6 => ?_))
    have hF7 := FrM_tr FrM_rf hF5
    refine di_if_ne rfl rfl (by omega) (by omega) (fun c9 => by exfalso; omega) (fun _ => ?_)
    refine di_aload_n rfl rfl ?_
    refine di_aload_n rfl rfl ?_
    refine dr_iload_n rfl rfl ?_
    refine dr_iload_n rfl rfl ?_
    obtain ⟨⟨ni8, ni8c, ni8a, ni8b⟩, -⟩ := id hM6
    obtain ⟨r10, q11, u12, w13, us14, er15, eq16, hu17, hw18, au19, aw20, hs21, as22, hr23, sa24, sb25⟩ := MSt_bk hM6 (k := a1) (by omega) (by omega)
    have hz26 : zF (σ.1 a1) = cv us14 a1 := zF_eq hr23
    have mr27 : isCR r10 := isCR_of er15 (by omega) (by omega)
    have mq28 : isNR q11 := isNR_of eq16 (by omega) (by omega)
    have y29p := pwI_8 (r := cv us14 a1) (by omega) (by omega)
    refine dr_virt rfl rfl rfl rfl ni8c (n_X8_isNoSet l hl hI4 hM6 (a1 := a1) (by omega) (by omega) (a2 := a2) (by omega) (by omega) er15 eq16 hu17 hw18 au19 aw20 hs21 as22 hr23 sa24 sb25) (by decide) (by decide) (by decide) (Nat.le_of_ble_eq_true rfl) kNP (kIP (fun y29 y29f y29a y29b => ?_))
    obtain ⟨y29c, y29d, y29k, y29k2⟩ := y29f
    refine di_const rfl ?_
    rcases (by omega : y29 = 0 ∨ y29 = 1) with ey30 | ey30
    · skip
      rw [ey30]
      refine dr_virt rfl rfl rfl rfl ni8c (f_X8_refuse0 l hl hI4 hM6 (a2 := 2) (by omega) (by omega)) (by decide) (by decide) (by decide) (Nat.le_of_ble_eq_true rfl) kNQN (kNQ (fun h31 hI32 hF33 hM34 => ?_))
      have hF35 := FrM_tr hF7 hF33
      refine di_if_eq rfl rfl (by omega) (by omega) (fun _ => ?_) (fun c9 => by exfalso; omega)
      refine di_aload_n rfl rfl ?_
      refine dr_iload_n rfl rfl ?_
      obtain ⟨r36, q37, u38, w39, us40, er41, eq42, hu43, hw44, au45, aw46, hs47, as48, hr49, sa50, sb51⟩ := MSt_bk hM34 (k := a1) (by omega) (by omega)
      have hz52 : zF (σ.1 a1) = cv us40 a1 := zF_eq hr49
      have mr53 : isCR r36 := isCR_of er41 (by omega) (by omega)
      have mq54 : isNR q37 := isNR_of eq42 (by omega) (by omega)
      obtain ⟨⟨ni55, ni55c, ni55a, ni55b⟩, -⟩ := id hM34
      refine dr_virt rfl rfl rfl rfl ni55c (n_X8_row l hl hI32 hM34 (a1 := a1) (by omega) (by omega) er41 eq42 hu43 hw44 au45 aw46 hs47 as48 hr49 sa50 sb51 hT) (by decide) (by decide) (by decide) (Nat.le_of_ble_eq_true rfl) kAN (kRW (fun h56 hA57 b58 n59 vs60 hp61 hb62 hc63 ha64 => ?_))
      have hp61 : rwQ (σ.1 a1) n59 vs60 := hp61
      have hI65 := App_Inv hA57 hI32
      have hM66 := MSt_Ap hM34 hI32 hA57
      have hN67 := FrN_tr (FrM_N hF35) (App_N hA57)
      have hc68 := App_at hA57 hu43
      have hc69 := App_at hA57 hw44
      have hc70 := App_at hA57 hs47
      have hc71 := App_at hA57 ni55c
      have hc72 := App_at hA57 hu43
      have hc73 := App_at hA57 hw44
      have hc74 := App_at hA57 hs47
      have n59b := hp61.1.2
      refine dr_iload_n rfl rfl ?_
      refine dr_stat rfl rfl rfl rfl (s_X8_unheldIn_f l hl hI65 (b0 := b58) (n0 := n59) (v0 := vs60) hc63 ha64 (by omega) (a1 := a2) (by omega) (by omega) (hv := hp61.2.1)) (by decide) (by decide) (by decide) (Nat.le_of_ble_eq_true rfl) kNP (kIP (fun y75 y75f y75a y75b => ?_))
      obtain ⟨y75c, y75d, y75k⟩ := y75f
      have e9 : anUnheld (σ.1 a1) a2 = y75 := (un_e (hT a1 (by omega) (by omega)) hp61.1.2 hp61.1.1 hp61.2.2).trans y75k.symm
      exact dr_iret (ty := .int) rfl rfl rfl (by decide) (by decide) (QMA_ok hI65 hN67 hM66 (by omega) (by omega) (by unfold spUnheld; (try rw [hz26]); (try rw [e9]); (repeat' split) <;> first | rfl | (exfalso; omega) | (apply Prod.ext <;> first | rfl | (dsimp only; omega) | (apply Prod.ext <;> first | rfl | (dsimp only; omega)))))
    · skip
      rw [ey30]
      refine dr_virt rfl rfl rfl rfl ni8c (f_X8_refuse1 l hl hI4 hM6 (a2 := 2) (by omega) (by omega)) (by decide) (by decide) (by decide) (Nat.le_of_ble_eq_true rfl) kNQN (kNQ (fun h76 hI77 hF78 hM79 => ?_))
      have hF80 := FrM_tr hF7 hF78
      refine di_if_eq rfl rfl (by omega) (by omega) (fun c9 => by exfalso; omega) (fun _ => ?_)
      refine di_const rfl ?_
      exact dr_iret (ty := .int) rfl rfl rfl (by decide) (by decide) (QMA_no (x := 0) hI77 (FrM_N hF80) hM79 (by omega) (by omega) (by omega) (by unfold spUnheld; (try rw [hz26]); (repeat' split) <;> first | rfl | (exfalso; omega) | (apply Prod.ext <;> first | rfl | (dsimp only; omega) | (apply Prod.ext <;> first | rfl | (dsimp only; omega)))))
  · skip
    rw [ey2]
    refine dr_virt rfl rfl rfl rfl c26 (f_X8_start1 l hl hI hM (a2 := 1) (by omega) (by omega)) (by decide) (by decide) (by decide) (Nat.le_of_ble_eq_true rfl) kNQN (kNQ (fun h81 hI82 hF83 hM84 => ?_))
    have hF85 := FrM_tr FrM_rf hF83
    refine di_if_ne rfl rfl (by omega) (by omega) (fun _ => ?_) (fun c9 => by exfalso; omega)
    refine di_const rfl ?_
    exact dr_iret (ty := .int) rfl rfl rfl (by decide) (by decide) (QMA_no (x := 0) hI82 (FrM_N hF85) hM84 (by omega) (by omega) (by omega) (by unfold spUnheld; (repeat' split) <;> first | rfl | (exfalso; omega) | (apply Prod.ext <;> first | rfl | (dsimp only; omega) | (apply Prod.ext <;> first | rfl | (dsimp only; omega)))))
/-! ===== rooms ===== -/
def bfr (f : Int → Int) (k r : Int) : Prop := f k % 100 < f r % 100 ∨ (f k % 100 = f r % 100 ∧ k < r)
def rmO (f : Int → Int) (s : Int) (v : Int → Int) (r : Int) : Prop := 0 ≤ v r ∧ (∀ k : Int, 0 ≤ k → k < s → bfr f k r → v k = v r → ¬ mt f k r) ∧ ∀ q : Int, 0 ≤ q → q < v r → ∃ k : Int, (0 ≤ k ∧ k < s) ∧ bfr f k r ∧ v k = q ∧ mt f k r
def RM (f : Int → Int) (s : Int) (v : Int → Int) : Prop := ∀ r : Int, 0 ≤ r → r < s → rmO f s v r
def HsI (f : Int → Int) (s : Int) (v : Int → Int) : Prop := ∀ r : Int, 0 ≤ r → r < s → v r = -1 ∨ (rmO f s v r ∧ ∀ k : Int, 0 ≤ k → k < s → bfr f k r → v k ≠ -1)
section RMS
variable {f f2 v w : Int → Int} {s r x n : Int} {V V2 : List Value}
theorem HsI_0 (h : ∀ j : Int, 0 ≤ j → j < s → v j = -1) : HsI f s v := fun r r0 r1 => Or.inl (h r r0 r1)
theorem HsI_s (h : HsI f s (cv V)) (r0 : 0 ≤ r) (r1 : r < s) (hv : cv V r = -1) (hb : ∀ k : Int, 0 ≤ k → k < s → (bfr f k r ↔ cv V k ≠ -1)) (hf : frV f (cv V) s r x) (hs : stt V V2 r x) : HsI f s (cv V2) := fun r' a0 a1 => by
  by_cases e : r' = r
  · subst e
    have k1 : ∀ k : Int, 0 ≤ k → k < s → bfr f k r' → cv V2 k = cv V k := fun k k0 k1 kb => stt_ne hs k0 (fun q => by rw [q] at kb; rcases kb with kb | kb <;> omega)
    have k2 := stt_at hs r0
    refine Or.inr ⟨⟨by rw [k2]; exact hf.1, fun k k0 kk kb => ?_, fun q q0 q1 => ?_⟩, fun k k0 kk kb => ?_⟩
    · rw [k1 k k0 kk kb, k2]; exact hf.2.1 k k0 kk
    · rw [k2] at q1
      obtain ⟨k, k0, kk, kq, km⟩ := hf.2.2 q q0 q1
      have kb := (hb k k0 kk).mpr (by omega)
      exact ⟨k, ⟨k0, kk⟩, kb, by rw [k1 k k0 kk kb]; exact kq, km⟩
    · rw [k1 k k0 kk kb]; exact (hb k k0 kk).mp kb
  · rcases h r' a0 a1 with q | ⟨⟨p0, p1, p2⟩, p3⟩
    · exact Or.inl ((stt_ne hs a0 e).trans q)
    · have k1 : ∀ k : Int, 0 ≤ k → k < s → bfr f k r' → cv V2 k = cv V k := fun k k0 kk kb => stt_ne hs k0 (fun q => p3 k k0 kk kb (by rw [q]; exact hv))
      have k2 := stt_ne hs a0 e
      refine Or.inr ⟨⟨by rw [k2]; exact p0, fun k k0 kk kb => ?_, fun q q0 q1 => ?_⟩, fun k k0 kk kb => ?_⟩
      · rw [k1 k k0 kk kb, k2]; exact p1 k k0 kk kb
      · rw [k2] at q1
        obtain ⟨k, ⟨k0, kk⟩, kb, kq, km⟩ := p2 q q0 q1
        exact ⟨k, ⟨k0, kk⟩, kb, by rw [k1 k k0 kk kb]; exact kq, km⟩
      · rw [k1 k k0 kk kb]; exact p3 k k0 kk kb
theorem HsI_e (h : HsI f s v) (ha : ∀ j : Int, 0 ≤ j → j < s → v j ≠ -1) : RM f s v := fun r r0 r1 => (h r r0 r1).elim (fun q => absurd q (ha r r0 r1)) (fun q => q.1)
theorem HsI_7 (h : HsI f s v) (s8 : s ≤ 8) (r0 : 0 ≤ r) (r1 : r < s) : -1 ≤ v r ∧ v r ≤ 7 := by
  rcases h r r0 r1 with q | ⟨⟨p0, p1, p2⟩, -⟩
  · omega
  · have := pig s.toNat v (v r + 1) (fun j j0 j1 => by
      by_cases e : j = v r
      · exact ⟨r, r0, by omega, e.symm⟩
      · obtain ⟨k, ⟨k0, kk⟩, -, kq, -⟩ := p2 j j0 (by omega)
        exact ⟨k, k0, by omega, kq⟩)
    omega
theorem RM_cg (h : RM f s v) (e : ∀ j : Int, 0 ≤ j → j < s → f j = f2 j) : RM f2 s v := fun r r0 r1 => by
  obtain ⟨p0, p1, p2⟩ := h r r0 r1
  have kb : ∀ k : Int, 0 ≤ k → k < s → (bfr f2 k r ↔ bfr f k r) := fun k k0 kk => by unfold bfr; rw [e k k0 kk, e r r0 r1]
  have km : ∀ k : Int, 0 ≤ k → k < s → (mt f2 k r ↔ mt f k r) := fun k k0 kk => by unfold mt; rw [e k k0 kk, e r r0 r1]
  refine ⟨p0, fun k k0 kk b q m => p1 k k0 kk ((kb k k0 kk).mp b) q ((km k k0 kk).mp m), fun q q0 q1 => ?_⟩
  obtain ⟨k, ⟨k0, kk⟩, a, b, c⟩ := p2 q q0 q1
  exact ⟨k, ⟨k0, kk⟩, (kb k k0 kk).mpr a, b, (km k k0 kk).mpr c⟩
theorem RM_uq (a : RM f s v) (b : RM f s w) (s8 : s ≤ 8) : ∀ (n : Nat) (r : Int), 0 ≤ r → r < s → 8 * (f r % 100) + r < n → v r = w r
  | 0, r, r0, r1, h => by omega
  | n + 1, r, r0, r1, h => by
    obtain ⟨a0, a1, a2⟩ := a r r0 r1
    obtain ⟨b0, b1, b2⟩ := b r r0 r1
    have ih : ∀ k : Int, 0 ≤ k → k < s → bfr f k r → v k = w k := fun k k0 kk kb => RM_uq a b s8 n k k0 kk (by rcases kb with kb | kb <;> omega)
    rcases Int.lt_trichotomy (v r) (w r) with q | q | q
    · obtain ⟨k, ⟨k0, kk⟩, kb, kq, km⟩ := b2 (v r) a0 q
      exact absurd km (a1 k k0 kk kb ((ih k k0 kk kb).trans kq))
    · exact q
    · obtain ⟨k, ⟨k0, kk⟩, kb, kq, km⟩ := a2 (w r) b0 q
      exact absurd km (b1 k k0 kk kb ((ih k k0 kk kb).symm.trans kq))
def mxR (v : Int → Int) (s m : Int) : Prop := (∀ r : Int, 0 ≤ r → r < s → v r < m) ∧ (m = 0 ∨ ∃ r : Int, (0 ≤ r ∧ r < s) ∧ 0 ≤ v r ∧ v r + 1 = m)
theorem mx_uq {m m2 : Int} (e : ∀ r : Int, 0 ≤ r → r < s → v r = w r) (a : mxR v s m) (b : mxR w s m2) : m = m2 := by
  rcases a.2 with a2 | ⟨r, ⟨r0, r1⟩, p, q⟩ <;> rcases b.2 with b2 | ⟨r', ⟨r0', r1'⟩, p', q'⟩
  · omega
  · have := a.1 r' r0' r1'; rw [e r' r0' r1'] at this; omega
  · have := b.1 r r0 r1; rw [← e r r0 r1] at this; omega
  · have h1 := a.1 r' r0' r1'; rw [e r' r0' r1'] at h1
    have h2 := b.1 r r0 r1; rw [← e r r0 r1] at h2
    omega
theorem mx_0 (h : ∀ j : Int, 0 ≤ j → j < s → v j = -1) : mxR v s 0 := ⟨fun r r0 r1 => by rw [h r r0 r1]; omega, Or.inl rfl⟩
theorem mx_s {m q : Int} (h : mxR (cv V) s m) (hv : cv V r = -1) (r0 : 0 ≤ r) (r1 : r < s) (x0 : 0 ≤ x) (hs : stt V V2 r x) (hq : m < x + 1 ∧ q = x + 1 ∨ x + 1 ≤ m ∧ q = m) : mxR (cv V2) s q := by
  refine ⟨fun j j0 j1 => ?_, ?_⟩
  · by_cases e : j = r
    · rw [e, stt_at hs r0]; omega
    · rw [stt_ne hs j0 e]; have := h.1 j j0 j1; omega
  · by_cases c : m < x + 1
    · exact Or.inr ⟨r, ⟨r0, r1⟩, by rw [stt_at hs r0]; exact x0, by rw [stt_at hs r0]; omega⟩
    · rcases h.2 with e | ⟨k, ⟨k0, k1⟩, p, e⟩
      · exact Or.inl (by omega)
      · have ne : k ≠ r := fun z => by rw [z, hv] at p; omega
        exact Or.inr ⟨k, ⟨k0, k1⟩, by rw [stt_ne hs k0 ne]; exact p, by rw [stt_ne hs k0 ne]; omega⟩
def hcP (v : Int → Int) (s : Int) (t : Int) : Prop := t = cnt v (fun x => decide (x ≠ -1)) s.toNat
theorem hc_0 (h : ∀ j : Int, 0 ≤ j → j < s → v j = -1) (s0 : 0 ≤ s) : hcP v s 0 := (cnt_no s.toNat (fun j j0 j1 => decide_eq_false (fun q => q (h j j0 (by omega))))).symm
theorem hc_n {P : Int → Bool} : ∀ n : Nat, 0 ≤ r → r < n → cv V r = -1 → P (-1) = false → P x = true → stt V V2 r x → cnt (cv V2) P n = cnt (cv V) P n + 1
  | 0, h0, h1, _, _, _, _ => by omega
  | n + 1, h0, h1, hv, p0, p1, hs => by
    show cnt (cv V2) P n + (if P (cv V2 (n : Int)) then 1 else 0) = cnt (cv V) P n + (if P (cv V (n : Int)) then 1 else 0) + 1
    by_cases e : r = n
    · have k : cnt (cv V2) P n = cnt (cv V) P n := by
        have : ∀ m : Nat, (m : Int) ≤ r → cnt (cv V2) P m = cnt (cv V) P m := fun m => by
          induction m with
          | zero => intro _; rfl
          | succ m ih =>
            intro hm
            show cnt (cv V2) P m + (if P (cv V2 (m : Int)) then 1 else 0) = cnt (cv V) P m + (if P (cv V (m : Int)) then 1 else 0)
            rw [ih (by omega), stt_ne hs (by omega) (by omega)]
        exact this n (by omega)
      rw [k, ← e, stt_at hs h0, hv, p0, p1]
      simp
    · rw [hc_n n h0 (by omega) hv p0 p1 hs, stt_ne hs (by omega) (fun q => e q.symm)]
      omega
theorem hc_s {t : Int} (h : hcP (cv V) s t) (r0 : 0 ≤ r) (r1 : r < s) (hv : cv V r = -1) (x0 : 0 ≤ x) (hs : stt V V2 r x) : hcP (cv V2) s (t + 1) := by
  unfold hcP at *
  rw [hc_n s.toNat r0 (by omega) hv (by decide) (decide_eq_true (by omega)) hs, ← h]
theorem hc_e {t : Int} (h : hcP v s t) (s0 : 0 ≤ s) (e : s ≤ t) : ∀ j : Int, 0 ≤ j → j < s → v j ≠ -1 := fun j j0 j1 => by
  have hb := (cnt_b v (fun x => decide (x ≠ -1)) s.toNat).2
  have := (cnt_al (f := v) (P := fun x => decide (x ≠ -1)) (n := s.toNat)).mp (by unfold hcP at h; omega) j j0 (by omega)
  exact of_decide_eq_true this
theorem hc_a {t : Int} (h : hcP v s t) (s0 : 0 ≤ s) (ha : ∀ j : Int, 0 ≤ j → j < s → v j ≠ -1) : t = s := by
  have := (cnt_al (f := v) (P := fun x => decide (x ≠ -1)) (n := s.toNat)).mpr (fun j j0 j1 => decide_eq_true (ha j j0 (by omega)))
  unfold hcP at h
  omega
/-- the first of the least from among those without a room -/
def eaI (f v : Int → Int) (b i : Int) : Prop := (b = -1 ∧ ∀ j : Int, 0 ≤ j → j < i → v j ≠ -1) ∨ ((0 ≤ b ∧ b < i) ∧ v b = -1 ∧ ∀ j : Int, 0 ≤ j → j < i → v j = -1 → j ≠ b → bfr f b j)
theorem ea_0 : eaI f v (-1) 0 := Or.inl ⟨rfl, fun j j0 j1 => by omega⟩
theorem ea_n {b i : Int} (h : eaI f v b i) (i0 : 0 ≤ i) (q : v i = -1 → b ≠ -1 ∧ bfr f b i) : eaI f v b (i + 1) := by
  rcases h with ⟨h0, h1⟩ | ⟨h0, h1, h2⟩
  · refine Or.inl ⟨h0, fun j j0 j1 => ?_⟩
    by_cases e : j = i
    · rw [e]; exact fun z => (q z).1 h0
    · exact h1 j j0 (by omega)
  · refine Or.inr ⟨⟨h0.1, by omega⟩, h1, fun j j0 j1 hj ne => ?_⟩
    by_cases e : j = i
    · rw [e] at hj ⊢; exact (q hj).2
    · exact h2 j j0 (by omega) hj ne
theorem ea_y {b i : Int} (h : eaI f v b i) (i0 : 0 ≤ i) (hv : v i = -1) (q : b ≠ -1 → f i % 100 < f b % 100) : eaI f v i (i + 1) := by
  refine Or.inr ⟨⟨i0, by omega⟩, hv, fun j j0 j1 hj ne => ?_⟩
  rcases h with ⟨h0, h1⟩ | ⟨h0, h1, h2⟩
  · exact absurd hj (h1 j j0 (by omega))
  · have k := q (by omega)
    by_cases e : j = b
    · rw [e]; exact Or.inl k
    · rcases h2 j j0 (by omega) hj e with z | z
      · exact Or.inl (by omega)
      · exact Or.inl (by omega)
def eaP (f v : Int → Int) (s x : Int) : Prop := (x = -1 ∧ ∀ j : Int, 0 ≤ j → j < s → v j ≠ -1) ∨ ((0 ≤ x ∧ x < s) ∧ v x = -1 ∧ ∀ j : Int, 0 ≤ j → j < s → v j = -1 → j ≠ x → bfr f x j)
theorem ea_b (h : eaP f v s x) (hx : x ≠ -1) (hI : HsI f s v) : (0 ≤ x ∧ x < s) ∧ v x = -1 ∧ ∀ k : Int, 0 ≤ k → k < s → (bfr f k x ↔ v k ≠ -1) := by
  rcases h with ⟨h0, -⟩ | ⟨h0, h1, h2⟩
  · exact absurd h0 hx
  · refine ⟨h0, h1, fun k k0 kk => ⟨fun kb kv => ?_, fun kv => ?_⟩⟩
    · have ne : k ≠ x := fun e => by rw [e] at kb; rcases kb with kb | kb <;> omega
      rcases h2 k k0 kk kv ne with z | z <;> rcases kb with kb | kb <;> omega
    · refine Classical.byContradiction fun kb => ?_
      have ne : k ≠ x := fun e => kv (by rw [e]; exact h1)
      have xb : bfr f x k := by
        unfold bfr at *
        rcases Int.lt_trichotomy (f k % 100) (f x % 100) with c | c | c
        · exact absurd (Or.inl c) kb
        · rcases Int.lt_or_gt_of_ne ne with d | d
          · exact absurd (Or.inr ⟨c, d⟩) kb
          · exact Or.inr ⟨c.symm, d⟩
        · exact Or.inl c
      rcases hI k k0 kk with z | ⟨-, z⟩
      · exact kv z
      · exact z x h0.1 h0.2 xb h1
/-- the rooms in use about a rank -/
def usP (f v : Int → Int) (r S k : Int) : Prop := sB S (fun q => ∃ j : Int, (0 ≤ j ∧ j < k) ∧ v j = q ∧ mt f j r)
theorem us_0 : usP f v r 0 0 := sB_cg sB_0 (fun q _ _ => ⟨fun h => h.elim, fun ⟨j, hj, _⟩ => by omega⟩)
theorem us_n {S k : Int} (h : usP f v r S k) (z : v k = -1 ∨ ¬ mt f k r) : usP f v r S (k + 1) := sB_cg h (fun q q0 _ => ⟨fun ⟨j, hj, e⟩ => ⟨j, ⟨hj.1, by omega⟩, e⟩, fun ⟨j, hj, e, m⟩ => by
  by_cases c : j = k
  · subst c; rcases z with z | z
    · omega
    · exact absurd m z
  · exact ⟨j, ⟨hj.1, by omega⟩, e, m⟩⟩)
theorem us_y {S k w y x : Int} (h : usP f v r S k) (k0 : 0 ≤ k) (hv : v k = y) (y0 : 0 ≤ y) (y7 : y ≤ 7) (m : mt f k r) (ew : w = pwI y) (ex : x = orI S w) : usP f v r x (k + 1) := by
  subst ew; subst ex
  refine sB_cg (sB_or h (sB_pw y0 y7)) (fun q q0 _ => ⟨fun z => ?_, fun ⟨j, hj, e, mj⟩ => ?_⟩)
  · rcases z with ⟨j, hj, e⟩ | z
    · exact ⟨j, ⟨hj.1, by omega⟩, e⟩
    · exact ⟨k, ⟨k0, by omega⟩, by rw [hv, z], m⟩
  · by_cases c : j = k
    · exact Or.inr (by rw [← e, c, hv])
    · exact Or.inl ⟨j, ⟨hj.1, by omega⟩, e, mj⟩
theorem us_e {S x k : Int} (h : usP f v r S k) (e : k = s) (s8 : s ≤ 8) (r0 : 0 ≤ r) (r1 : r < s) (hr : v r = -1) (x0 : 0 ≤ x) (x8 : x ≤ 8) (hb : ∀ q : Int, 0 ≤ q → q < x → hbt S q) (hx : x ≤ 7 → ¬ hbt S x) : x ≤ 7 ∧ frV f v s r x := by
  subst e
  have k1 : ∀ q : Int, 0 ≤ q → q < x → hasR f v k r q := fun q q0 q1 => by
    obtain ⟨j, hj, ej, mj⟩ := (h.2 q q0 (by omega)).mp (hb q q0 q1)
    exact ⟨j, hj.1, hj.2, ej, mj⟩
  have x7 : x ≤ 7 := Classical.byContradiction fun hn => by
    have := pig k.toNat (fun j => if j = r then 8 else v j) 9 (fun j j0 j1 => by
      by_cases c : j = 8
      · exact ⟨r, r0, by omega, by show (if r = r then (8 : Int) else v r) = j; rw [if_pos rfl, c]⟩
      · obtain ⟨i, i0, i1, ei, -⟩ := k1 j j0 (by omega)
        exact ⟨i, i0, by omega, by show (if i = r then (8 : Int) else v i) = j; rw [if_neg (fun q => by rw [q, hr] at ei; omega)]; exact ei⟩)
    omega
  exact ⟨x7, x0, fun j j0 j1 ej mj => hx x7 ((h.2 x x0 x7).mpr ⟨j, ⟨j0, j1⟩, ej, mj⟩), k1⟩
end RMS
def rmX (F v : Int → Int) : Prop := RM (cR F) (zF F) v
noncomputable def anRooms (F : Int → Int) : Int := Classical.epsilon (fun m : Int => ∃ v : Int → Int, rmX F v ∧ mxR v (zF F) m)
noncomputable def anRoomOf (F : Int → Int) (c : Int) : Int := Classical.epsilon (fun x : Int => (F c = -1 ∧ x = -1) ∨ ∃ (v : Int → Int) (r : Int), rmX F v ∧ (0 ≤ r ∧ r < zF F) ∧ cR F r = c ∧ x = v r)
section RME
variable {F f g v : Int → Int} {s m r c : Int}
theorem rmX_uq {w : Int → Int} (hr : Rep f g s F) (s8 : s ≤ 8) (a : rmX F v) (b : rmX F w) (r0 : 0 ≤ r) (r1 : r < zF F) : v r = w r := RM_uq a b (by rw [zF_eq hr]; exact s8) (8 * (cR F r % 100) + r + 1).toNat r r0 r1 (by omega)
theorem rooms_e (hr : Rep f g s F) (s8 : s ≤ 8) (h : rmX F v) (hm : mxR v (zF F) m) : anRooms F = m := by
  obtain ⟨w, a, b⟩ := Classical.epsilon_spec (p := fun m : Int => ∃ v : Int → Int, rmX F v ∧ mxR v (zF F) m) ⟨m, v, h, hm⟩
  exact mx_uq (fun r r0 r1 => rmX_uq hr s8 a h r0 r1) b hm
theorem cR_F (hr : Rep f g s F) (ht : Srt f s) (r0 : 0 ≤ r) (r1 : r < zF F) : F (cR F r) ≠ -1 := by
  rw [zF_eq hr] at r1
  rw [cR_eq hr ht r0 r1]
  exact (Rep_yes hr r0 r1 rfl).2.1
theorem roomOf_n (hr : Rep f g s F) (ht : Srt f s) (h : F c = -1) : anRoomOf F c = -1 := by
  rcases Classical.epsilon_spec (p := fun x : Int => (F c = -1 ∧ x = -1) ∨ ∃ (v : Int → Int) (r : Int), rmX F v ∧ (0 ≤ r ∧ r < zF F) ∧ cR F r = c ∧ x = v r) ⟨-1, Or.inl ⟨h, rfl⟩⟩ with q | ⟨w, r, -, ⟨r0, r1⟩, e, -⟩
  · exact q.2
  · exact absurd h (by rw [← e]; exact cR_F hr ht r0 r1)
theorem roomOf_y (hr : Rep f g s F) (ht : Srt f s) (s8 : s ≤ 8) (h : rmX F v) (r0 : 0 ≤ r) (r1 : r < zF F) (e : cR F r = c) : anRoomOf F c = v r := by
  rcases Classical.epsilon_spec (p := fun x : Int => (F c = -1 ∧ x = -1) ∨ ∃ (v : Int → Int) (r : Int), rmX F v ∧ (0 ≤ r ∧ r < zF F) ∧ cR F r = c ∧ x = v r) ⟨v r, Or.inr ⟨v, r, h, ⟨r0, r1⟩, e, rfl⟩⟩ with q | ⟨w, k, hw, ⟨k0, k1⟩, e2, e3⟩
  · exact absurd q.1 (by rw [← e]; exact cR_F hr ht r0 r1)
  · have ek : k = r := by
      rw [zF_eq hr] at r1 k1
      rw [cR_eq hr ht r0 r1] at e
      rw [cR_eq hr ht k0 k1] at e2
      exact Rep_inj hr k0 k1 r0 r1 (e2.trans e.symm)
    subst ek
    exact e3.trans (rmX_uq hr s8 hw h k0 k1)
theorem rmX_of (hr : Rep f g s F) (ht : Srt f s) (h : RM f s v) : rmX F v := by
  unfold rmX
  rw [zF_eq hr]
  exact RM_cg h (fun j j0 j1 => (cR_eq hr ht j0 j1).symm)
end RME
noncomputable def spRooms (σ : St) (b : Int) : Int × Int × St := if b < 0 ∨ 2 < b then (1, 0, σ) else (0, anRooms (σ.1 b), σ)
noncomputable def spRoomOf (σ : St) (b f t : Int) : Int × Int × St := if b < 0 ∨ 2 < b then (1, 0, σ) else if f < 0 ∨ t < f ∨ 99 < t then (2, 0, σ) else (0, anRoomOf (σ.1 b) (100 * t + f), σ)
def HsA (b : Nat) (s n : Int) (v : List Value) (h : dm_H) : Prop := h[b]? = some (5, [.ref (b + 1), dI s, dI n]) ∧ h[b + 1]? = some (20, v) ∧ arr 8 anyI v ∧ (0 ≤ s ∧ s ≤ 8) ∧ -2147483648 ≤ n ∧ n < 2147483648
theorem I_hsA {kc km : Int} {h : dm_H} (hI : Inv kc km h) {b : Nat} (hb : isHs b) : ∃ (s n : Int) (v : List Value), HsA b s n v h := by
  obtain ⟨s, n, s0, s1, n0, n1, hc⟩ := I_hs hI hb
  obtain ⟨v, hv, ha⟩ := I_hsa hI hb
  exact ⟨s, n, v, hc, hv, ha, ⟨s0, s1⟩, n0, n1⟩
theorem hs_15 {b : Nat} (hb : isHs b) : 6 ≤ b ∧ b ≤ 15 := by rcases hb with rfl | rfl <;> decide
theorem CA_Kh {a b : Nat} {s m : Int} {u w : List Value} {h h' : dm_H} (f : FrK a h h') (ha : isHs a) (hb : isBk b) (hc : CA b s m u w h) : CA b s m u w h' := by
  have h1 := hs_15 ha
  have h2 := bk_17 hb
  unfold CA at *
  rw [f.2 b (by omega) (by omega), f.2 (b + 1) (by omega) (by omega), f.2 (b + 2) (by omega) (by omega)]
  exact hc
theorem FrC_Kh {a : Nat} {h h' : dm_H} (f : FrK a h h') (ha : isHs a) : FrC h h' := ⟨f.1, fun j x => by have := hs_15 ha; exact f.2 j (by omega) (by omega)⟩
theorem CSt_Kh {a : Nat} {B : Int} {σ : St} {h h' : dm_H} (hS : CSt B σ h) (f : FrK a h h') (ha : isHs a) : CSt B σ h' := CSt_same hS (fun j j0 j1 j2 => by have := hs_15 ha; exact f.2 j (by omega) (by omega))
def QHs (kc km : Int) (h : dm_H) (b : Nat) (Φ : Int → Int → List Value → Option Value → Prop) : dm_Rs := fun r h' => Inv kc km h' ∧ FrK b h h' ∧ match r with
  | .inl v => ∃ (s n : Int) (w : List Value), HsA b s n w h' ∧ Φ s n w v
  | .inr _ => False
section KHS
variable {E : dm_Ex} {P : dm_Po} {l : Launch} {z d MC MS pc ce sl : Nat} {ls : List (Option Value)} {st : List Value} {h : dm_H} {kc km : Int} {b : Nat}
theorem kHsN {Φ : Int → Int → List Value → Option Value → Prop} : ∀ (Y : String) (h1 : dm_H), QHs kc km h b Φ (.inr Y) h1 → dm_T9 E P l z d MC MS Y pc ls h1 ce sl := fun _ _ q => q.2.2.elim
theorem kHsV {Φ : Int → Int → List Value → Prop} (kk : ∀ (h1 : dm_H), Inv kc km h1 → FrK b h h1 → ∀ (s n : Int) (w : List Value), HsA b s n w h1 → Φ s n w → dm_W E P l z d MC MS pc ls st h1 ce sl) : ∀ (v : Option Value) (h1 : dm_H), QHs kc km h b (fun s n w v => Φ s n w ∧ v = none) (.inl v) h1 → dm_W E P l z d MC MS pc ls (v.toList ++ st) h1 ce sl := by
  rintro v h1 ⟨a, c, s, n, w, q1, q2, rfl⟩
  exact kk h1 a c s n w q1 q2
end KHS
set_option maxHeartbeats 4000000 in
set_option maxRecDepth 100000 in
theorem f_X3_earliestUnhoused (l : Launch) (hl : l.stackTraces = false) {kc km : Int} {h : dm_H} (hI : Inv kc km h) {b : Nat} (hb : isHs b) {b1 : Nat} (hb1 : isBk b1) {s m n : Int} {u w v : List Value} (hC : CA b1 s m u w h) (hH : HsA b s n v h) : dm_M l 39 1 0 0 [.ref b, .ref b1] h (QP h (RI (fun x => (-1 ≤ x ∧ x ≤ 7) ∧ eaP (cv u) (cv v) s x)) []) := by
  obtain ⟨c1, c2, c3, ⟨s0, s8⟩, c4, c5⟩ := id hH
  refine dm_M_of dk_39 hl rfl (Nat.le_of_ble_eq_true rfl) ?_
  show dm_W (fun _ _ _ => True) (dm_P (QP h (RI (fun x => (-1 ≤ x ∧ x ≤ 7) ∧ eaP (cv u) (cv v) s x)) []) 0 0) l 39 1 0 0 0 [some (.ref b), some (.ref b1), none, none, none] [] h 0 0
  refine di_const rfl ?_
  refine di_istore_n (ls2 := [some (.ref b), some (.ref b1), some (dI (-1)), none, none]) rfl rfl rfl ?_
  refine di_const rfl ?_
  refine di_istore_n (ls2 := [some (.ref b), some (.ref b1), some (dI (-1)), some (dI 0), none]) rfl rfl rfl ?_
  have L : ∀ (k : Nat) (e i : Int), (8 - i).toNat < k → -1 ≤ e → e ≤ 7 → e < i → 0 ≤ i → i ≤ s → eaI (cv u) (cv v) e i → dm_W (fun _ _ _ => True) (dm_P (QP h (RI (fun x => (-1 ≤ x ∧ x ≤ 7) ∧ eaP (cv u) (cv v) s x)) []) 0 0) l 39 1 0 0 4 [some (.ref b), some (.ref b1), some (dI e), some (dI i), none] [] h 0 0 := by
    intro k
    induction k with
    | zero => intro e i hm; exact absurd hm (Nat.not_lt_zero _)
    | succ k ih =>
      intro e i hm e0 e1 ei i0 i1 PE
      refine dr_iload_n rfl rfl ?_
      refine di_aload_n rfl rfl ?_
      refine dr_getf rfl c1 rfl ?_
      refine di_icmp_ge rfl rfl (by omega) (by omega) (by omega) (by omega) (fun c => ?_) (fun c => ?_)
      · refine dr_iload_n rfl rfl ?_
        have ee : i = s := by omega
        subst ee
        exact dr_iret (ty := .int) rfl rfl rfl (by decide) (by decide) ⟨rfl, e, ⟨⟨by omega, by omega⟩, PE⟩, by omega, by omega, rfl⟩
      have tail : ∀ t : Int, 0 ≤ t → t ≤ 1 → (t = 1 → e = -1 ∨ cv u i % 100 < cv u e % 100) → (t = 0 → e ≠ -1 ∧ ¬ cv u i % 100 < cv u e % 100) → dm_W (fun _ _ _ => True) (dm_P (QP h (RI (fun x => (-1 ≤ x ∧ x ≤ 7) ∧ eaP (cv u) (cv v) s x)) []) 0 0) l 39 1 0 0 35 [some (.ref b), some (.ref b1), some (dI e), some (dI i), none] [dI t] h 0 0 := by
        intro t t0 t1 ht1 ht0
        refine di_istore (ls2 := [some (.ref b), some (.ref b1), some (dI e), some (dI i), some (dI t)]) rfl rfl rfl ?_
        refine di_aload_n rfl rfl ?_
        refine dr_getf rfl c1 rfl ?_
        refine dr_iload_n rfl rfl ?_
        refine di_iald rfl c2 c3 (by omega) (by omega) (fun x xf xa xb xv => ?_)
        have xw : cv v i = x := cv_eq xv xa xb
        refine di_const rfl ?_
        refine di_icmp_ne rfl rfl (by omega) (by omega) (by omega) (by omega) (fun c2 => ?_) (fun c2 => ?_)
        · refine di_iinc (ls2 := [some (.ref b), some (.ref b1), some (dI e), some (dI (i + 1)), some (dI t)]) rfl rfl rfl rfl ?_
          refine dr_goto rfl rfl ?_
          refine dm_wk (ls2 := [some (.ref b), some (.ref b1), some (dI e), some (dI (i + 1)), none]) ⟨Or.inr rfl, Or.inr rfl, Or.inr rfl, Or.inr rfl, Or.inl rfl, trivial⟩ ?_
          exact ih e (i + 1) (by omega) e0 e1 (by omega) (by omega) (by omega) (ea_n PE i0 (fun q => absurd (xw.symm.trans q) c2))
        refine dr_iload rfl rfl ?_
        refine di_if_eq rfl rfl (by omega) (by omega) (fun c3 => ?_) (fun c3 => ?_)
        · refine di_iinc (ls2 := [some (.ref b), some (.ref b1), some (dI e), some (dI (i + 1)), some (dI t)]) rfl rfl rfl rfl ?_
          refine dr_goto rfl rfl ?_
          refine dm_wk (ls2 := [some (.ref b), some (.ref b1), some (dI e), some (dI (i + 1)), none]) ⟨Or.inr rfl, Or.inr rfl, Or.inr rfl, Or.inr rfl, Or.inl rfl, trivial⟩ ?_
          exact ih e (i + 1) (by omega) e0 e1 (by omega) (by omega) (by omega) (ea_n PE i0 (fun _ => ⟨(ht0 c3).1, by have := (ht0 c3).2; unfold bfr; omega⟩))
        · refine dr_iload_n rfl rfl ?_
          refine di_istore_n (ls2 := [some (.ref b), some (.ref b1), some (dI i), some (dI i), some (dI t)]) rfl rfl rfl ?_
          refine di_iinc (ls2 := [some (.ref b), some (.ref b1), some (dI i), some (dI (i + 1)), some (dI t)]) rfl rfl rfl rfl ?_
          refine dr_goto rfl rfl ?_
          refine dm_wk (ls2 := [some (.ref b), some (.ref b1), some (dI i), some (dI (i + 1)), none]) ⟨Or.inr rfl, Or.inr rfl, Or.inr rfl, Or.inr rfl, Or.inl rfl, trivial⟩ ?_
          exact ih i (i + 1) (by omega) (by omega) (by omega) (by omega) (by omega) (by omega) (ea_y PE i0 (by omega) (fun q => (ht1 (by omega)).resolve_left q))
      refine dr_iload_n rfl rfl ?_
      refine di_const rfl ?_
      refine di_icmp_eq rfl rfl (by omega) (by omega) (by omega) (by omega) (fun c2 => ?_) (fun c2 => ?_)
      · refine di_const rfl ?_
        refine dr_goto rfl rfl ?_
        exact tail 1 (by decide) (by decide) (fun _ => Or.inl c2) (fun q => absurd q (by decide))
      refine di_aload_n rfl rfl ?_
      refine dr_iload_n rfl rfl ?_
      refine dr_virt rfl rfl rfl rfl hC.1 (f_X0_fromAt l hl hI hb1 hC (a1 := i) (by omega) (by omega)) (by decide) (by decide) (by decide) (Nat.le_of_ble_eq_true rfl) kNP (kIP (fun x xf xa xb => ?_))
      obtain ⟨xc, xd, xk, xk2, xk3⟩ := xf
      have xe := xk i0 (by omega)
      refine di_aload_n rfl rfl ?_
      refine dr_iload_n rfl rfl ?_
      refine dr_virt rfl rfl rfl rfl hC.1 (f_X0_fromAt l hl hI hb1 hC (a1 := e) (by omega) (by omega)) (by decide) (by decide) (by decide) (Nat.le_of_ble_eq_true rfl) kNP (kIP (fun y yf ya yb => ?_))
      obtain ⟨yc, yd, yk, yk2, yk3⟩ := yf
      have ye := yk (by omega) (by omega)
      refine di_icmp_ge rfl rfl (by omega) (by omega) (by omega) (by omega) (fun c3 => ?_) (fun c3 => ?_)
      · refine di_const rfl ?_
        exact tail 0 (by decide) (by decide) (fun q => absurd q (by decide)) (fun _ => ⟨by omega, by omega⟩)
      · refine di_const rfl ?_
        refine dr_goto rfl rfl ?_
        exact tail 1 (by decide) (by decide) (fun _ => Or.inr (by omega)) (fun q => absurd q (by decide))
  exact L _ (-1) 0 (Nat.lt_succ_self _) (by omega) (by omega) (by omega) (by omega) (by omega) ea_0
set_option maxHeartbeats 4000000 in
set_option maxRecDepth 100000 in
theorem f_X3_firstFree (l : Launch) (hl : l.stackTraces = false) {kc km : Int} {h : dm_H} (hI : Inv kc km h) {b : Nat} (hb : isHs b) {b1 : Nat} (hb1 : isBk b1) {s m n : Int} {u w v : List Value} (hC : CA b1 s m u w h) (hH : HsA b s n v h) (h7 : ∀ j : Int, 0 ≤ j → j < s → -1 ≤ cv v j ∧ cv v j ≤ 7) {a2 : Int} (h2a : 0 ≤ a2) (h2b : a2 < s) (hv : cv v a2 = -1) : dm_M l 40 2 0 0 [.ref b, .ref b1, dI a2] h (QP h (RI (fun x => (0 ≤ x ∧ x ≤ 7) ∧ frV (cv u) (cv v) s a2 x)) []) := by
  obtain ⟨c1, c2, c3, ⟨s0, s8⟩, c4, c5⟩ := id hH
  refine dm_M_of dk_40 hl rfl (Nat.le_of_ble_eq_true rfl) ?_
  show dm_W (fun _ _ _ => True) (dm_P (QP h (RI (fun x => (0 ≤ x ∧ x ≤ 7) ∧ frV (cv u) (cv v) s a2 x)) []) 0 0) l 40 2 0 0 0 [some (.ref b), some (.ref b1), some (dI a2), none, none] [] h 0 0
  refine di_const rfl ?_
  refine di_istore_n (ls2 := [some (.ref b), some (.ref b1), some (dI a2), some (dI 0), none]) rfl rfl rfl ?_
  refine di_const rfl ?_
  refine di_istore (ls2 := [some (.ref b), some (.ref b1), some (dI a2), some (dI 0), some (dI 0)]) rfl rfl rfl ?_
  have L2 : ∀ (k : Nat) (S x : Int), (8 - x).toNat < k → 0 ≤ S → S ≤ 255 → 0 ≤ x → x ≤ 8 → usP (cv u) (cv v) a2 S s → (∀ q : Int, 0 ≤ q → q < x → hbt S q) → dm_W (fun _ _ _ => True) (dm_P (QP h (RI (fun x => (0 ≤ x ∧ x ≤ 7) ∧ frV (cv u) (cv v) s a2 x)) []) 0 0) l 40 2 0 0 56 [some (.ref b), some (.ref b1), some (dI a2), some (dI S), some (dI x)] [] h 0 0 := by
    intro k
    induction k with
    | zero => intro S x hm; exact absurd hm (Nat.not_lt_zero _)
    | succ k ih =>
      intro S x hm S0 S1 x0 x1 PU PB
      refine dr_iload rfl rfl ?_
      refine di_bipush rfl (by decide) ?_
      refine di_icmp_ge rfl rfl (by omega) (by omega) (by omega) (by omega) (fun c => ?_) (fun c => ?_)
      · exact absurd (us_e PU rfl s8 h2a h2b hv x0 x1 PB (fun q => absurd q (by omega))).1 (by omega)
      refine dr_iload_n rfl rfl ?_
      refine dr_iload rfl rfl ?_
      refine dr_statN rfl rfl rfl rfl (f_X6_isInSet l hl hI (a0 := S) (by omega) (by omega) (a1 := x) (by omega) (by omega)) kNP0 (by decide) (by decide) (by decide) (Nat.le_of_ble_eq_true rfl) (kIP (fun y yf ya yb => ?_))
      obtain ⟨yc, yd, yk, yk2⟩ := yf
      refine di_if_eq rfl rfl (by omega) (by omega) (fun e2 => ?_) (fun e2 => ?_)
      · have hq := us_e PU rfl s8 h2a h2b hv x0 x1 PB (fun _ => yk2 e2)
        refine dr_iload rfl rfl ?_
        exact dr_iret (ty := .int) rfl rfl rfl (by decide) (by decide) ⟨rfl, x, ⟨⟨by omega, by omega⟩, hq.2⟩, by omega, by omega, rfl⟩
      · refine di_iinc (ls2 := [some (.ref b), some (.ref b1), some (dI a2), some (dI S), some (dI (x + 1))]) rfl rfl rfl rfl ?_
        refine dr_goto rfl rfl ?_
        exact ih S (x + 1) (by omega) S0 S1 (by omega) (by omega) PU (fun q q0 q1 => by
          by_cases e : q = x
          · rw [e]; exact yk (by omega)
          · exact PB q q0 (by omega))
  have L : ∀ (k : Nat) (S i : Int), (8 - i).toNat < k → 0 ≤ S → S ≤ 255 → 0 ≤ i → i ≤ s → usP (cv u) (cv v) a2 S i → dm_W (fun _ _ _ => True) (dm_P (QP h (RI (fun x => (0 ≤ x ∧ x ≤ 7) ∧ frV (cv u) (cv v) s a2 x)) []) 0 0) l 40 2 0 0 5 [some (.ref b), some (.ref b1), some (dI a2), some (dI S), some (dI i)] [] h 0 0 := by
    intro k
    induction k with
    | zero => intro S i hm; exact absurd hm (Nat.not_lt_zero _)
    | succ k ih =>
      intro S i hm S0 S1 i0 i1 PU
      refine dr_iload rfl rfl ?_
      refine di_aload_n rfl rfl ?_
      refine dr_getf rfl c1 rfl ?_
      refine di_icmp_ge rfl rfl (by omega) (by omega) (by omega) (by omega) (fun c => ?_) (fun c => ?_)
      · have ee : i = s := by omega
        subst ee
        refine di_const rfl ?_
        refine di_istore (ls2 := [some (.ref b), some (.ref b1), some (dI a2), some (dI S), some (dI 0)]) rfl rfl rfl ?_
        exact L2 _ S 0 (Nat.lt_succ_self _) S0 S1 (by omega) (by omega) PU (fun q q0 q1 => by omega)
      refine di_aload_n rfl rfl ?_
      refine dr_getf rfl c1 rfl ?_
      refine dr_iload rfl rfl ?_
      refine di_iald rfl c2 c3 (by omega) (by omega) (fun y yf ya yb yv => ?_)
      have yw : cv v i = y := cv_eq yv ya yb
      have y7 := h7 i i0 (by omega)
      rw [yw] at y7
      refine di_const rfl ?_
      refine di_icmp_eq rfl rfl (by omega) (by omega) (by omega) (by omega) (fun e2 => ?_) (fun e2 => ?_)
      · refine di_iinc (ls2 := [some (.ref b), some (.ref b1), some (dI a2), some (dI S), some (dI (i + 1))]) rfl rfl rfl rfl ?_
        refine dr_goto rfl rfl ?_
        exact ih S (i + 1) (by omega) S0 S1 (by omega) (by omega) (us_n PU (Or.inl (yw.trans e2)))
      refine di_aload_n rfl rfl ?_
      refine dr_iload rfl rfl ?_
      refine dr_iload_n rfl rfl ?_
      refine dr_virt rfl rfl rfl rfl hC.1 (f_X0_doMeet l hl hI hb1 hC (a1 := i) (by omega) (by omega) (a2 := a2) (by omega) (by omega) (by omega) (by omega) (by omega) (by omega)) (by decide) (by decide) (by decide) (Nat.le_of_ble_eq_true rfl) kNP (kIP (fun t tf ta tb => ?_))
      obtain ⟨tc, td, tk, tk2⟩ := tf
      refine di_if_eq rfl rfl (by omega) (by omega) (fun e3 => ?_) (fun e3 => ?_)
      · refine di_iinc (ls2 := [some (.ref b), some (.ref b1), some (dI a2), some (dI S), some (dI (i + 1))]) rfl rfl rfl rfl ?_
        refine dr_goto rfl rfl ?_
        exact ih S (i + 1) (by omega) S0 S1 (by omega) (by omega) (us_n PU (Or.inr (by have := tk2 e3; unfold mt; omega)))
      refine dr_iload_n rfl rfl ?_
      refine di_const rfl ?_
      refine di_aload_n rfl rfl ?_
      refine dr_getf rfl c1 rfl ?_
      refine dr_iload rfl rfl ?_
      refine di_iald rfl c2 c3 (by omega) (by omega) (fun y2 y2f y2a y2b y2v => ?_)
      have y2w : cv v i = y2 := cv_eq y2v y2a y2b
      refine di_shl7 rfl (by omega) (by omega) (fun w9 w9a w9b w9e => ?_)
      refine di_or rfl (by omega) (by omega) (by omega) (by omega) (fun x9 x9a x9b x9e => ?_)
      refine di_istore_n (ls2 := [some (.ref b), some (.ref b1), some (dI a2), some (dI x9), some (dI i)]) rfl rfl rfl ?_
      refine di_iinc (ls2 := [some (.ref b), some (.ref b1), some (dI a2), some (dI x9), some (dI (i + 1))]) rfl rfl rfl rfl ?_
      refine dr_goto rfl rfl ?_
      exact ih x9 (i + 1) (by omega) x9a x9b (by omega) (by omega) (us_y PU i0 y2w (by omega) (by omega) (by have := tk (by omega); unfold mt; omega) w9e x9e)
  exact L _ 0 0 (Nat.lt_succ_self _) (by omega) (by omega) (by omega) (by omega) us_0
set_option maxHeartbeats 4000000 in
set_option maxRecDepth 100000 in
theorem f_X3_fill (l : Launch) (hl : l.stackTraces = false) {kc km : Int} {h : dm_H} (hI : Inv kc km h) {b : Nat} (hb : isHs b) {b1 : Nat} (hb1 : isBk b1) {s m : Int} {u w : List Value} (hC : CA b1 s m u w h) : dm_M l 38 3 0 0 [.ref b, .ref b1] h (QHs kc km h b (fun s2 n v r => (s2 = s ∧ RM (cv u) s (cv v) ∧ mxR (cv v) s n ∧ ∀ j : Int, 0 ≤ j → j < s → -1 ≤ cv v j ∧ cv v j ≤ 7) ∧ r = none)) := by
  refine dm_M_of dk_38 hl rfl (Nat.le_of_ble_eq_true rfl) ?_
  show dm_W (fun _ _ _ => True) (dm_P (QHs kc km h b (fun s2 n v r => (s2 = s ∧ RM (cv u) s (cv v) ∧ mxR (cv v) s n ∧ ∀ j : Int, 0 ≤ j → j < s → -1 ≤ cv v j ∧ cv v j ≤ 7) ∧ r = none)) 0 0) l 38 3 0 0 0 [some (.ref b), some (.ref b1), none, none] [] h 0 0
  obtain ⟨sz, n0, v0, c1, c2, c3, -, c4, c5⟩ := I_hsA hI hb
  have s0 := hC.2.2.2.2.2.1
  have s8 := hC.2.2.2.2.2.2.1
  have hb15 := hs_15 hb
  refine di_aload_n rfl rfl ?_
  refine di_aload_n rfl rfl ?_
  refine dr_virt rfl rfl rfl rfl hC.1 (f_X0_count l hl hI hb1 hC) (by decide) (by decide) (by decide) (Nat.le_of_ble_eq_true rfl) kNP (kIP (fun y yf ya yb => ?_))
  obtain ⟨yc, yd, ye⟩ := yf
  have ye2 := ye.symm
  subst ye2
  refine pfX rfl c1 (Nat.le_of_ble_eq_true rfl) rfl hI (lt_hs hb) (T37_hs hb (by omega) (by omega)) (fun h1 hI1 hk1 hc1 => ?_)
  refine di_aload_n rfl rfl ?_
  refine di_const rfl ?_
  refine pfX rfl hc1 (Nat.le_of_ble_eq_true rfl) rfl hI1 (lt_hs hb) (T37_hs hb (by omega) (by omega)) (fun h2 hI2 hk2 hc2 => ?_)
  have hK2 : FrK b h h2 := FrK_tr (FrK_of hk1 (Or.inl rfl)) (FrK_of hk2 (Or.inl rfl))
  have hv2 : h2[b + 1]? = some (20, v0) := (hk2.2 (b + 1) (by omega)).trans ((hk1.2 (b + 1) (by omega)).trans c2)
  refine di_const rfl ?_
  refine di_istore_n (ls2 := [some (.ref b), some (.ref b1), some (dI 0), none]) rfl rfl rfl ?_
  have L2 : ∀ (k : Nat) (t n : Int) (v : List Value) (h3 : dm_H), (8 - t).toNat < k → 0 ≤ t → t ≤ s → 0 ≤ n → n ≤ 8 → Inv kc km h3 → FrK b h h3 → HsA b s n v h3 → HsI (cv u) s (cv v) → hcP (cv v) s t → mxR (cv v) s n → dm_W (fun _ _ _ => True) (dm_P (QHs kc km h b (fun s2 n v r => (s2 = s ∧ RM (cv u) s (cv v) ∧ mxR (cv v) s n ∧ ∀ j : Int, 0 ≤ j → j < s → -1 ≤ cv v j ∧ cv v j ≤ 7) ∧ r = none)) 0 0) l 38 3 0 0 38 [some (.ref b), some (.ref b1), some (dI t), none] [] h3 0 0 := by
    intro k
    induction k with
    | zero => intro t n v h3 hm; exact absurd hm (Nat.not_lt_zero _)
    | succ k ih =>
      intro t n v h3 hm t0 t1 nn0 nn1 hI3 hK3 hH3 PI PT PM
      obtain ⟨d1, d2, d3, -, -, -⟩ := id hH3
      have hC3 := CA_Kh hK3 hb hb1 hC
      refine dr_iload_n rfl rfl ?_
      refine di_aload_n rfl rfl ?_
      refine dr_getf rfl d1 rfl ?_
      refine di_icmp_ge rfl rfl (by omega) (by omega) (by omega) (by omega) (fun c => ?_) (fun c => ?_)
      · exact dr_vret rfl rfl (by decide) (by decide) ⟨hI3, hK3, s, n, v, hH3, ⟨rfl, HsI_e PI (hc_e PT s0 c), PM, fun j j0 j1 => HsI_7 PI s8 j0 j1⟩, rfl⟩
      refine di_aload_n rfl rfl ?_
      refine di_aload_n rfl rfl ?_
      refine dr_virt rfl rfl rfl rfl d1 (f_X3_earliestUnhoused l hl hI3 hb hb1 hC3 hH3) (by decide) (by decide) (by decide) (Nat.le_of_ble_eq_true rfl) kNP (kIP (fun x xf xa xb => ?_))
      obtain ⟨⟨xc, xd⟩, xk⟩ := xf
      refine di_istore_n (ls2 := [some (.ref b), some (.ref b1), some (dI t), some (dI x)]) rfl rfl rfl ?_
      refine dr_iload_n rfl rfl ?_
      refine di_const rfl ?_
      refine di_icmp_eq rfl rfl (by omega) (by omega) (by omega) (by omega) (fun c2 => ?_) (fun c2 => ?_)
      · rcases xk with ⟨-, q⟩ | ⟨q, -⟩
        · have := hc_a PT s0 q; omega
        · omega
      obtain ⟨⟨x0, x1⟩, xv, xq⟩ := ea_b xk c2 PI
      refine di_aload_n rfl rfl ?_
      refine dr_getf rfl d1 rfl ?_
      refine dr_iload_n rfl rfl ?_
      refine di_aload_n rfl rfl ?_
      refine di_aload_n rfl rfl ?_
      refine dr_iload_n rfl rfl ?_
      refine dr_virt rfl rfl rfl rfl d1 (f_X3_firstFree l hl hI3 hb hb1 hC3 hH3 (fun j j0 j1 => HsI_7 PI s8 j0 j1) (a2 := x) x0 x1 xv) (by decide) (by decide) (by decide) (Nat.le_of_ble_eq_true rfl) kNP (kIP (fun r rf ra rb => ?_))
      obtain ⟨⟨rc, rd⟩, rk⟩ := rf
      refine paX rfl d2 d3 (by omega) (by omega) trivial (by omega) (by omega) hI3 (lt_hs1 hb) (fun us9 hu9 => T37_hsa hb hu9) (fun h4 v4 hI4 hk4 hu4 ha4 hs4 => ?_)
      have e1 := (hk4.2 b (by omega)).trans d1
      refine di_aload_n rfl rfl ?_
      refine di_aload_n rfl rfl ?_
      refine dr_getf rfl e1 rfl ?_
      refine di_aload_n rfl rfl ?_
      refine dr_getf rfl e1 rfl ?_
      refine dr_iload_n rfl rfl ?_
      refine di_iald rfl hu4 ha4 (by omega) (by omega) (fun y2 y2f y2a y2b y2v => ?_)
      have y2w : cv v4 x = y2 := cv_eq y2v y2a y2b
      have y2e : y2 = r := by rw [← y2w]; exact stt_at hs4 x0
      refine di_const rfl ?_
      refine di_iadd rfl ?_
      refine dr_maxE rfl (by omega) (by omega) (by omega) (by omega) (by decide) (by decide) (by decide) (Nat.le_of_ble_eq_true rfl) (fun q hq => ?_)
      refine pfX rfl e1 (Nat.le_of_ble_eq_true rfl) rfl hI4 (lt_hs hb) (T37_hs hb (by omega) (by omega)) (fun h5 hI5 hk5 hc5 => ?_)
      refine di_iinc (ls2 := [some (.ref b), some (.ref b1), some (dI (t + 1)), some (dI x)]) rfl rfl rfl rfl ?_
      refine dr_goto rfl rfl ?_
      refine dm_wk (ls2 := [some (.ref b), some (.ref b1), some (dI (t + 1)), none]) ⟨Or.inr rfl, Or.inr rfl, Or.inr rfl, Or.inl rfl, trivial⟩ ?_
      exact ih (t + 1) q v4 h5 (by omega) (by omega) (by omega) (by omega) (by omega) hI5 (FrK_tr hK3 (FrK_tr (FrK_of hk4 (Or.inr rfl)) (FrK_of hk5 (Or.inl rfl)))) ⟨hc5, (hk5.2 (b + 1) (by omega)).trans hu4, ha4, ⟨s0, s8⟩, by omega, by omega⟩ (HsI_s PI x0 x1 xv xq rk hs4) (hc_s PT x0 x1 xv rc hs4) (mx_s PM xv x0 x1 rc hs4 (by rw [← y2e]; exact hq))
  have L : ∀ (k : Nat) (i : Int) (v : List Value) (h3 : dm_H), (8 - i).toNat < k → 0 ≤ i → i ≤ s → Inv kc km h3 → FrK b h h3 → HsA b s 0 v h3 → (∀ j : Int, 0 ≤ j → j < i → cv v j = -1) → dm_W (fun _ _ _ => True) (dm_P (QHs kc km h b (fun s2 n v r => (s2 = s ∧ RM (cv u) s (cv v) ∧ mxR (cv v) s n ∧ ∀ j : Int, 0 ≤ j → j < s → -1 ≤ cv v j ∧ cv v j ≤ 7) ∧ r = none)) 0 0) l 38 3 0 0 15 [some (.ref b), some (.ref b1), some (dI i), none] [] h3 0 0 := by
    intro k
    induction k with
    | zero => intro i v h3 hm; exact absurd hm (Nat.not_lt_zero _)
    | succ k ih =>
      intro i v h3 hm i0 i1 hI3 hK3 hH3 PZ
      obtain ⟨d1, d2, d3, -, -, -⟩ := id hH3
      refine dr_iload_n rfl rfl ?_
      refine di_aload_n rfl rfl ?_
      refine dr_getf rfl d1 rfl ?_
      refine di_icmp_ge rfl rfl (by omega) (by omega) (by omega) (by omega) (fun c => ?_) (fun c => ?_)
      · have ee : i = s := by omega
        subst ee
        refine di_const rfl ?_
        refine di_istore_n (ls2 := [some (.ref b), some (.ref b1), some (dI 0), none]) rfl rfl rfl ?_
        exact L2 _ 0 0 v h3 (Nat.lt_succ_self _) (by omega) (by omega) (by omega) (by omega) hI3 hK3 hH3 (HsI_0 PZ) (hc_0 PZ s0) (mx_0 PZ)
      refine di_aload_n rfl rfl ?_
      refine dr_getf rfl d1 rfl ?_
      refine dr_iload_n rfl rfl ?_
      refine di_const rfl ?_
      refine paX rfl d2 d3 (by omega) (by omega) trivial (by omega) (by omega) hI3 (lt_hs1 hb) (fun us9 hu9 => T37_hsa hb hu9) (fun h4 v4 hI4 hk4 hu4 ha4 hs4 => ?_)
      refine di_iinc (ls2 := [some (.ref b), some (.ref b1), some (dI (i + 1)), none]) rfl rfl rfl rfl ?_
      refine dr_goto rfl rfl ?_
      exact ih (i + 1) v4 h4 (by omega) (by omega) (by omega) hI4 (FrK_tr hK3 (FrK_of hk4 (Or.inr rfl))) ⟨(hk4.2 b (by omega)).trans d1, hu4, ha4, ⟨s0, s8⟩, by omega, by omega⟩ (fun j j0 j1 => by
        by_cases e : j = i
        · rw [e]; exact stt_at hs4 i0
        · rw [stt_ne hs4 j0 e]; exact PZ j j0 (by omega))
  exact L _ 0 v0 h2 (Nat.lt_succ_self _) (by omega) (by omega) hI2 hK2 ⟨hc2, hv2, c3, ⟨s0, s8⟩, by omega, by omega⟩ (fun j j0 j1 => by omega)
set_option maxRecDepth 100000 in
theorem f_X3_roomAt (l : Launch) (hl : l.stackTraces = false) {kc km : Int} {h : dm_H} (hI : Inv kc km h) {b : Nat} (hb : isHs b) {s n : Int} {v : List Value} (hH : HsA b s n v h) {a1 : Int} (h1a : -2147483648 ≤ a1) (h1b : a1 ≤ 2147483647) : dm_M l 37 0 0 0 [.ref b, dI a1] h (QP h (RI (fun x => (0 ≤ a1 → a1 < s → x = cv v a1) ∧ (a1 < 0 ∨ s ≤ a1 → x = -1))) []) := by
  obtain ⟨c1, c2, c3, ⟨s0, s8⟩, c4, c5⟩ := hH
  refine dm_M_of dk_37 hl rfl (Nat.le_of_ble_eq_true rfl) ?_
  show dm_W (fun _ _ _ => True) (dm_P (QP h (RI (fun x => (0 ≤ a1 → a1 < s → x = cv v a1) ∧ (a1 < 0 ∨ s ≤ a1 → x = -1))) []) 0 0) l 37 0 0 0 0 [some (.ref b), some (dI a1)] [] h 0 0
  refine dr_iload_n rfl rfl ?_
  refine di_if_lt rfl rfl (by omega) (by omega) (fun c => ?_) (fun c => ?_)
  · refine di_const rfl ?_
    exact dr_iret (ty := .int) rfl rfl rfl (by decide) (by decide) ⟨rfl, -1, ⟨by omega, fun _ => rfl⟩, by omega, by omega, rfl⟩
  refine dr_iload_n rfl rfl ?_
  refine di_aload_n rfl rfl ?_
  refine dr_getf rfl c1 rfl ?_
  refine di_icmp_ge rfl rfl (by omega) (by omega) (by omega) (by omega) (fun c => ?_) (fun c => ?_)
  · refine di_const rfl ?_
    exact dr_iret (ty := .int) rfl rfl rfl (by decide) (by decide) ⟨rfl, -1, ⟨by omega, fun _ => rfl⟩, by omega, by omega, rfl⟩
  refine di_aload_n rfl rfl ?_
  refine dr_getf rfl c1 rfl ?_
  refine dr_iload_n rfl rfl ?_
  refine di_iald rfl c2 c3 (by omega) (by omega) (fun x xf xa xb xv => ?_)
  have xw : cv v a1 = x := cv_eq xv xa xb
  refine dr_goto rfl rfl ?_
  exact dr_iret (ty := .int) rfl rfl rfl (by decide) (by decide) ⟨rfl, x, ⟨fun _ _ => xw.symm, by omega⟩, by omega, by omega, rfl⟩
theorem hs_6 : isHs 6 := Or.inl rfl
theorem roomOf_c {F : Int → Int} {u w v : List Value} {s c x y : Int} (hr : Rep (cv u) (cv w) s F) (ht : Srt (cv u) s) (s8 : s ≤ 8) (hR : RM (cv u) s (cv v)) (hk : rkp F (cv u) s c y) (x1 : 0 ≤ y → y < s → x = cv v y) (x2 : y < 0 ∨ s ≤ y → x = -1) : anRoomOf F c = x := by
  rcases hk with ⟨e, hc⟩ | ⟨y0, y1, e⟩
  · rw [x2 (by omega)]; exact roomOf_n hr ht hc
  · rw [x1 y0 y1]
    exact roomOf_y hr ht s8 (rmX_of hr ht hR) y0 (by rw [zF_eq hr]; exact y1) ((cR_eq hr ht y0 y1).trans e)
theorem rooms_c {F : Int → Int} {u w v : List Value} {s n : Int} (hr : Rep (cv u) (cv w) s F) (ht : Srt (cv u) s) (s8 : s ≤ 8) (hR : RM (cv u) s (cv v)) (hm : mxR (cv v) s n) : anRooms F = n := rooms_e hr s8 (rmX_of hr ht hR) (by rw [zF_eq hr]; exact hm)
set_option maxHeartbeats 4000000 in
set_option maxRecDepth 100000 in
/-- Earlyends.rooms -/
theorem c_X6_rooms (l : Launch) (hl : l.stackTraces = false) {kc km : Int} {h : dm_H} (hI : Inv kc km h) {B : Int} {σ : St} (hS : CSt B σ h) (hB : B ≤ 80000) {a1 : Int} (h1a : -2147483648 ≤ a1) (h1b : a1 ≤ 2147483647) : dm_M l 95 6 8 48 [.ref 0, dI (a1)] h (QX kc km h B XB XB (spRooms σ a1)) := by
  refine dm_M_of dk_95 hl rfl (Nat.le_of_ble_eq_true rfl) ?_
  show dm_W (fun _ _ _ => True) (dm_P (QX kc km h B XB XB (spRooms σ a1)) 8 48) l 95 6 8 48 0 [some (.ref 0), some (dI (a1))] [] h 0 0
  refine di_aload_n rfl rfl ?_
  obtain ⟨r1, c2, c3, hc4⟩ := I_cls hI
  refine dr_getf rfl hc4 rfl ?_
  refine di_aload_n rfl rfl ?_
  refine dr_iload_n rfl rfl ?_
  refine dr_virt rfl rfl rfl rfl hc4 (f_X6_bookAt l hl hI (a1 := a1) (by omega) (by omega)) (by decide) (by decide) (by decide) (Nat.le_of_ble_eq_true rfl) (fun Y h9 q9 => by obtain ⟨rfl, rfl, hC⟩ := q9; exact dr_out rfl (by decide) (by decide) (QX_1 (a := 0) hI FrC_rf hS (by omega) (by unfold spRooms; (repeat' split) <;> first | rfl | (exfalso; omega) | (apply Prod.ext <;> first | rfl | (dsimp only; omega) | (apply Prod.ext <;> first | rfl | (dsimp only; omega)))))) (kPXR (fun r5 ⟨q6, q7, q8, q10⟩ => ?_))
  obtain ⟨s11, m12, u13, w14, hc15, hr16, ht17, ma18, mb19⟩ := CSt_bk hS (k := a1) q8 q10 q7
  have sq20 : 0 ≤ s11 ∧ s11 ≤ 8 := ⟨hc15.2.2.2.2.2.1, hc15.2.2.2.2.2.2.1⟩
  have hz21 : zF (σ.1 a1) = s11 := zF_eq hr16
  obtain ⟨s22, n23, v24, hhs25⟩ := I_hsA hI (b := 6) hs_6
  refine dr_virt rfl rfl rfl rfl hhs25.1 (f_X3_fill l hl hI (b := 6) hs_6 q6 hc15) (by decide) (by decide) (by decide) (Nat.le_of_ble_eq_true rfl) kHsN (kHsV (fun h26 hI27 hK28 s29 n30 v31 hH32 qf33 => ?_))
  obtain ⟨qf33e, qf33r, qf33m, qf33b⟩ := qf33
  subst qf33e
  have hF34 := FrC_tr FrC_rf (FrC_Kh hK28 hs_6)
  have hS35 := CSt_Kh hS hK28 hs_6
  have hc36 := CA_Kh hK28 hs_6 q6 hc15
  have n30a := hH32.2.2.2.2.1
  have n30b := hH32.2.2.2.2.2
  refine di_aload_n rfl rfl ?_
  obtain ⟨r37, c38, c39, hc40⟩ := I_cls hI27
  refine dr_getf rfl hc40 rfl ?_
  refine dr_getf rfl hH32.1 rfl ?_
  have e9 : anRooms (σ.1 a1) = n30 := rooms_c hr16 ht17 (by omega) qf33r qf33m
  clear qf33r qf33m qf33b
  exact dr_iret (ty := .int) rfl rfl rfl (by decide) (by decide) (QX_ok hI27 hF34 hS35 (by omega) (by unfold spRooms; (try rw [e9]); (repeat' split) <;> first | rfl | (exfalso; omega) | (apply Prod.ext <;> first | rfl | (dsimp only; omega) | (apply Prod.ext <;> first | rfl | (dsimp only; omega)))))
set_option maxHeartbeats 4000000 in
set_option maxRecDepth 100000 in
/-- Earlyends.roomOf -/
theorem c_X6_roomOf (l : Launch) (hl : l.stackTraces = false) {kc km : Int} {h : dm_H} (hI : Inv kc km h) {B : Int} {σ : St} (hS : CSt B σ h) (hB : B ≤ 80000) {a1 : Int} (h1a : -2147483648 ≤ a1) (h1b : a1 ≤ 2147483647) {a2 : Int} (h2a : -2147483648 ≤ a2) (h2b : a2 ≤ 2147483647) {a3 : Int} (h3a : -2147483648 ≤ a3) (h3b : a3 ≤ 2147483647) : dm_M l 96 6 8 48 [.ref 0, dI (a1), dI (a2), dI (a3)] h (QX kc km h B XB XA (spRoomOf σ a1 a2 a3)) := by
  refine dm_M_of dk_96 hl rfl (Nat.le_of_ble_eq_true rfl) ?_
  show dm_W (fun _ _ _ => True) (dm_P (QX kc km h B XB XA (spRoomOf σ a1 a2 a3)) 8 48) l 96 6 8 48 0 [some (.ref 0), some (dI (a1)), some (dI (a2)), some (dI (a3)), none, none] [] h 0 0
  refine di_aload_n rfl rfl ?_
  refine dr_iload_n rfl rfl ?_
  obtain ⟨r1, c2, c3, hc4⟩ := I_cls hI
  refine dr_virt rfl rfl rfl rfl hc4 (f_X6_bookAt l hl hI (a1 := a1) (by omega) (by omega)) (by decide) (by decide) (by decide) (Nat.le_of_ble_eq_true rfl) (fun Y h9 q9 => by obtain ⟨rfl, rfl, hC⟩ := q9; exact dr_out rfl (by decide) (by decide) (QX_1 (a := 0) hI FrC_rf hS (by omega) (by unfold spRoomOf; (repeat' split) <;> first | rfl | (exfalso; omega) | (apply Prod.ext <;> first | rfl | (dsimp only; omega) | (apply Prod.ext <;> first | rfl | (dsimp only; omega)))))) (kPXR (fun r5 ⟨q6, q7, q8, q10⟩ => ?_))
  refine di_astore (ls2 := [some (.ref 0), some (dI (a1)), some (dI (a2)), some (dI (a3)), some (.ref r5), none]) rfl rfl rfl ?_
  refine dr_iload_n rfl rfl ?_
  refine dr_iload_n rfl rfl ?_
  refine dr_stat rfl rfl rfl rfl (f_X6_codeOfSpan l hl hI (a0 := a2) (by omega) (by omega) (a1 := a3) (by omega) (by omega)) (by decide) (by decide) (by decide) (Nat.le_of_ble_eq_true rfl) (fun Y h9 q9 => by obtain ⟨rfl, rfl, hC⟩ := q9; exact dr_out rfl (by decide) (by decide) (QX_2 (a := 0) hI FrC_rf hS (by omega) (by unfold spRoomOf; (repeat' split) <;> first | rfl | (exfalso; omega) | (apply Prod.ext <;> first | rfl | (dsimp only; omega) | (apply Prod.ext <;> first | rfl | (dsimp only; omega)))))) (kPXI (fun y11 ⟨q12, q13, q14, q15⟩ => ?_))
  subst q12
  refine di_istore (ls2 := [some (.ref 0), some (dI (a1)), some (dI (a2)), some (dI (a3)), some (.ref r5), some (dI ((100 * a3 + a2)))]) rfl rfl rfl ?_
  refine di_aload_n rfl rfl ?_
  refine dr_getf rfl hc4 rfl ?_
  refine di_aload rfl rfl ?_
  obtain ⟨s16, m17, u18, w19, hc20, hr21, ht22, ma23, mb24⟩ := CSt_bk hS (k := a1) q8 q10 q7
  have sq25 : 0 ≤ s16 ∧ s16 ≤ 8 := ⟨hc20.2.2.2.2.2.1, hc20.2.2.2.2.2.2.1⟩
  have hz26 : zF (σ.1 a1) = s16 := zF_eq hr21
  obtain ⟨s27, n28, v29, hhs30⟩ := I_hsA hI (b := 6) hs_6
  refine dr_virt rfl rfl rfl rfl hhs30.1 (f_X3_fill l hl hI (b := 6) hs_6 q6 hc20) (by decide) (by decide) (by decide) (Nat.le_of_ble_eq_true rfl) kHsN (kHsV (fun h31 hI32 hK33 s34 n35 v36 hH37 qf38 => ?_))
  obtain ⟨qf38e, qf38r, qf38m, qf38b⟩ := qf38
  subst qf38e
  have hF39 := FrC_tr FrC_rf (FrC_Kh hK33 hs_6)
  have hS40 := CSt_Kh hS hK33 hs_6
  have hc41 := CA_Kh hK33 hs_6 q6 hc20
  have n35a := hH37.2.2.2.2.1
  have n35b := hH37.2.2.2.2.2
  refine di_aload_n rfl rfl ?_
  obtain ⟨r42, c43, c44, hc45⟩ := I_cls hI32
  refine dr_getf rfl hc45 rfl ?_
  refine di_aload rfl rfl ?_
  refine dr_iload rfl rfl ?_
  refine dr_virt rfl rfl rfl rfl hc41.1 (f_X0_rankOf l hl hI32 q6 hc41 (a1 := (100 * a3 + a2)) (by omega) (by omega) hr21 ht22) (by decide) (by decide) (by decide) (Nat.le_of_ble_eq_true rfl) kNP (kIP (fun y46 y46f y46a y46b => ?_))
  obtain ⟨y46c, y46d, y46k⟩ := y46f
  refine dr_virt rfl rfl rfl rfl hH37.1 (f_X3_roomAt l hl hI32 hs_6 hH37 (a1 := y46) (by omega) (by omega)) (by decide) (by decide) (by decide) (Nat.le_of_ble_eq_true rfl) kNP (kIP (fun y47 y47f y47a y47b => ?_))
  obtain ⟨y47r, y47s⟩ := y47f
  have e9 : anRoomOf (σ.1 a1) (100 * a3 + a2) = y47 := roomOf_c hr21 ht22 (by omega) qf38r y46k y47r y47s
  clear qf38r qf38m qf38b y47r y47s
  exact dr_iret (ty := .int) rfl rfl rfl (by decide) (by decide) (QX_ok hI32 hF39 hS40 (by omega) (by unfold spRoomOf; (try rw [e9]); (repeat' split) <;> first | rfl | (exfalso; omega) | (apply Prod.ext <;> first | rfl | (dsimp only; omega) | (apply Prod.ext <;> first | rfl | (dsimp only; omega)))))
/-! ===== rooms, the model's ===== -/
def HsJ (f v : Int → Int) (n t k : Int) : Prop := ∀ r : Int, 0 ≤ r → r < n → (v r ≠ -1 ↔ (f r % 100 < t ∨ (f r % 100 = t ∧ r < k)))
section HSJ
variable {f : Int → Int} {V V2 : List Value} {n t k x m i : Int}
theorem HsJ_0 (h : ∀ j : Int, 0 ≤ j → j < n → cv V j = -1) (hf : ∀ j : Int, 0 ≤ j → j < n → 0 ≤ f j) : HsJ f (cv V) n 0 0 := fun r r0 r1 => by
  have := hf r r0 r1
  exact ⟨fun q => absurd (h r r0 r1) q, fun q => by omega⟩
theorem HsJ_n (h : HsJ f (cv V) n t k) (e : f k % 100 ≠ t) : HsJ f (cv V) n t (k + 1) := fun r r0 r1 => (h r r0 r1).trans ⟨fun q => by omega, fun q => by
  by_cases c : r = k
  · rw [c] at q ⊢; omega
  · omega⟩
theorem HsJ_y (h : HsJ f (cv V) n t k) (k0 : 0 ≤ k) (e : f k % 100 = t) (x0 : 0 ≤ x) (hs : stt V V2 k x) : HsJ f (cv V2) n t (k + 1) := fun r r0 r1 => by
  by_cases c : r = k
  · rw [c, stt_at hs k0]; exact ⟨fun _ => Or.inr ⟨e, by omega⟩, fun _ => by omega⟩
  · rw [stt_ne hs r0 c]; exact (h r r0 r1).trans ⟨fun q => by omega, fun q => by omega⟩
theorem HsJ_s (h : HsJ f (cv V) n t k) (e : n ≤ k) : HsJ f (cv V) n (t + 1) 0 := fun r r0 r1 => (h r r0 r1).trans ⟨fun q => by omega, fun q => by omega⟩
theorem HsJ_b (h : HsJ f (cv V) n t k) (e : f k % 100 = t) : ∀ r : Int, 0 ≤ r → r < n → (bfr f r k ↔ cv V r ≠ -1) := fun r r0 r1 => by
  refine Iff.trans ?_ (h r r0 r1).symm
  unfold bfr
  rw [e]
theorem HsJ_v (h : HsJ f (cv V) n t k) (k0 : 0 ≤ k) (k1 : k < n) (e : f k % 100 = t) : cv V k = -1 := Classical.byContradiction fun q => by
  have := (h k k0 k1).mp q
  omega
theorem HsJ_e (h : HsJ f (cv V) n t 0) (e : 100 ≤ t) : ∀ j : Int, 0 ≤ j → j < n → cv V j ≠ -1 := fun j j0 j1 => (h j j0 j1).mpr (Or.inl (by omega))
theorem mx_i {v : Int → Int} (h : mxR v i m) (i0 : 0 ≤ i) (hx : v i = x) (x0 : 0 ≤ x) (c : m ≤ x) : mxR v (i + 1) (x + 1) := ⟨fun r r0 r1 => by
  by_cases e : r = i
  · rw [e, hx]; omega
  · have := h.1 r r0 (by omega); omega, Or.inr ⟨i, ⟨i0, by omega⟩, by omega, by omega⟩⟩
theorem mx_j {v : Int → Int} (h : mxR v i m) (hx : v i = x) (c : x < m) : mxR v (i + 1) m := ⟨fun r r0 r1 => by
  by_cases e : r = i
  · rw [e, hx]; exact c
  · exact h.1 r r0 (by omega), h.2.imp id (fun ⟨r, hr, q⟩ => ⟨r, ⟨hr.1, by omega⟩, q⟩)⟩
end HSJ
def rmQ (v0 : List Value) (n0 n : Nat) (v : List Value) : Prop := n = n0 ∧ RM (cv v0) n0 (cv v) ∧ ∀ j : Int, 0 ≤ j → j < n0 → 0 ≤ cv v j ∧ cv v j ≤ 8
theorem rmQ_X {F : Int → Int} {n n2 : Nat} {v v2 : List Value} (a : rwQ F n v) (b : rmQ v n n2 v2) : rmX F (cv v2) := by
  unfold rmX
  rw [← a.1.1]
  exact RM_cg b.2.1 a.2.2
set_option maxHeartbeats 4000000 in
set_option maxRecDepth 100000 in
theorem s_X8_roomsOf_f (l : Launch) (hl : l.stackTraces = false) {kc km : Int} {h : dm_H} (hI : Inv kc km h) {b0 n0 : Nat} {v0 : List Value} (hv0 : h[b0]? = some (20, v0)) (hz0 : arr n0 okR v0) (hn0 : n0 ≤ 8) (hv : okV v0 n0) : dm_M l 204 3 1 16 [.ref b0] h (QA h (RW h (rmQ v0 n0))) := by
  refine dm_M_of dk_204 hl rfl (Nat.le_of_ble_eq_true rfl) ?_
  show dm_W (fun _ _ _ => True) (dm_P (QA h (RW h (rmQ v0 n0))) 1 16) l 204 3 1 16 0 [some (.ref b0), none, none, none] [] h 0 0
  have l0 := App_lt hv0
  refine di_aload_n rfl rfl ?_
  refine di_alen (n := n0) rfl hv0 (Or.inl rfl) hz0.1 ?_
  refine pnw rfl rfl (by omega) (by omega) (by omega) (fun h1 hA1 b hb vs hc ha => ?_)
  refine dm_cew (ce2 := 1) (sl2 := 8) (by omega) (by omega) ?_
  refine di_astore_n (ls2 := [some (.ref b0), some (.ref b), none, none]) rfl rfl rfl ?_
  refine di_const rfl ?_
  refine di_istore_n (ls2 := [some (.ref b0), some (.ref b), some (dI 0), none]) rfl rfl rfl ?_
  have LI : ∀ (q : Nat) (t k : Int) (h2 : dm_H) (v : List Value), (9 * (100 - t) + (8 - k)).toNat < q → 0 ≤ t → t < 100 → 0 ≤ k → k ≤ n0 → App h h2 → h2[b]? = some (20, v) → arr n0 okR v → HsI (cv v0) n0 (cv v) → HsJ (cv v0) (cv v) n0 t k → (∀ j : Int, 0 ≤ j → j < n0 → cv v j ≤ 8) → dm_W (fun _ _ _ => True) (dm_P (QA h (RW h (rmQ v0 n0))) 1 16) l 204 3 1 16 33 [some (.ref b0), some (.ref b), some (dI t), some (dI k)] [] h2 1 8 := by
    intro q
    induction q with
    | zero => intro t k h2 v hm; exact absurd hm (Nat.not_lt_zero _)
    | succ q ih =>
      intro t k h2 v hm t0 t1 k0 k1 hA hc ha PI PJ P8
      have hI2 := App_Inv hA hI
      have hr2 := App_at hA hv0
      refine dr_iload_n rfl rfl ?_
      refine di_aload_n rfl rfl ?_
      refine di_alen (n := n0) rfl hr2 (Or.inl rfl) hz0.1 ?_
      refine di_icmp_ge rfl rfl (by omega) (by omega) (by omega) (by omega) (fun c => ?_) (fun c => ?_)
      · refine di_iinc (ls2 := [some (.ref b0), some (.ref b), some (dI (t + 1)), some (dI k)]) rfl rfl rfl rfl ?_
        refine dr_goto rfl rfl ?_
        refine dr_iload_n rfl rfl ?_
        refine di_bipush rfl (by decide) ?_
        have PJ2 := HsJ_s PJ c
        refine di_icmp_ge rfl rfl (by omega) (by omega) (by omega) (by omega) (fun c2 => ?_) (fun c2 => ?_)
        · have hall := HsJ_e PJ2 c2
          have hRM := HsI_e PI hall
          refine di_aload_n rfl rfl ?_
          exact dr_aret rfl rfl (Or.inr ⟨_, rfl⟩) (Or.inl ⟨_, rfl⟩) (by omega) (by omega) ⟨hA, b, n0, v, ⟨rfl, hRM, fun j j0 j1 => ⟨(hRM j j0 j1).1, P8 j j0 j1⟩⟩, hb, hc, ha, rfl⟩
        · refine di_const rfl ?_
          refine di_istore_n (ls2 := [some (.ref b0), some (.ref b), some (dI (t + 1)), some (dI 0)]) rfl rfl rfl ?_
          exact ih (t + 1) 0 h2 v (by omega) (by omega) (by omega) (by omega) (by omega) hA hc ha PI PJ2 P8
      refine di_aload_n rfl rfl ?_
      refine dr_iload_n rfl rfl ?_
      refine di_iald rfl hr2 hz0 (by omega) (by omega) (fun x xf xa xb xv => ?_)
      have xw : cv v0 k = x := cv_eq xv xa xb
      have xo := hv k k0 (by omega)
      have xg : -1 ≤ x ∧ x ≤ 9999 := xf
      refine di_bipush rfl (by decide) ?_
      refine dR_rem rfl (by omega) (by omega) (fun y ya yb ye => ?_)
      have ye := ye (by omega)
      refine dr_iload_n rfl rfl ?_
      refine di_icmp_ne rfl rfl (by omega) (by omega) (by omega) (by omega) (fun c2 => ?_) (fun c2 => ?_)
      · refine di_iinc (ls2 := [some (.ref b0), some (.ref b), some (dI t), some (dI (k + 1))]) rfl rfl rfl rfl ?_
        refine dr_goto rfl rfl ?_
        exact ih t (k + 1) h2 v (by omega) t0 t1 (by omega) (by omega) hA hc ha PI (HsJ_n PJ (by rw [xw]; omega)) P8
      have e9 : cv v0 k % 100 = t := by rw [xw]; omega
      refine di_aload_n rfl rfl ?_
      refine dr_iload_n rfl rfl ?_
      refine di_aload_n rfl rfl ?_
      refine di_aload_n rfl rfl ?_
      refine dr_iload_n rfl rfl ?_
      refine dr_stat rfl rfl rfl rfl (s_X8_freeRoom_f l hl hI2 (b0 := b0) (n0 := n0) (v0 := v0) hr2 hz0 (by omega) (b1 := b) (n1 := n0) (v1 := v) hc ha (by omega) (a2 := k) (by omega) (by omega) (hv := hv) rfl (by omega)) (by decide) (by decide) (by decide) (Nat.le_of_ble_eq_true rfl) kNP (kIP (fun z zf za zb => ?_))
      obtain ⟨zc, zd, zk⟩ := zf
      refine pdsX rfl hc ha (by omega) (by omega) ⟨by omega, by omega⟩ hb hA (fun h3 hA3 us3 hc3 ha3 hs3 hk3 => ?_)
      refine di_iinc (ls2 := [some (.ref b0), some (.ref b), some (dI t), some (dI (k + 1))]) rfl rfl rfl rfl ?_
      refine dr_goto rfl rfl ?_
      exact ih t (k + 1) h3 us3 (by omega) t0 t1 (by omega) (by omega) hA3 hc3 ha3 (HsI_s PI k0 (by omega) (HsJ_v PJ k0 (by omega) e9) (HsJ_b PJ e9) zk hs3) (HsJ_y PJ k0 e9 zc hs3) (fun j j0 j1 => by
        by_cases e : j = k
        · rw [e, stt_at hs3 k0]; exact zd
        · rw [stt_ne hs3 j0 e]; exact P8 j j0 j1)
  have L : ∀ (q : Nat) (i : Int) (h2 : dm_H) (v : List Value), (8 - i).toNat < q → 0 ≤ i → i ≤ n0 → App h h2 → h2[b]? = some (20, v) → arr n0 okR v → (∀ j : Int, 0 ≤ j → j < i → cv v j = -1) → dm_W (fun _ _ _ => True) (dm_P (QA h (RW h (rmQ v0 n0))) 1 16) l 204 3 1 16 7 [some (.ref b0), some (.ref b), some (dI i), none] [] h2 1 8 := by
    intro q
    induction q with
    | zero => intro i h2 v hm; exact absurd hm (Nat.not_lt_zero _)
    | succ q ih =>
      intro i h2 v hm i0 i1 hA hc ha PZ
      refine dr_iload_n rfl rfl ?_
      refine di_aload_n rfl rfl ?_
      refine di_alen (n := n0) rfl (App_at hA hv0) (Or.inl rfl) hz0.1 ?_
      refine di_icmp_ge rfl rfl (by omega) (by omega) (by omega) (by omega) (fun c => ?_) (fun c => ?_)
      · have ee : i = n0 := by omega
        subst ee
        refine di_const rfl ?_
        refine di_istore_n (ls2 := [some (.ref b0), some (.ref b), some (dI 0), none]) rfl rfl rfl ?_
        refine dr_iload_n rfl rfl ?_
        refine di_bipush rfl (by decide) ?_
        refine di_icmp_ge rfl rfl (by omega) (by omega) (by omega) (by omega) (fun c2 => absurd c2 (by decide)) (fun _ => ?_)
        refine di_const rfl ?_
        refine di_istore_n (ls2 := [some (.ref b0), some (.ref b), some (dI 0), some (dI 0)]) rfl rfl rfl ?_
        exact LI _ 0 0 h2 v (Nat.lt_succ_self _) (by omega) (by omega) (by omega) (by omega) hA hc ha (HsI_0 PZ) (HsJ_0 PZ (fun j j0 j1 => (hv j j0 j1).1)) (fun j j0 j1 => by rw [PZ j j0 j1]; omega)
      refine di_aload_n rfl rfl ?_
      refine dr_iload_n rfl rfl ?_
      refine di_const rfl ?_
      refine pdsX rfl hc ha (by omega) (by omega) ⟨by omega, by omega⟩ hb hA (fun h3 hA3 us3 hc3 ha3 hs3 hk3 => ?_)
      refine di_iinc (ls2 := [some (.ref b0), some (.ref b), some (dI (i + 1)), none]) rfl rfl rfl rfl ?_
      refine dr_goto rfl rfl ?_
      exact ih (i + 1) h3 us3 (by omega) (by omega) (by omega) hA3 hc3 ha3 (fun j j0 j1 => by
        by_cases e : j = i
        · rw [e]; exact stt_at hs3 i0
        · rw [stt_ne hs3 j0 e]; exact PZ j j0 (by omega))
  exact L _ 0 h1 vs (Nat.lt_succ_self _) (by omega) (by omega) hA1 hc ha (fun j j0 j1 => by omega)
set_option maxHeartbeats 4000000 in
set_option maxRecDepth 100000 in
theorem n_X8_roomCount (l : Launch) (hl : l.stackTraces = false) {kc km : Int} {h : dm_H} (hI : Inv kc km h) {th : Int} {σ : St} (hM : MSt km th σ h) {a1 : Int} (h1a : 0 ≤ a1) (h1b : a1 ≤ 2) {r q : Nat} {u w us : List Value} (er : (r : Int) = (28 : Nat) + a1) (eq : (q : Int) = (32 : Nat) + a1) (hu : h[r]? = some (20, u)) (hw : h[q]? = some (20, w)) (au : arr 8 okC u) (aw : arr 8 anyI w) (h35 : h[35]? = some (20, us)) (as : arr 3 okS us) (hr : Rep (cv u) (cv w) (cv us a1) (σ.1 a1)) (s0 : 0 ≤ cv us a1) (s8 : cv us a1 ≤ 8) (hT : sSt σ) : dm_M l 205 4 2 32 [.ref 26, dI a1] h (QA h (RI2 (fun x => (0 ≤ x ∧ x ≤ 9) ∧ anRooms (σ.1 a1) = x))) := by
  obtain ⟨ni, c26, -, -⟩ := hM.1
  refine dm_M_of dk_205 hl rfl (Nat.le_of_ble_eq_true rfl) ?_
  show dm_W (fun _ _ _ => True) (dm_P (QA h (RI2 (fun x => (0 ≤ x ∧ x ≤ 9) ∧ anRooms (σ.1 a1) = x))) 2 32) l 205 4 2 32 0 [some (.ref 26), some (dI a1), none, none, none] [] h 0 0
  refine di_aload_n rfl rfl ?_
  refine dr_iload_n rfl rfl ?_
  refine dr_virt rfl rfl rfl rfl c26 (n_X8_row l hl hI hM (a1 := a1) (by omega) (by omega) er eq hu hw au aw h35 as hr s0 s8 hT) (by decide) (by decide) (by decide) (Nat.le_of_ble_eq_true rfl) kAN (kRW (fun h1 hA1 b n v hp hb hc ha => ?_))
  have hp : rwQ (σ.1 a1) n v := hp
  have n8 := hp.1.2
  have hI1 := App_Inv hA1 hI
  refine dr_stat rfl rfl rfl rfl (s_X8_roomsOf_f l hl hI1 (b0 := b) (n0 := n) (v0 := v) hc ha n8 hp.2.1) (by decide) (by decide) (by decide) (Nat.le_of_ble_eq_true rfl) kAN (kRW (fun h2 hA2 b2 n2 v2 hq hb2 hc2 ha2 => ?_))
  have hX := rmQ_X hp hq
  obtain ⟨rfl, hR, h8⟩ := hq
  have hA := App_tr hA1 hA2
  refine di_astore_n (ls2 := [some (.ref 26), some (dI a1), some (.ref b2), none, none]) rfl rfl rfl ?_
  refine di_const rfl ?_
  refine di_istore_n (ls2 := [some (.ref 26), some (dI a1), some (.ref b2), some (dI 0), none]) rfl rfl rfl ?_
  refine di_const rfl ?_
  refine di_istore (ls2 := [some (.ref 26), some (dI a1), some (.ref b2), some (dI 0), some (dI 0)]) rfl rfl rfl ?_
  have L : ∀ (k : Nat) (m i : Int), (8 - i).toNat < k → 0 ≤ m → m ≤ 9 → 0 ≤ i → i ≤ n2 → mxR (cv v2) i m → dm_W (fun _ _ _ => True) (dm_P (QA h (RI2 (fun x => (0 ≤ x ∧ x ≤ 9) ∧ anRooms (σ.1 a1) = x))) 2 32) l 205 4 2 32 14 [some (.ref 26), some (dI a1), some (.ref b2), some (dI m), some (dI i)] [] h2 2 32 := by
    intro k
    induction k with
    | zero => intro m i hm; exact absurd hm (Nat.not_lt_zero _)
    | succ k ih =>
      intro m i hm m0 m1 i0 i1 PM
      refine dr_iload rfl rfl ?_
      refine di_aload_n rfl rfl ?_
      refine di_alen (n := n2) rfl hc2 (Or.inl rfl) ha2.1 ?_
      refine di_icmp_ge rfl rfl (by omega) (by omega) (by omega) (by omega) (fun c => ?_) (fun c => ?_)
      · have ee : i = n2 := by omega
        refine dr_iload_n rfl rfl ?_
        exact dr_iret (ty := .int) rfl rfl rfl (by decide) (by decide) ⟨hA, m, ⟨⟨m0, m1⟩, rooms_e hr s8 hX (by rw [← hp.1.1, ← ee]; exact PM)⟩, by omega, by omega, rfl⟩
      refine di_aload_n rfl rfl ?_
      refine dr_iload rfl rfl ?_
      refine di_iald rfl hc2 ha2 (by omega) (by omega) (fun x xf xa xb xv => ?_)
      have xw : cv v2 i = x := cv_eq xv xa xb
      have x8 := h8 i i0 (by omega)
      rw [xw] at x8
      refine dr_iload_n rfl rfl ?_
      refine di_icmp_lt rfl rfl (by omega) (by omega) (by omega) (by omega) (fun c2 => ?_) (fun c2 => ?_)
      · refine di_iinc (ls2 := [some (.ref 26), some (dI a1), some (.ref b2), some (dI m), some (dI (i + 1))]) rfl rfl rfl rfl ?_
        refine dr_goto rfl rfl ?_
        exact ih m (i + 1) (by omega) m0 m1 (by omega) (by omega) (mx_j PM xw c2)
      refine di_aload_n rfl rfl ?_
      refine dr_iload rfl rfl ?_
      refine di_iald rfl hc2 ha2 (by omega) (by omega) (fun y yf ya yb yv => ?_)
      have yw : cv v2 i = y := cv_eq yv ya yb
      refine di_const rfl ?_
      refine di_iadd rfl ?_
      refine di_istore_n (ls2 := [some (.ref 26), some (dI a1), some (.ref b2), some (dI (y + 1)), some (dI i)]) rfl rfl rfl ?_
      refine di_iinc (ls2 := [some (.ref 26), some (dI a1), some (.ref b2), some (dI (y + 1)), some (dI (i + 1))]) rfl rfl rfl rfl ?_
      refine dr_goto rfl rfl ?_
      exact ih (y + 1) (i + 1) (by omega) (by omega) (by omega) (by omega) (by omega) (mx_i PM i0 yw (by omega) (by omega))
  exact L _ 0 0 (Nat.lt_succ_self _) (by omega) (by omega) (by omega) (by omega) ⟨fun r r0 r1 => by omega, Or.inl rfl⟩
set_option maxHeartbeats 4000000 in
set_option maxRecDepth 100000 in
theorem n_X8_roomAt (l : Launch) (hl : l.stackTraces = false) {kc km : Int} {h : dm_H} (hI : Inv kc km h) {th : Int} {σ : St} (hM : MSt km th σ h) {a1 : Int} (h1a : 0 ≤ a1) (h1b : a1 ≤ 2) {a2 : Int} (h2a : -2147483648 ≤ a2) (h2b : a2 ≤ 2147483647) {r q : Nat} {u w us : List Value} (er : (r : Int) = (28 : Nat) + a1) (eq : (q : Int) = (32 : Nat) + a1) (hu : h[r]? = some (20, u)) (hw : h[q]? = some (20, w)) (au : arr 8 okC u) (aw : arr 8 anyI w) (h35 : h[35]? = some (20, us)) (as : arr 3 okS us) (hr : Rep (cv u) (cv w) (cv us a1) (σ.1 a1)) (s0 : 0 ≤ cv us a1) (s8 : cv us a1 ≤ 8) (hT : sSt σ) : dm_M l 207 4 2 32 [.ref 26, dI a1, dI a2] h (QA h (RI2 (fun x => anRoomOf (σ.1 a1) a2 = x))) := by
  obtain ⟨ni, c26, -, -⟩ := hM.1
  have hTa := hT a1 h1a h1b
  refine dm_M_of dk_207 hl rfl (Nat.le_of_ble_eq_true rfl) ?_
  show dm_W (fun _ _ _ => True) (dm_P (QA h (RI2 (fun x => anRoomOf (σ.1 a1) a2 = x))) 2 32) l 207 4 2 32 0 [some (.ref 26), some (dI a1), some (dI a2)] [] h 0 0
  refine di_aload_n rfl rfl ?_
  refine dr_iload_n rfl rfl ?_
  refine dr_iload_n rfl rfl ?_
  refine dr_virt rfl rfl rfl rfl c26 (n_X8_at l hl hI hM (a1 := a1) (by omega) (by omega) (a2 := a2) (by omega) (by omega) er eq hu hw au aw h35 as hr s0 s8) (by decide) (by decide) (by decide) (Nat.le_of_ble_eq_true rfl) kNP (kIP (fun y yf ya yb => ?_))
  obtain ⟨yc, yd, yk⟩ := yf
  obtain ⟨f0, g0, q0, r0, t0⟩ := id hTa
  refine di_if_ge rfl rfl (by omega) (by omega) (fun c => ?_) (fun c => ?_)
  · have hq : (0 ≤ y ∧ y < cv us a1) ∧ cv u y = a2 := by
      rcases yk with ⟨e, -⟩ | ⟨e1, e2, e3⟩
      · omega
      · exact ⟨⟨e1, e2⟩, e3⟩
    have hk := rk_ex hTa hr hq.1.1 hq.1.2
    rw [hq.2] at hk
    refine di_aload_n rfl rfl ?_
    refine dr_iload_n rfl rfl ?_
    refine dr_virt rfl rfl rfl rfl c26 (n_X8_row l hl hI hM (a1 := a1) (by omega) (by omega) er eq hu hw au aw h35 as hr s0 s8 hT) (by decide) (by decide) (by decide) (Nat.le_of_ble_eq_true rfl) kAN (kRW (fun h1 hA1 b n v hp hb hc ha => ?_))
    have hp : rwQ (σ.1 a1) n v := hp
    have n8 := hp.1.2
    have hI1 := App_Inv hA1 hI
    refine dr_stat rfl rfl rfl rfl (s_X8_roomsOf_f l hl hI1 (b0 := b) (n0 := n) (v0 := v) hc ha n8 hp.2.1) (by decide) (by decide) (by decide) (Nat.le_of_ble_eq_true rfl) kAN (kRW (fun h2 hA2 b2 n2 v2 hqq hb2 hc2 ha2 => ?_))
    have hX := rmQ_X hp hqq
    obtain ⟨rfl, hR, h8⟩ := hqq
    have hA := App_tr hA1 hA2
    have hI2 := App_Inv hA hI
    have hM2 := MSt_Ap hM hI hA
    have zs : (n2 : Int) = cv us a1 := hp.1.1.trans (zF_eq hr)
    refine di_aload_n rfl rfl ?_
    refine dr_iload_n rfl rfl ?_
    refine dr_iload_n rfl rfl ?_
    refine dr_virt rfl rfl rfl rfl (App_at hA c26) (n_X8_rankOf l hl hI2 hM2 (a1 := a1) (by omega) (by omega) (a2 := a2) (by omega) (by omega) er eq (App_at hA hu) (App_at hA hw) au aw (App_at hA h35) as hr s0 s8) (by decide) (by decide) (by decide) (Nat.le_of_ble_eq_true rfl) kNP (kIP (fun z zf za zb => ?_))
    obtain ⟨zc, zd, zk⟩ := zf
    rw [← zk] at hk
    refine di_iald rfl hc2 ha2 (by omega) (by omega) (fun x xf xa xb xv => ?_)
    have xw : cv v2 z = x := cv_eq xv xa xb
    exact dr_iret (ty := .int) rfl rfl rfl (by decide) (by decide) ⟨hA, x, by rw [← xw]; exact roomOf_y r0 t0 (by have := Rep_sz hr r0; omega) hX hk.1.1 (by rw [← hp.1.1]; omega) hk.2, by omega, by omega, rfl⟩
  · refine di_const rfl ?_
    refine dr_goto rfl rfl ?_
    have hn : σ.1 a1 a2 = -1 := by
      rcases yk with ⟨-, e⟩ | ⟨e1, -⟩
      · exact e
      · omega
    exact dr_iret (ty := .int) rfl rfl rfl (by decide) (by decide) ⟨App_rf, -1, roomOf_n r0 t0 hn, by omega, by omega, rfl⟩
set_option maxHeartbeats 4000000 in
set_option maxRecDepth 100000 in
/-- EarlyendsModel.rooms -/
theorem n_X8_rooms (l : Launch) (hl : l.stackTraces = false) {kc km : Int} {h : dm_H} (hI : Inv kc km h) {th : Int} {σ : St} (hM : MSt km th σ h) {a1 : Int} (h1a : -2147483648 ≤ a1) (h1b : a1 ≤ 2147483647) (hT : sSt σ) : dm_M l 206 8 2 32 [.ref 26, dI (a1)] h (QMA kc km h (spRooms σ a1)) := by
  obtain ⟨⟨ni, c26, ni0, ni1⟩, ⟨⟨R1, R2⟩, ⟨R3, R4⟩, ⟨R5, R6⟩, ⟨R7, R8⟩, ⟨R9, R10⟩, ⟨R11, R12⟩, R13⟩, ⟨th0, th1⟩, -⟩ := id hM
  have R14 : σ.2.2.2.2.2.1 = -1 ∨ (0 ≤ σ.2.2.2.2.2.1 ∧ σ.2.2.2.2.2.1 ≤ 9999 ∧ σ.2.2.2.2.2.1 % 100 ≤ σ.2.2.2.2.2.1 / 100) := R13
  refine dm_M_of dk_206 hl rfl (Nat.le_of_ble_eq_true rfl) ?_
  show dm_W (fun _ _ _ => True) (dm_P (QMA kc km h (spRooms σ a1)) 2 32) l 206 8 2 32 0 [some (.ref 26), some (dI (a1))] [] h 0 0
  refine di_aload_n rfl rfl ?_
  refine dr_iload_n rfl rfl ?_
  refine dr_stat rfl rfl rfl rfl (f_X8_isNoBook l hl hI (a0 := a1) (by omega) (by omega)) (by decide) (by decide) (by decide) (Nat.le_of_ble_eq_true rfl) kNP (kIP (fun y1 y1f y1a y1b => ?_))
  have y1g : 0 ≤ y1 ∧ y1 ≤ 1 ∧ (y1 = 0 → 0 ≤ a1 ∧ a1 ≤ 2) ∧ (y1 = 1 → a1 < 0 ∨ 2 < a1) := y1f
  clear y1f
  refine di_const rfl ?_
  rcases (by omega : y1 = 0 ∨ y1 = 1) with ey2 | ey2
  · skip
    rw [ey2]
    refine dr_virt rfl rfl rfl rfl c26 (f_X8_start0 l hl hI hM (a2 := 1) (by omega) (by omega)) (by decide) (by decide) (by decide) (Nat.le_of_ble_eq_true rfl) kNQN (kNQ (fun h3 hI4 hF5 hM6 => ?_))
    have hF7 := FrM_tr FrM_rf hF5
    refine di_if_eq rfl rfl (by omega) (by omega) (fun _ => ?_) (fun c9 => by exfalso; omega)
    refine di_aload_n rfl rfl ?_
    refine dr_iload_n rfl rfl ?_
    obtain ⟨r8, q10, u11, w12, us13, er14, eq15, hu16, hw17, au18, aw19, hs20, as21, hr22, sa23, sb24⟩ := MSt_bk hM6 (k := a1) (by omega) (by omega)
    have hz25 : zF (σ.1 a1) = cv us13 a1 := zF_eq hr22
    have mr26 : isCR r8 := isCR_of er14 (by omega) (by omega)
    have mq27 : isNR q10 := isNR_of eq15 (by omega) (by omega)
    obtain ⟨⟨ni28, ni28c, ni28a, ni28b⟩, -⟩ := id hM6
    refine dr_virt rfl rfl rfl rfl ni28c (n_X8_roomCount l hl hI4 hM6 (a1 := a1) (by omega) (by omega) er14 eq15 hu16 hw17 au18 aw19 hs20 as21 hr22 sa23 sb24 hT) (by decide) (by decide) (by decide) (Nat.le_of_ble_eq_true rfl) kAN (kAI (fun y29 h30 hA31 y29f y29a y29b => ?_))
    obtain ⟨⟨y29c, y29d⟩, y29k⟩ := y29f
    have hI32 := App_Inv hA31 hI4
    have hM33 := MSt_Ap hM6 hI4 hA31
    have hN34 := FrN_tr (FrM_N hF7) (App_N hA31)
    have hc35 := App_at hA31 hu16
    have hc36 := App_at hA31 hw17
    have hc37 := App_at hA31 hs20
    have hc38 := App_at hA31 ni28c
    have hc39 := App_at hA31 hu16
    have hc40 := App_at hA31 hw17
    have hc41 := App_at hA31 hs20
    have e9 : anRooms (σ.1 a1) = y29 := y29k
    exact dr_iret (ty := .int) rfl rfl rfl (by decide) (by decide) (QMA_ok hI32 hN34 hM33 (by omega) (by omega) (by unfold spRooms; (try rw [e9]); (repeat' split) <;> first | rfl | (exfalso; omega) | (apply Prod.ext <;> first | rfl | (dsimp only; omega) | (apply Prod.ext <;> first | rfl | (dsimp only; omega)))))
  · skip
    rw [ey2]
    refine dr_virt rfl rfl rfl rfl c26 (f_X8_start1 l hl hI hM (a2 := 1) (by omega) (by omega)) (by decide) (by decide) (by decide) (Nat.le_of_ble_eq_true rfl) kNQN (kNQ (fun h42 hI43 hF44 hM45 => ?_))
    have hF46 := FrM_tr FrM_rf hF44
    refine di_if_eq rfl rfl (by omega) (by omega) (fun c9 => by exfalso; omega) (fun _ => ?_)
    refine di_const rfl ?_
    exact dr_iret (ty := .int) rfl rfl rfl (by decide) (by decide) (QMA_no (x := 0) hI43 (FrM_N hF46) hM45 (by omega) (by omega) (by omega) (by unfold spRooms; (repeat' split) <;> first | rfl | (exfalso; omega) | (apply Prod.ext <;> first | rfl | (dsimp only; omega) | (apply Prod.ext <;> first | rfl | (dsimp only; omega)))))
set_option maxHeartbeats 4000000 in
set_option maxRecDepth 100000 in
/-- EarlyendsModel.roomOf -/
theorem n_X8_roomOf (l : Launch) (hl : l.stackTraces = false) {kc km : Int} {h : dm_H} (hI : Inv kc km h) {th : Int} {σ : St} (hM : MSt km th σ h) {a1 : Int} (h1a : -2147483648 ≤ a1) (h1b : a1 ≤ 2147483647) {a2 : Int} (h2a : -2147483648 ≤ a2) (h2b : a2 ≤ 2147483647) {a3 : Int} (h3a : -2147483648 ≤ a3) (h3b : a3 ≤ 2147483647) (hT : sSt σ) : dm_M l 208 8 2 32 [.ref 26, dI (a1), dI (a2), dI (a3)] h (QMA kc km h (spRoomOf σ a1 a2 a3)) := by
  obtain ⟨⟨ni, c26, ni0, ni1⟩, ⟨⟨R1, R2⟩, ⟨R3, R4⟩, ⟨R5, R6⟩, ⟨R7, R8⟩, ⟨R9, R10⟩, ⟨R11, R12⟩, R13⟩, ⟨th0, th1⟩, -⟩ := id hM
  have R14 : σ.2.2.2.2.2.1 = -1 ∨ (0 ≤ σ.2.2.2.2.2.1 ∧ σ.2.2.2.2.2.1 ≤ 9999 ∧ σ.2.2.2.2.2.1 % 100 ≤ σ.2.2.2.2.2.1 / 100) := R13
  refine dm_M_of dk_208 hl rfl (Nat.le_of_ble_eq_true rfl) ?_
  show dm_W (fun _ _ _ => True) (dm_P (QMA kc km h (spRoomOf σ a1 a2 a3)) 2 32) l 208 8 2 32 0 [some (.ref 26), some (dI (a1)), some (dI (a2)), some (dI (a3))] [] h 0 0
  refine di_aload_n rfl rfl ?_
  refine dr_iload_n rfl rfl ?_
  refine dr_stat rfl rfl rfl rfl (f_X8_isNoBook l hl hI (a0 := a1) (by omega) (by omega)) (by decide) (by decide) (by decide) (Nat.le_of_ble_eq_true rfl) kNP (kIP (fun y1 y1f y1a y1b => ?_))
  have y1g : 0 ≤ y1 ∧ y1 ≤ 1 ∧ (y1 = 0 → 0 ≤ a1 ∧ a1 ≤ 2) ∧ (y1 = 1 → a1 < 0 ∨ 2 < a1) := y1f
  clear y1f
  refine di_const rfl ?_
  rcases (by omega : y1 = 0 ∨ y1 = 1) with ey2 | ey2
  · skip
    rw [ey2]
    refine dr_virt rfl rfl rfl rfl c26 (f_X8_start0 l hl hI hM (a2 := 1) (by omega) (by omega)) (by decide) (by decide) (by decide) (Nat.le_of_ble_eq_true rfl) kNQN (kNQ (fun h3 hI4 hF5 hM6 => ?_))
    have hF7 := FrM_tr FrM_rf hF5
    refine di_if_ne rfl rfl (by omega) (by omega) (fun c9 => by exfalso; omega) (fun _ => ?_)
    refine di_aload_n rfl rfl ?_
    refine dr_iload_n rfl rfl ?_
    refine dr_iload_n rfl rfl ?_
    refine dr_stat rfl rfl rfl rfl (f_X8_isNoSpan l hl hI4 (a0 := a2) (by omega) (by omega) (a1 := a3) (by omega) (by omega)) (by decide) (by decide) (by decide) (Nat.le_of_ble_eq_true rfl) kNP (kIP (fun y8 y8f y8a y8b => ?_))
    have y8g : 0 ≤ y8 ∧ y8 ≤ 1 ∧ (y8 = 0 → 0 ≤ a2 ∧ a2 ≤ a3 ∧ a3 ≤ 99) ∧ (y8 = 1 → a2 < 0 ∨ a3 < a2 ∨ 99 < a3) := y8f
    clear y8f
    refine di_const rfl ?_
    obtain ⟨⟨ni10, ni10c, ni10a, ni10b⟩, -⟩ := id hM6
    rcases (by omega : y8 = 0 ∨ y8 = 1) with ey11 | ey11
    · skip
      rw [ey11]
      refine dr_virt rfl rfl rfl rfl ni10c (f_X8_refuse0 l hl hI4 hM6 (a2 := 2) (by omega) (by omega)) (by decide) (by decide) (by decide) (Nat.le_of_ble_eq_true rfl) kNQN (kNQ (fun h12 hI13 hF14 hM15 => ?_))
      have hF16 := FrM_tr hF7 hF14
      refine di_if_eq rfl rfl (by omega) (by omega) (fun _ => ?_) (fun c9 => by exfalso; omega)
      refine di_aload_n rfl rfl ?_
      refine dr_iload_n rfl rfl ?_
      refine di_bipush rfl (by decide) ?_
      refine dr_iload_n rfl rfl ?_
      refine di_imul rfl ?_
      refine dr_iload_n rfl rfl ?_
      refine di_iadd rfl ?_
      obtain ⟨r17, q18, u19, w20, us21, er22, eq23, hu24, hw25, au26, aw27, hs28, as29, hr30, sa31, sb32⟩ := MSt_bk hM15 (k := a1) (by omega) (by omega)
      have hz33 : zF (σ.1 a1) = cv us21 a1 := zF_eq hr30
      have mr34 : isCR r17 := isCR_of er22 (by omega) (by omega)
      have mq35 : isNR q18 := isNR_of eq23 (by omega) (by omega)
      obtain ⟨⟨ni36, ni36c, ni36a, ni36b⟩, -⟩ := id hM15
      refine dr_virt rfl rfl rfl rfl ni36c (n_X8_roomAt l hl hI13 hM15 (a1 := a1) (by omega) (by omega) (a2 := ((100 * a3) + a2)) (by omega) (by omega) er22 eq23 hu24 hw25 au26 aw27 hs28 as29 hr30 sa31 sb32 hT) (by decide) (by decide) (by decide) (Nat.le_of_ble_eq_true rfl) kAN (kAI (fun y37 h38 hA39 y37f y37a y37b => ?_))
      have y37k := y37f
      have y37k : anRoomOf (σ.1 a1) ((100 * a3) + a2) = y37 := y37k
      have hI40 := App_Inv hA39 hI13
      have hM41 := MSt_Ap hM15 hI13 hA39
      have hN42 := FrN_tr (FrM_N hF16) (App_N hA39)
      have hc43 := App_at hA39 hu24
      have hc44 := App_at hA39 hw25
      have hc45 := App_at hA39 hs28
      have hc46 := App_at hA39 ni36c
      have hc47 := App_at hA39 hu24
      have hc48 := App_at hA39 hw25
      have hc49 := App_at hA39 hs28
      have e9 : anRoomOf (σ.1 a1) (100 * a3 + a2) = y37 := y37k
      exact dr_iret (ty := .int) rfl rfl rfl (by decide) (by decide) (QMA_ok hI40 hN42 hM41 (by omega) (by omega) (by unfold spRoomOf; (try rw [e9]); (repeat' split) <;> first | rfl | (exfalso; omega) | (apply Prod.ext <;> first | rfl | (dsimp only; omega) | (apply Prod.ext <;> first | rfl | (dsimp only; omega)))))
    · skip
      rw [ey11]
      refine dr_virt rfl rfl rfl rfl ni10c (f_X8_refuse1 l hl hI4 hM6 (a2 := 2) (by omega) (by omega)) (by decide) (by decide) (by decide) (Nat.le_of_ble_eq_true rfl) kNQN (kNQ (fun h50 hI51 hF52 hM53 => ?_))
      have hF54 := FrM_tr hF7 hF52
      refine di_if_eq rfl rfl (by omega) (by omega) (fun c9 => by exfalso; omega) (fun _ => ?_)
      refine di_const rfl ?_
      exact dr_iret (ty := .int) rfl rfl rfl (by decide) (by decide) (QMA_no (x := 0) hI51 (FrM_N hF54) hM53 (by omega) (by omega) (by omega) (by unfold spRoomOf; (repeat' split) <;> first | rfl | (exfalso; omega) | (apply Prod.ext <;> first | rfl | (dsimp only; omega) | (apply Prod.ext <;> first | rfl | (dsimp only; omega)))))
  · skip
    rw [ey2]
    refine dr_virt rfl rfl rfl rfl c26 (f_X8_start1 l hl hI hM (a2 := 1) (by omega) (by omega)) (by decide) (by decide) (by decide) (Nat.le_of_ble_eq_true rfl) kNQN (kNQ (fun h55 hI56 hF57 hM58 => ?_))
    have hF59 := FrM_tr FrM_rf hF57
    refine di_if_ne rfl rfl (by omega) (by omega) (fun _ => ?_) (fun c9 => by exfalso; omega)
    refine di_const rfl ?_
    exact dr_iret (ty := .int) rfl rfl rfl (by decide) (by decide) (QMA_no (x := 0) hI56 (FrM_N hF59) hM58 (by omega) (by omega) (by omega) (by unfold spRoomOf; (repeat' split) <;> first | rfl | (exfalso; omega) | (apply Prod.ext <;> first | rfl | (dsimp only; omega) | (apply Prod.ext <;> first | rfl | (dsimp only; omega)))))
/-! ===== what is true of spans in sequence ===== -/
section SP
variable {f g F : Int → Int} {s A r i j k p n : Int} {P : Int → Bool}
def okf (f : Int → Int) (s : Int) : Prop := ∀ j : Int, 0 ≤ j → j < s → f j % 100 ≤ f j / 100
theorem to_mo (ht : Srt f s) (i0 : 0 ≤ i) (ij : i ≤ j) (js : j < s) : f i / 100 ≤ f j / 100 := by
  by_cases e : i = j
  · rw [e]; exact Int.le_refl _
  · have := ht i j i0 (by omega) js; omega
theorem bb_mo (h0 : 0 ≤ i) : ∀ m : Nat, bb A i ≤ bb A (i + m)
  | 0 => by rw [show i + ((0 : Nat) : Int) = i by omega]; exact Int.le_refl _
  | m + 1 => by
    have ih := bb_mo h0 m
    rw [show i + ((m + 1 : Nat) : Int) = (i + m) + 1 by omega]
    rcases bb_s (S := A) (r := i + m) (by omega) with ⟨e, -⟩ | ⟨e, -⟩ <;> omega
theorem bb_ml (h0 : 0 ≤ i) (h : i ≤ j) : bb A i ≤ bb A j := by
  have := bb_mo (A := A) h0 (j - i).toNat
  rw [show i + ((j - i).toNat : Int) = j by omega] at this
  exact this
theorem bb_in (h0 : 0 ≤ i) (hA : hbt A i) (h : i < j) : bb A i + 1 ≤ bb A j := by
  have := bb_ml (A := A) (i := i + 1) (j := j) (by omega) (by omega)
  rcases bb_s (S := A) (r := i) h0 with ⟨e, -⟩ | ⟨-, e⟩
  · omega
  · exact absurd hA e
theorem bb_pv : ∀ m : Nat, 0 < bb A (m : Int) → ∃ k : Int, 0 ≤ k ∧ k < m ∧ hbt A k ∧ bb A k + 1 = bb A (m : Int)
  | 0, h => by
    have e : bb A ((0 : Nat) : Int) = 0 := rfl
    omega
  | m + 1, h => by
    rw [show ((m + 1 : Nat) : Int) = (m : Int) + 1 by omega] at h ⊢
    rcases bb_s (S := A) (r := (m : Int)) (by omega) with ⟨e, hA⟩ | ⟨e, -⟩
    · exact ⟨m, by omega, by omega, hA, e.symm⟩
    · rw [e] at h
      obtain ⟨k, k0, k1, k2, k3⟩ := bb_pv m h
      exact ⟨k, k0, by omega, k2, by rw [e]; exact k3⟩
/-- the first one that is so -/
theorem fst_ex : ∀ m : Nat, (∃ j : Int, 0 ≤ j ∧ j < m ∧ P (f j) = true) → ∃ j : Int, 0 ≤ j ∧ j < m ∧ P (f j) = true ∧ ∀ i : Int, 0 ≤ i → i < j → P (f i) = false
  | 0, ⟨j, j0, j1, _⟩ => by omega
  | m + 1, ⟨j, j0, j1, hj⟩ => by
    by_cases he : ∃ j : Int, 0 ≤ j ∧ j < m ∧ P (f j) = true
    · obtain ⟨k, k0, k1, k2, k3⟩ := fst_ex m he
      exact ⟨k, k0, by omega, k2, k3⟩
    · refine ⟨j, j0, j1, hj, fun i i0 i1 => ?_⟩
      rcases hb : P (f i) with _ | _
      · rfl
      · exact absurd ⟨i, i0, by omega, hb⟩ he
theorem lst_at (hr : Rep f g s F) (ht : Srt f s) (r0 : 0 ≤ r) (r1 : r < s) (hp : P (f r) = true) : ∃ j : Int, 0 ≤ j ∧ j ≤ r ∧ lst F P = f j ∧ P (f j) = true := by
  obtain ⟨j, j0, j1, j2, j3⟩ := fst_ex (f := f) (P := P) s.toNat ⟨r, r0, by omega, hp⟩
  have jr : j ≤ r := Classical.byContradiction fun h => by
    have := j3 r r0 (by omega)
    rw [hp] at this; cases this
  refine ⟨j, j0, jr, lst_eq ⟨(Rep_yes hr j0 (by omega) rfl).2.1, j2, fun c hc hpc => ?_⟩, j2⟩
  obtain ⟨i, i0, i1, rfl⟩ := Rep_ex hr hc
  by_cases q : i < j
  · have := j3 i i0 q
    rw [hpc] at this; cases this
  · by_cases q2 : i = j
    · rw [q2]; exact Int.le_refl _
    · have := ht j i j0 (by omega) i1; omega
/-- the chain is the earliest: a set that lies apart is not longer, and ends nowhere sooner -/
theorem ch_ea (hr : Rep f g s F) (ht : Srt f s) (hok : okf f s) (ha : apt f s A) : ∀ (m : Nat) (r : Int), 0 ≤ r → r < m → r < s → hbt A r → moP F (bb A r).toNat ∧ chn F (bb A r).toNat ≠ -1 ∧ chn F (bb A r).toNat / 100 ≤ f r / 100
  | 0, r, r0, rm, _, _ => by omega
  | m + 1, r, r0, rm, r1, hA => by
    have b0 := bb_nn A r
    by_cases hz : bb A r = 0
    · rw [hz]
      obtain ⟨j, j0, j1, j2, j3⟩ := lst_at hr ht (P := frP (-1)) r0 r1 (frP_t (by have := (Rep_at hr r0 r1).1; omega))
      refine ⟨fun q hq => absurd hq (Nat.not_lt_zero _), ?_⟩
      show lst F (frP (-1)) ≠ -1 ∧ lst F (frP (-1)) / 100 ≤ f r / 100
      rw [j2]
      have := (Rep_at hr j0 (by omega)).1
      exact ⟨by omega, to_mo ht j0 j1 r1⟩
    · obtain ⟨k, k0, k1, k2, k3⟩ := bb_pv (A := A) r.toNat (by rw [show (r.toNat : Int) = r by omega]; omega)
      rw [show (r.toNat : Int) = r by omega] at k1 k3
      obtain ⟨h1, h2, h3⟩ := ch_ea hr ht hok ha m k k0 (by omega) (by omega) k2
      have hn := ha r k r0 r1 k0 (by omega) hA k2 (by omega)
      have hm := to_mo ht k0 (Int.le_of_lt k1) r1
      have hk := hok k k0 (by omega)
      have hrr := hok r r0 r1
      have kb := bb_nn A k
      have e : (bb A r).toNat = (bb A k).toNat + 1 := by omega
      rw [e]
      have hmo : moP F ((bb A k).toNat + 1) := fun q hq => by
        by_cases c : q < (bb A k).toNat
        · exact h1 q c
        · rw [show q = (bb A k).toNat by omega]; exact h2
      refine ⟨hmo, ?_⟩
      rw [chn_e _ hmo]
      show lst F (frP (chn F (bb A k).toNat / 100)) ≠ -1 ∧ lst F (frP (chn F (bb A k).toNat / 100)) / 100 ≤ f r / 100
      obtain ⟨j, j0, j1, j2, j3⟩ := lst_at hr ht (P := frP (chn F (bb A k).toNat / 100)) r0 r1 (frP_t (by omega))
      rw [j2]
      have := (Rep_at hr j0 (by omega)).1
      exact ⟨by omega, to_mo ht j0 j1 r1⟩
theorem mo_le {m : Nat} {q : Nat} (h : chn F m = -1) (hq : moP F q) (hq2 : chn F q ≠ -1) : q < m := Classical.byContradiction fun hn => by
  have := chn_d h (q - m)
  rw [show m + (q - m) = q by omega] at this
  exact hq2 this
end SP
/-! ===== held, meeting, rooms ===== -/
section SQ
variable {f g F v : Int → Int} {s A r i j k p n m : Int} {P : Int → Bool}
theorem chn_at (hr : Rep f g s F) {q : Nat} (hm : moP F q) (hn : chn F q ≠ -1) : ∃ c : Int, (0 ≤ c ∧ c < s) ∧ chn F q = f c ∧ eN F q < f c % 100 := by
  rw [chn_e _ hm] at hn ⊢
  rcases lst_d (P := frP (eN F q)) hr with ⟨e, -⟩ | ⟨-, e1, e2⟩
  · exact absurd e hn
  · obtain ⟨c, c0, c1, ec⟩ := Rep_ex hr e1
    refine ⟨c, ⟨c0, c1⟩, ec.symm, ?_⟩
    rw [ec]
    exact of_decide_eq_true e2
/-- a set that holds all is not smaller than the chain is long -/
theorem he_ge (hr : Rep f g s F) (ht : Srt f s) (h : ∀ r : Int, 0 ≤ r → r < s → heQ f s A r) : ∀ q : Nat, moP F (q + 1) → ∃ k : Int, (0 ≤ k ∧ k < s) ∧ hbt A k ∧ f k / 100 ≤ chn F q / 100 ∧ (q : Int) ≤ bb A k
  | 0, hm => by
    obtain ⟨c, ⟨c0, c1⟩, ec, -⟩ := chn_at hr (q := 0) (fun j hj => absurd hj (Nat.not_lt_zero _)) (hm 0 (by omega))
    obtain ⟨k, k0, k1, k2, k3, k4⟩ := h c c0 c1
    exact ⟨k, ⟨k0, k1⟩, k2, by rw [ec]; exact k4, bb_nn A k⟩
  | q + 1, hm => by
    obtain ⟨k, ⟨k0, k1⟩, k2, k3, k4⟩ := he_ge hr ht h q (fun j hj => hm j (by omega))
    obtain ⟨c, ⟨c0, c1⟩, ec, el⟩ := chn_at hr (q := q + 1) (fun j hj => hm j (by omega)) (hm (q + 1) (by omega))
    obtain ⟨k', a0, a1, a2, a3, a4⟩ := h c c0 c1
    have el : chn F q / 100 < f c % 100 := el
    have hlt : k < k' := Classical.byContradiction fun hn => by
      have := to_mo ht a0 (show k' ≤ k by omega) k1
      omega
    have := bb_in (A := A) k0 k2 hlt
    exact ⟨k', ⟨a0, a1⟩, a2, by rw [ec]; exact a4, by omega⟩
theorem he_m (hr : Rep f g s F) (ht : Srt f s) (s8 : s ≤ 8) (h : ∀ r : Int, 0 ≤ r → r < s → heQ f s A r) (m0 : 0 ≤ m) (hm : moP F m.toNat) : m ≤ bb A 8 := by
  by_cases hz : m = 0
  · rw [hz]; exact bb_nn A 8
  · obtain ⟨k, ⟨k0, k1⟩, k2, -, k4⟩ := he_ge hr ht h (m.toNat - 1) (by rw [show m.toNat - 1 + 1 = m.toNat by omega]; exact hm)
    have := bb_in (A := A) (j := 8) k0 k2 (by omega)
    omega
/-- each span is held by the to of a chosen one -/
theorem ch_ho (hr : Rep f g s F) (ht : Srt f s) (hok : okf f s) (r0 : 0 ≤ r) (r1 : r < s) : ∀ (n q : Nat), (f r / 100 - chn F q / 100).toNat < n → moP F (q + 1) → chn F q / 100 ≤ f r / 100 → ∃ q2 : Nat, moP F (q2 + 1) ∧ f r % 100 ≤ chn F q2 / 100 ∧ chn F q2 / 100 ≤ f r / 100
  | 0, q, hn, _, _ => absurd hn (Nat.not_lt_zero _)
  | n + 1, q, hn, hm, hl => by
    by_cases c : f r % 100 ≤ chn F q / 100
    · exact ⟨q, hm, c, hl⟩
    · obtain ⟨j, j0, j1, j2, j3⟩ := lst_at hr ht (P := frP (chn F q / 100)) r0 r1 (frP_t (by omega))
      have e : chn F (q + 1) = f j := (chn_e (q + 1) hm).trans j2
      have j3 := of_decide_eq_true j3
      have hj := hok j j0 (by omega)
      have hm2 := to_mo ht j0 j1 r1
      have h9 := (Rep_at hr j0 (by omega)).1
      refine ch_ho hr ht hok r0 r1 n (q + 1) (by rw [e]; omega) (fun i hi => ?_) (by rw [e]; exact hm2)
      by_cases d : i < q + 1
      · exact hm i d
      · rw [show i = q + 1 by omega, e]; omega
theorem ch_hl (hr : Rep f g s F) (ht : Srt f s) (hok : okf f s) (r0 : 0 ≤ r) (r1 : r < s) : ∃ q : Nat, moP F (q + 1) ∧ f r % 100 ≤ chn F q / 100 ∧ chn F q / 100 ≤ f r / 100 := by
  obtain ⟨j, j0, j1, j2, j3⟩ := lst_at hr ht (P := frP (-1)) r0 r1 (frP_t (by have := (Rep_at hr r0 r1).1; omega))
  have e : chn F 0 = f j := j2
  have h9 := (Rep_at hr j0 (by omega)).1
  exact ch_ho hr ht hok r0 r1 _ 0 (Nat.lt_succ_self _) (fun i hi => by rw [show i = 0 by omega, e]; omega) (by rw [e]; exact to_mo ht j0 j1 r1)
/-- of those that are so one has the greatest from -/
theorem mxQ {Q : Int → Prop} : ∀ n : Nat, (∃ j : Int, 0 ≤ j ∧ j < n ∧ Q j) → ∃ j : Int, 0 ≤ j ∧ j < n ∧ Q j ∧ ∀ i : Int, 0 ≤ i → i < n → Q i → f i % 100 ≤ f j % 100
  | 0, ⟨j, j0, j1, _⟩ => by omega
  | n + 1, ⟨j, j0, j1, h⟩ => by
    by_cases hn : Q (n : Int)
    · by_cases he : ∃ j : Int, 0 ≤ j ∧ j < n ∧ Q j
      · obtain ⟨k, k0, k1, k2, k3⟩ := mxQ n he
        by_cases hc : f k % 100 ≤ f (n : Int) % 100
        · refine ⟨n, by omega, by omega, hn, fun i i0 i1 hi => ?_⟩
          by_cases e : i = n
          · rw [e]; exact Int.le_refl _
          · have := k3 i i0 (by omega) hi; omega
        · refine ⟨k, k0, by omega, k2, fun i i0 i1 hi => ?_⟩
          by_cases e : i = n
          · rw [e]; omega
          · exact k3 i i0 (by omega) hi
      · refine ⟨n, by omega, by omega, hn, fun i i0 i1 hi => ?_⟩
        by_cases e : i = n
        · rw [e]; exact Int.le_refl _
        · exact absurd ⟨i, i0, by omega, hi⟩ he
    · have hne : j ≠ n := fun e => hn (e ▸ h)
      obtain ⟨k, k0, k1, k2, k3⟩ := mxQ n ⟨j, j0, by omega, h⟩
      refine ⟨k, k0, by omega, k2, fun i i0 i1 hi => ?_⟩
      by_cases e : i = n
      · rw [e] at hi; exact absurd hi hn
      · exact k3 i i0 (by omega) hi
theorem cnt_cp : ∀ n : Nat, cnt (fun j => j) (fun j => P (f j)) n = cnt f P n
  | 0 => rfl
  | n + 1 => by
    show cnt (fun j => j) (fun j => P (f j)) n + (if P (f (n : Int)) then 1 else 0) = cnt f P n + (if P (f (n : Int)) then 1 else 0)
    rw [cnt_cp n]
/-- spans that meet each other share a place -/
theorem he_lly (s0 : 0 ≤ s) (s8 : s ≤ 8) (hok : okf f s) (hS : hsP A s (hbt A)) (hm : ∀ r k : Int, 0 ≤ r → r < s → 0 ≤ k → k < s → hbt A r → hbt A k → mt f k r) : bb A 8 = 0 ∨ ∃ p : Int, (∃ j : Int, 0 ≤ j ∧ j < s ∧ p = f j % 100) ∧ bb A 8 ≤ cnt f (hoP p) s.toNat := by
  have e := bb_cnt (f := fun j => j) (P := fun r => @decide (hbt A r) (Classical.propDecidable _)) hS s0 s8 (fun r => @decide_eq_true_iff _ (Classical.propDecidable _))
  by_cases he : ∃ j : Int, 0 ≤ j ∧ j < s.toNat ∧ hbt A j
  · obtain ⟨j, j0, j1, j2, j3⟩ := mxQ (f := f) s.toNat he
    refine Or.inr ⟨f j % 100, ⟨j, j0, by omega, rfl⟩, ?_⟩
    rw [e, ← cnt_cp (f := f) (P := hoP (f j % 100)) s.toNat]
    refine cnt_pm s.toNat (fun i i0 i1 hi => ?_)
    have hi := @of_decide_eq_true _ (Classical.propDecidable _) hi
    have h1 := hm j i j0 (by omega) i0 (by omega) j2 hi
    exact hoP_t ⟨j3 i i0 i1 hi, h1.2⟩
  · refine Or.inl ?_
    rw [e]
    exact cnt_no s.toNat (fun i i0 i1 => @decide_eq_false _ (Classical.propDecidable _) (fun hi => he ⟨i, i0, i1, hi⟩))
/-- rooms -/
theorem mt_sy (h : mt f k r) : mt f r k := ⟨h.2, h.1⟩
theorem rm_pr (h : RM f s v) (r0 : 0 ≤ r) (r1 : r < s) (k0 : 0 ≤ k) (k1 : k < s) (ne : r ≠ k) (e : v r = v k) : ¬ mt f k r := fun hm => by
  rcases Int.lt_trichotomy (f k % 100) (f r % 100) with c | c | c
  · exact (h r r0 r1).2.1 k k0 k1 (Or.inl c) e.symm hm
  · rcases Int.lt_or_gt_of_ne ne with d | d
    · exact (h k k0 k1).2.1 r r0 r1 (Or.inr ⟨c.symm, d⟩) e (mt_sy hm)
    · exact (h r r0 r1).2.1 k k0 k1 (Or.inr ⟨c, d⟩) e.symm hm
  · exact (h k k0 k1).2.1 r r0 r1 (Or.inl c) e (mt_sy hm)
theorem rm_le (s0 : 0 ≤ s) (hok : okf f s) (h : RM f s v) (hm : mxR v s m) : m = 0 ∨ ∃ j : Int, (0 ≤ j ∧ j < s) ∧ m ≤ cnt f (hoP (f j % 100)) s.toNat := by
  rcases hm.2 with e | ⟨r, ⟨r0, r1⟩, p0, p1⟩
  · exact Or.inl e
  · refine Or.inr ⟨r, ⟨r0, r1⟩, ?_⟩
    obtain ⟨a, a1, a2, a3⟩ := cnt_pick f (hoP (f r % 100)) s.toNat
    have hb := (cnt_b f (hoP (f r % 100)) s.toNat).1
    have hrr := hok r r0 r1
    have cov : ∀ q : Int, 0 ≤ q → q < m → ∃ k : Int, (0 ≤ k ∧ k < s) ∧ hoP (f r % 100) (f k) = true ∧ v k = q := fun q q0 q1 => by
      by_cases c : q = v r
      · exact ⟨r, ⟨r0, r1⟩, hoP_t ⟨Int.le_refl _, hrr⟩, c.symm⟩
      · obtain ⟨k, ⟨k0, k1⟩, kb, kq, km⟩ := (h r r0 r1).2.2 q q0 (by omega)
        refine ⟨k, ⟨k0, k1⟩, hoP_t ⟨?_, km.2⟩, kq⟩
        rcases kb with kb | kb <;> omega
    have := pig (cnt f (hoP (f r % 100)) s.toNat).toNat (fun i => v (a i)) m (fun q q0 q1 => by
      obtain ⟨k, ⟨k0, k1⟩, kh, kq⟩ := cov q q0 q1
      obtain ⟨i, i0, i1, ei⟩ := a3 k k0 (by omega) kh
      exact ⟨i, i0, by omega, by show v (a i) = q; rw [ei]; exact kq⟩)
    omega
theorem rm_ge (s0 : 0 ≤ s) (h : RM f s v) (hm : mxR v s m) (m0 : 0 ≤ m) : cnt f (hoP p) s.toNat ≤ m := by
  obtain ⟨a, a1, a2, a3⟩ := cnt_pick f (hoP p) s.toNat
  have hb := (cnt_b f (hoP p) s.toNat).1
  have := inj_le m.toNat (cnt f (hoP p) s.toNat).toNat (fun i => v (a i)) (fun j => j) (fun i j hij hj => ?_) (fun j hj => ?_)
  · omega
  · obtain ⟨x0, x1, x2⟩ := a1 i (by omega) (by omega)
    obtain ⟨y0, y1, y2⟩ := a1 j (by omega) (by omega)
    have hlt := a2 i j (by omega) (by omega) (by omega)
    have x2 := of_decide_eq_true x2
    have y2 := of_decide_eq_true y2
    show v (a i) ≠ v (a j)
    intro e
    exact rm_pr h x0 (by omega) y0 (by omega) (by omega) e ⟨by omega, by omega⟩
  · obtain ⟨x0, x1, -⟩ := a1 j (by omega) (by omega)
    have h1 := (h (a j) x0 (by omega)).1
    have h2 := hm.1 (a j) x0 (by omega)
    exact ⟨(v (a j)).toNat, by omega, by show ((v (a j)).toNat : Int) = v (a j); omega⟩
end SQ
/-! ===== stretches that are held ===== -/
def cov (f : Int → Int) (s A a b : Int) : Prop := ∀ q : Int, a ≤ q → q ≤ b → ∃ k : Int, (0 ≤ k ∧ k < s) ∧ hbt A k ∧ f k % 100 ≤ q ∧ q ≤ f k / 100
def covR (f : Int → Int) (A r a o : Int) : Prop := ∀ q : Int, a ≤ q → q ≤ o → ∃ k : Int, (0 ≤ k ∧ k ≤ r) ∧ hbt A k ∧ f k % 100 ≤ q ∧ q ≤ f k / 100
section SR
variable {f g F : Int → Int} {s A a b o r i j k p x : Int} {P : Int → Bool}
theorem las_ex : ∀ m : Nat, (∃ j : Int, 0 ≤ j ∧ j < m ∧ P (f j) = true) → ∃ j : Int, 0 ≤ j ∧ j < m ∧ P (f j) = true ∧ ∀ i : Int, j < i → i < m → P (f i) = false
  | 0, ⟨j, j0, j1, _⟩ => by omega
  | m + 1, ⟨j, j0, j1, hj⟩ => by
    rcases hb : P (f (m : Int)) with _ | _
    · have hne : j ≠ m := fun e => by rw [e, hb] at hj; cases hj
      obtain ⟨k, k0, k1, k2, k3⟩ := las_ex m ⟨j, j0, by omega, hj⟩
      refine ⟨k, k0, by omega, k2, fun i i0 i1 => ?_⟩
      by_cases e : i = m
      · rw [e]; exact hb
      · exact k3 i i0 (by omega)
    · exact ⟨m, by omega, by omega, hb, fun i i0 i1 => by omega⟩
theorem grt_at (hr : Rep f g s F) (ht : Srt f s) (r0 : 0 ≤ r) (r1 : r < s) (hp : P (f r) = true) : ∃ j : Int, r ≤ j ∧ j < s ∧ grt F P = f j ∧ P (f j) = true := by
  obtain ⟨j, j0, j1, j2, j3⟩ := las_ex (f := f) (P := P) s.toNat ⟨r, r0, by omega, hp⟩
  have jr : r ≤ j := Classical.byContradiction fun h => by
    have := j3 r (by omega) (by omega)
    rw [hp] at this; cases this
  refine ⟨j, jr, by omega, grt_eq ⟨(Rep_yes hr j0 (by omega) rfl).2.1, j2, fun c hc hpc => ?_⟩, j2⟩
  obtain ⟨i, i0, i1, rfl⟩ := Rep_ex hr hc
  by_cases q : j < i
  · have := j3 i q (by omega)
    rw [hpc] at this; cases this
  · by_cases q2 : i = j
    · rw [q2]; exact Int.le_refl _
    · have := ht i j i0 (by omega) (by omega); omega
theorem gh_at (hr : Rep f g s F) (ht : Srt f s) (r0 : 0 ≤ r) (r1 : r < s) (hh : f r % 100 ≤ p ∧ p ≤ f r / 100) : ∃ j : Int, r ≤ j ∧ j < s ∧ gh F p = f j ∧ f j % 100 ≤ p ∧ p ≤ f j / 100 := by
  obtain ⟨j, j0, j1, j2, j3⟩ := grt_at hr ht (P := hoP p) r0 r1 (hoP_t hh)
  exact ⟨j, j0, j1, j2, of_decide_eq_true j3⟩
theorem gh_d (hr : Rep f g s F) (h : gh F p ≠ -1) : ∃ j : Int, (0 ≤ j ∧ j < s) ∧ gh F p = f j ∧ f j % 100 ≤ p ∧ p ≤ f j / 100 := by
  rcases grt_d (P := hoP p) hr with ⟨e, -⟩ | ⟨-, e1, e2⟩
  · exact absurd e h
  · obtain ⟨j, j0, j1, ej⟩ := Rep_ex hr e1
    have e2 := of_decide_eq_true e2
    refine ⟨j, ⟨j0, j1⟩, ej.symm, ?_⟩
    rw [ej]; exact e2
theorem pl_up (hr : Rep f g s F) : ∀ n : Nat, lkOK F a b n → a ≤ pl F a n
  | 0, _ => Int.le_refl _
  | n + 1, h => by
    have ih := pl_up hr n (fun j hj => h j (by omega))
    obtain ⟨j, -, e, h1, h2⟩ := gh_d hr (h n (by omega)).2
    show a ≤ gh F (pl F a n) / 100 + 1
    rw [e]; omega
/-- a set that holds a stretch is not smaller than the links are many -/
theorem cv_ge (hr : Rep f g s F) (ht : Srt f s) (hc : cov f s A a b) : ∀ n : Nat, lkOK F a b (n + 1) → ∃ k : Int, (0 ≤ k ∧ k < s) ∧ hbt A k ∧ (f k % 100 ≤ pl F a n ∧ pl F a n ≤ f k / 100) ∧ (n : Int) ≤ bb A k
  | 0, h => by
    obtain ⟨k, hk, hA, hh⟩ := hc a (Int.le_refl _) (h 0 (by omega)).1
    exact ⟨k, hk, hA, hh, bb_nn A k⟩
  | n + 1, h => by
    obtain ⟨k, ⟨k0, k1⟩, hA, hh, hn⟩ := cv_ge hr ht hc n (fun j hj => h j (by omega))
    obtain ⟨j, j0, j1, e, h1, h2⟩ := gh_at hr ht k0 k1 hh
    have hm := to_mo ht k0 j0 j1
    have hp : pl F a (n + 1) = f j / 100 + 1 := by
      show gh F (pl F a n) / 100 + 1 = f j / 100 + 1
      rw [e]
    have ha := pl_up hr (b := b) (n + 1) (fun j hj => h j (by omega))
    obtain ⟨k', ⟨a0, a1⟩, hA', hh'⟩ := hc (pl F a (n + 1)) ha (h (n + 1) (by omega)).1
    have hlt : k < k' := Classical.byContradiction fun hn => by
      have := to_mo ht a0 (show k' ≤ k by omega) k1
      omega
    have := bb_in (A := A) k0 hA hlt
    exact ⟨k', ⟨a0, a1⟩, hA', hh', by omega⟩
theorem cv_m (hr : Rep f g s F) (ht : Srt f s) (s8 : s ≤ 8) (hc : cov f s A a b) (x0 : 0 ≤ x) (h : lkOK F a b x.toNat) : x ≤ bb A 8 := by
  by_cases hz : x = 0
  · rw [hz]; exact bb_nn A 8
  · obtain ⟨k, ⟨k0, k1⟩, k2, -, k4⟩ := cv_ge hr ht hc (x.toNat - 1) (by rw [show x.toNat - 1 + 1 = x.toNat by omega]; exact h)
    have := bb_in (A := A) (j := 8) k0 k2 (by omega)
    omega
theorem cv_no (hr : Rep f g s F) (ht : Srt f s) (h : fnE F a b) : ¬ cov f s A a b := fun hc => by
  obtain ⟨n, h1, h2, h3⟩ := h
  obtain ⟨k, ⟨k0, k1⟩, -, hh⟩ := hc (pl F a n) (pl_up hr n h1) h2
  obtain ⟨j, j0, j1, e, -⟩ := gh_at hr ht k0 k1 hh
  have := (Rep_at hr (j := j) (by omega) j1).1
  omega
theorem pl_fi : ∀ (n : Nat) (q : Int), a ≤ q → q < pl F a n → ∃ i : Nat, i < n ∧ pl F a i ≤ q ∧ q < pl F a (i + 1)
  | 0, q, h0, h1 => by
    have h1 : q < a := h1
    omega
  | n + 1, q, h0, h1 => by
    by_cases c : q < pl F a n
    · obtain ⟨i, i0, i1, i2⟩ := pl_fi n q h0 c
      exact ⟨i, by omega, i1, i2⟩
    · exact ⟨n, by omega, by omega, h1⟩
/-- the links themselves hold it -/
theorem lk_cv (hr : Rep f g s F) (ht : Srt f s) (s8 : s ≤ 8) (x0 : 0 ≤ x) (h : lkOK F a b x.toNat) (hb : b < pl F a x.toNat) : ∃ A : Int, hsP A s (hbt A) ∧ cov f s A a b ∧ bb A 8 ≤ x := by
  have s0 := hr.1.1
  obtain ⟨A, hA⟩ := hs_ex (H := fun r => ∃ i : Nat, i < x.toNat ∧ f r = gh F (pl F a i)) s.toNat (by omega)
  rw [show ((s.toNat : Nat) : Int) = s by omega] at hA
  have hA2 : hsP A s (hbt A) := sB_cg hA (fun r r0 r1 => ⟨fun q => ⟨q.1, (hA.2 r r0 r1).mpr q⟩, fun q => (hA.2 r r0 r1).mp q.2⟩)
  refine ⟨A, hA2, fun q q0 q1 => ?_, ?_⟩
  · obtain ⟨i, i0, i1, i2⟩ := pl_fi (F := F) (a := a) x.toNat q q0 (by omega)
    obtain ⟨j, ⟨j0, j1⟩, e, h1, h2⟩ := gh_d hr (h i i0).2
    have i2 : q < gh F (pl F a i) / 100 + 1 := i2
    rw [e] at i2
    exact ⟨j, ⟨j0, j1⟩, (hA.2 j j0 (by omega)).mpr ⟨j1, i, i0, e.symm⟩, by omega, by omega⟩
  · have e := bb_cnt (f := fun j => j) (P := fun r => @decide (hbt A r) (Classical.propDecidable _)) hA2 s0 s8 (fun r => @decide_eq_true_iff _ (Classical.propDecidable _))
    rw [e]
    obtain ⟨c, c1, c2, c3⟩ := cnt_pick (fun j => j) (fun r => @decide (hbt A r) (Classical.propDecidable _)) s.toNat
    have hb2 := (cnt_b (fun j => j) (fun r => @decide (hbt A r) (Classical.propDecidable _)) s.toNat).1
    have := inj_le x.toNat (cnt (fun j => j) (fun r => @decide (hbt A r) (Classical.propDecidable _)) s.toNat).toNat (fun i => f (c i)) (fun i => gh F (pl F a i)) (fun i j hij hj => ?_) (fun i hi => ?_)
    · omega
    · obtain ⟨x0', x1, -⟩ := c1 i (by omega) (by omega)
      obtain ⟨y0, y1, -⟩ := c1 j (by omega) (by omega)
      have hlt := c2 i j (by omega) (by omega) (by omega)
      exact fun q => by
        have := Rep_inj hr x0' (by omega) y0 (by omega) q
        omega
    · obtain ⟨x0', x1, x2⟩ := c1 i (by omega) (by omega)
      have x2 := @of_decide_eq_true _ (Classical.propDecidable _) x2
      obtain ⟨-, k, k1, k2⟩ := (hA.2 (c i) x0' (by omega)).mp x2
      exact ⟨k, k1, k2.symm⟩
/-- backwards by to -/
theorem cr_y (h : f r % 100 ≤ o ∧ o ≤ f r / 100) (hA : hbt A r) (r0 : 0 ≤ r) : covR f A r a o ↔ covR f A (r - 1) a (f r % 100 - 1) := by
  constructor
  · intro hc q q0 q1
    obtain ⟨k, ⟨k0, k1⟩, hk, h1, h2⟩ := hc q q0 (by omega)
    have ne : k ≠ r := fun e => by rw [e] at h1; omega
    exact ⟨k, ⟨k0, by omega⟩, hk, h1, h2⟩
  · intro hc q q0 q1
    by_cases c : q ≤ f r % 100 - 1
    · obtain ⟨k, ⟨k0, k1⟩, hk, h1, h2⟩ := hc q q0 c
      exact ⟨k, ⟨k0, by omega⟩, hk, h1, h2⟩
    · exact ⟨r, ⟨r0, Int.le_refl _⟩, hA, by omega, by omega⟩
theorem cr_n (ht : Srt f s) (r0 : 0 ≤ r) (r1 : r < s) (h : hbt A r → ¬ (f r % 100 ≤ o ∧ o ≤ f r / 100)) : covR f A r a o ↔ covR f A (r - 1) a o := by
  constructor
  · intro hc q q0 q1
    by_cases hA : hbt A r
    · have hn := h hA
      by_cases c : f r % 100 ≤ o
      · obtain ⟨k, ⟨k0, k1⟩, hk, h1, h2⟩ := hc o (by omega) (Int.le_refl _)
        have := to_mo ht k0 k1 r1
        omega
      · obtain ⟨k, ⟨k0, k1⟩, hk, h1, h2⟩ := hc q q0 q1
        have ne : k ≠ r := fun e => by rw [e] at h1; omega
        exact ⟨k, ⟨k0, by omega⟩, hk, h1, h2⟩
    · obtain ⟨k, ⟨k0, k1⟩, hk, h1, h2⟩ := hc q q0 q1
      have ne : k ≠ r := fun e => hA (by rw [← e]; exact hk)
      exact ⟨k, ⟨k0, by omega⟩, hk, h1, h2⟩
  · intro hc q q0 q1
    obtain ⟨k, ⟨k0, k1⟩, hk, h1, h2⟩ := hc q q0 q1
    exact ⟨k, ⟨k0, by omega⟩, hk, h1, h2⟩
theorem cr_0 (e : r = s - 1) : cov f s A a b ↔ covR f A r a b := by
  constructor
  · intro hc q q0 q1
    obtain ⟨k, ⟨k0, k1⟩, h⟩ := hc q q0 q1
    exact ⟨k, ⟨k0, by omega⟩, h⟩
  · intro hc q q0 q1
    obtain ⟨k, ⟨k0, k1⟩, h⟩ := hc q q0 q1
    exact ⟨k, ⟨k0, by omega⟩, h⟩
theorem cr_e : covR f A (-1) a o ↔ o < a := by
  constructor
  · intro hc
    refine Classical.byContradiction fun hn => ?_
    obtain ⟨k, ⟨k0, k1⟩, -⟩ := hc a (Int.le_refl _) (by omega)
    omega
  · intro h q q0 q1
    omega
end SR
theorem set_all : ∀ A : Fin 256, ∀ n : Fin 9, (∀ r : Fin 8, A.val.testBit r.val = true → r.val < n.val) ↔ A.val < 2 ^ n.val := by decide +kernel
theorem set_lt {A n : Int} (A0 : 0 ≤ A) (A1 : A ≤ 255) (n0 : 0 ≤ n) (n8 : n ≤ 8) : A < pwI n ↔ ∀ r : Int, 0 ≤ r → r ≤ 7 → hbt A r → r < n := by
  obtain ⟨a, rfl⟩ := Int.eq_ofNat_of_zero_le A0
  obtain ⟨m, rfl⟩ := Int.eq_ofNat_of_zero_le n0
  have k := set_all ⟨a, by omega⟩ ⟨m, by omega⟩
  have k : (∀ r : Fin 8, a.testBit r.val = true → r.val < m) ↔ a < 2 ^ m := k
  have e : ((a : Int) < pwI (m : Int)) ↔ a < 2 ^ m := by
    show (a : Int) < ((2 ^ m : Nat) : Int) ↔ a < 2 ^ m
    exact Int.ofNat_lt
  rw [e, ← k]
  constructor
  · intro h r r0 r7 hb
    obtain ⟨q, rfl⟩ := Int.eq_ofNat_of_zero_le r0
    have := h ⟨q, by omega⟩ hb
    have this : q < m := this
    omega
  · intro h r hb
    have := h (r.val : Int) (by omega) (by have := r.isLt; omega) hb
    omega
theorem set_hs {A n : Int} (A0 : 0 ≤ A) (A1 : A ≤ 255) (n0 : 0 ≤ n) (n8 : n ≤ 8) (h : A < pwI n) : hsP A n (hbt A) := sB_cg (sB_self A0 A1) (fun r r0 r7 => ⟨fun q => ⟨(set_lt A0 A1 n0 n8).mp h r r0 r7 q, q⟩, fun q => q.2⟩)
/-! ===== the class's trial: the small ones ===== -/
set_option maxHeartbeats 4000000 in
set_option maxRecDepth 100000 in
theorem f_X0_isRising (l : Launch) (hl : l.stackTraces = false) {kc km : Int} {h : dm_H} (hI : Inv kc km h) {b : Nat} (hb : isBk b) {s m : Int} {u w : List Value} (hC : CA b s m u w h) (ht : Srt (cv u) s) : dm_M l 17 0 0 0 [.ref b] h (QP h (RI (fun x => x = 1)) []) := by
  obtain ⟨c1, c2, c3, c4, c5, s0, s8, m0, m1⟩ := id hC
  refine dm_M_of dk_17 hl rfl (Nat.le_of_ble_eq_true rfl) ?_
  show dm_W (fun _ _ _ => True) (dm_P (QP h (RI (fun x => x = 1)) []) 0 0) l 17 0 0 0 0 [some (.ref b), none] [] h 0 0
  refine di_const rfl ?_
  refine di_istore_n (ls2 := [some (.ref b), some (dI 1)]) rfl rfl rfl ?_
  have L : ∀ (k : Nat) (i : Int), (8 - i).toNat < k → 1 ≤ i → i ≤ 8 → dm_W (fun _ _ _ => True) (dm_P (QP h (RI (fun x => x = 1)) []) 0 0) l 17 0 0 0 2 [some (.ref b), some (dI i)] [] h 0 0 := by
    intro k
    induction k with
    | zero => intro i hm; exact absurd hm (Nat.not_lt_zero _)
    | succ k ih =>
      intro i hm i0 i1
      refine dr_iload_n rfl rfl ?_
      refine di_aload_n rfl rfl ?_
      refine dr_getf rfl c1 rfl ?_
      refine di_icmp_ge rfl rfl (by omega) (by omega) (by omega) (by omega) (fun c => ?_) (fun c => ?_)
      · refine di_const rfl ?_
        exact dr_iret (ty := .boolean) rfl rfl (nar_z (by omega) (by omega)) (by decide) (by decide) ⟨rfl, 1, rfl, by omega, by omega, rfl⟩
      refine di_aload_n rfl rfl ?_
      refine dr_getf rfl c1 rfl ?_
      refine dr_iload_n rfl rfl ?_
      refine di_const rfl ?_
      refine di_isub rfl ?_
      refine di_iald rfl c2 c4 (by omega) (by omega) (fun x xf xa xb xv => ?_)
      have xw : cv u (i - 1) = x := cv_eq xv xa xb
      refine di_aload_n rfl rfl ?_
      refine dr_getf rfl c1 rfl ?_
      refine dr_iload_n rfl rfl ?_
      refine di_iald rfl c2 c4 (by omega) (by omega) (fun y yf ya yb yv => ?_)
      have yw : cv u i = y := cv_eq yv ya yb
      have hlt := ht (i - 1) i (by omega) (by omega) (by omega)
      refine di_icmp_lt rfl rfl (by omega) (by omega) (by omega) (by omega) (fun c2 => ?_) (fun c2 => ?_)
      · refine di_iinc (ls2 := [some (.ref b), some (dI (i + 1))]) rfl rfl rfl rfl ?_
        refine dr_goto rfl rfl ?_
        exact ih (i + 1) (by omega) (by omega) (by omega)
      · omega
  exact L _ 1 (Nat.lt_succ_self _) (by omega) (by omega)
set_option maxHeartbeats 4000000 in
set_option maxRecDepth 100000 in
theorem f_X5_doesCover (l : Launch) (hl : l.stackTraces = false) {kc km : Int} {h : dm_H} (hI : Inv kc km h) {b : Nat} (hb : isBk b) {s m : Int} {u w : List Value} (hC : CA b s m u w h) (ht : Srt (cv u) s) {a2 : Int} (h2a : 0 ≤ a2) (h2b : a2 ≤ 255) : dm_M l 53 2 0 0 [.ref 8, .ref b, dI a2] h (QP h (RI (fun x => (0 ≤ x ∧ x ≤ 1) ∧ (0 < s → (x = 1 ↔ cov (cv u) s a2 (cv u 0 % 100) (cv u (s - 1) / 100))))) []) := by
  obtain ⟨c1, c2, c3, c4, c5, s0, s8, m0, m1⟩ := id hC
  refine dm_M_of dk_53 hl rfl (Nat.le_of_ble_eq_true rfl) ?_
  show dm_W (fun _ _ _ => True) (dm_P (QP h (RI (fun x => (0 ≤ x ∧ x ≤ 1) ∧ (0 < s → (x = 1 ↔ cov (cv u) s a2 (cv u 0 % 100) (cv u (s - 1) / 100))))) []) 0 0) l 53 2 0 0 0 [some (.ref 8), some (.ref b), some (dI a2), none, none] [] h 0 0
  refine di_aload_n rfl rfl ?_
  refine di_aload_n rfl rfl ?_
  refine dr_virt rfl rfl rfl rfl c1 (f_X0_count l hl hI hb hC) (by decide) (by decide) (by decide) (Nat.le_of_ble_eq_true rfl) kNP (kIP (fun y yf ya yb => ?_))
  obtain ⟨yc, yd, ye⟩ := yf
  have ye2 := ye.symm
  subst ye2
  refine di_const rfl ?_
  refine di_isub rfl ?_
  refine dr_virt rfl rfl rfl rfl c1 (f_X0_toAt l hl hI hb hC (a1 := s - 1) (by omega) (by omega)) (by decide) (by decide) (by decide) (Nat.le_of_ble_eq_true rfl) kNP (kIP (fun t tf ta tb => ?_))
  obtain ⟨tc, td, tk, tk2, tk3⟩ := tf
  refine di_istore_n (ls2 := [some (.ref 8), some (.ref b), some (dI a2), some (dI t), none]) rfl rfl rfl ?_
  refine di_aload_n rfl rfl ?_
  refine dr_virt rfl rfl rfl rfl c1 (f_X0_count l hl hI hb hC) (by decide) (by decide) (by decide) (Nat.le_of_ble_eq_true rfl) kNP (kIP (fun y yf ya yb => ?_))
  obtain ⟨yc, yd, ye⟩ := yf
  have ye2 := ye.symm
  subst ye2
  refine di_const rfl ?_
  refine di_isub rfl ?_
  refine di_istore (ls2 := [some (.ref 8), some (.ref b), some (dI a2), some (dI t), some (dI (s - 1))]) rfl rfl rfl ?_
  have L : ∀ (k : Nat) (o r : Int), (r + 1).toNat < k → -1 ≤ o → o ≤ 99 → -1 ≤ r → r < s → (0 < s → (cov (cv u) s a2 (cv u 0 % 100) (cv u (s - 1) / 100) ↔ covR (cv u) a2 r (cv u 0 % 100) o)) → dm_W (fun _ _ _ => True) (dm_P (QP h (RI (fun x => (0 ≤ x ∧ x ≤ 1) ∧ (0 < s → (x = 1 ↔ cov (cv u) s a2 (cv u 0 % 100) (cv u (s - 1) / 100))))) []) 0 0) l 53 2 0 0 19 [some (.ref 8), some (.ref b), some (dI a2), some (dI o), some (dI r)] [] h 0 0 := by
    intro k
    induction k with
    | zero => intro o r hm; exact absurd hm (Nat.not_lt_zero _)
    | succ k ih =>
      intro o r hm o0 o1 r0 r1 PC
      refine dr_iload rfl rfl ?_
      refine di_if_lt rfl rfl (by omega) (by omega) (fun c => ?_) (fun c => ?_)
      · have er : r = -1 := by omega
        subst er
        refine dr_iload_n rfl rfl ?_
        refine di_aload_n rfl rfl ?_
        refine di_const rfl ?_
        refine dr_virt rfl rfl rfl rfl c1 (f_X0_fromAt l hl hI hb hC (a1 := 0) (by omega) (by omega)) (by decide) (by decide) (by decide) (Nat.le_of_ble_eq_true rfl) kNP (kIP (fun x xf xa xb => ?_))
        obtain ⟨xc, xd, xk, xk2, xk3⟩ := xf
        have hE : 0 < s → (cov (cv u) s a2 (cv u 0 % 100) (cv u (s - 1) / 100) ↔ o < x) := fun q => by
          have e := xk (Int.le_refl _) q
          rw [e]
          exact (PC q).trans cr_e
        refine di_icmp_ge rfl rfl (by omega) (by omega) (by omega) (by omega) (fun c2 => ?_) (fun c2 => ?_)
        · refine di_const rfl ?_
          exact dr_iret (ty := .boolean) rfl rfl (nar_z (by omega) (by omega)) (by decide) (by decide) ⟨rfl, 0, ⟨⟨by omega, by omega⟩, fun q => ⟨fun e => absurd e (by decide), fun e => absurd ((hE q).mp e) (by omega)⟩⟩, by omega, by omega, rfl⟩
        · refine di_const rfl ?_
          refine dr_goto rfl rfl ?_
          exact dr_iret (ty := .boolean) rfl rfl (nar_z (by omega) (by omega)) (by decide) (by decide) ⟨rfl, 1, ⟨⟨by omega, by omega⟩, fun q => ⟨fun _ => (hE q).mpr (by omega), fun _ => rfl⟩⟩, by omega, by omega, rfl⟩
      refine dr_iload_n rfl rfl ?_
      refine dr_iload rfl rfl ?_
      refine dr_statN rfl rfl rfl rfl (f_X6_isInSet l hl hI (a0 := a2) (by omega) (by omega) (a1 := r) (by omega) (by omega)) kNP0 (by decide) (by decide) (by decide) (Nat.le_of_ble_eq_true rfl) (kIP (fun y yf ya yb => ?_))
      obtain ⟨yc, yd, yk, yk2⟩ := yf
      refine di_if_eq rfl rfl (by omega) (by omega) (fun c2 => ?_) (fun c2 => ?_)
      · refine di_iinc (ls2 := [some (.ref 8), some (.ref b), some (dI a2), some (dI o), some (dI (r + -1))]) rfl rfl rfl rfl ?_
        refine dr_goto rfl rfl ?_
        exact ih o (r + -1) (by omega) o0 o1 (by omega) (by omega) (fun q => by
          rw [show r + -1 = r - 1 by omega]
          exact (PC q).trans (cr_n ht (by omega) r1 (fun z => absurd z (yk2 c2))))
      refine di_aload_n rfl rfl ?_
      refine dr_iload rfl rfl ?_
      refine dr_iload_n rfl rfl ?_
      refine dr_virt rfl rfl rfl rfl c1 (f_X0_doesHold l hl hI hb hC (a1 := r) (by omega) (by omega) (a2 := o) (by omega) (by omega) (by omega) (by omega)) (by decide) (by decide) (by decide) (Nat.le_of_ble_eq_true rfl) kNP (kIP (fun z zf za zb => ?_))
      obtain ⟨zc, zd, zk, zk2⟩ := zf
      refine di_if_eq rfl rfl (by omega) (by omega) (fun c3 => ?_) (fun c3 => ?_)
      · refine di_iinc (ls2 := [some (.ref 8), some (.ref b), some (dI a2), some (dI o), some (dI (r + -1))]) rfl rfl rfl rfl ?_
        refine dr_goto rfl rfl ?_
        exact ih o (r + -1) (by omega) o0 o1 (by omega) (by omega) (fun q => by
          rw [show r + -1 = r - 1 by omega]
          exact (PC q).trans (cr_n ht (by omega) r1 (fun _ => by have := zk2 c3; omega)))
      refine di_aload_n rfl rfl ?_
      refine dr_iload rfl rfl ?_
      refine dr_virt rfl rfl rfl rfl c1 (f_X0_fromAt l hl hI hb hC (a1 := r) (by omega) (by omega)) (by decide) (by decide) (by decide) (Nat.le_of_ble_eq_true rfl) kNP (kIP (fun x xf xa xb => ?_))
      obtain ⟨xc, xd, xk, xk2, xk3⟩ := xf
      have xe := xk (by omega) r1
      refine di_const rfl ?_
      refine di_isub rfl ?_
      refine di_istore_n (ls2 := [some (.ref 8), some (.ref b), some (dI a2), some (dI (x - 1)), some (dI r)]) rfl rfl rfl ?_
      refine di_iinc (ls2 := [some (.ref 8), some (.ref b), some (dI a2), some (dI (x - 1)), some (dI (r + -1))]) rfl rfl rfl rfl ?_
      refine dr_goto rfl rfl ?_
      exact ih (x - 1) (r + -1) (by omega) (by omega) (by omega) (by omega) (by omega) (fun q => by
        rw [show r + -1 = r - 1 by omega, xe]
        exact (PC q).trans (cr_y (zk (by omega)) (yk (by omega)) (by omega)))
  exact L _ t (s - 1) (Nat.lt_succ_self _) tc (by omega) (by omega) (by omega) (fun q => by
    rw [tk (by omega) (by omega)]
    exact cr_0 rfl)
