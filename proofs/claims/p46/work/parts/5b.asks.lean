/-! ===== the model's calls that make rows ===== -/
def FrN (h h1 : dm_H) : Prop := h.length ≤ h1.length ∧ ∀ j : Nat, j < h.length → j < 26 ∨ 36 ≤ j → h1[j]? = h[j]?
theorem FrM_N {h h1 : dm_H} (a : FrM h h1) : FrN h h1 := ⟨by rw [a.1]; exact Nat.le_refl _, fun j _ x => a.2 j x⟩
theorem App_N {h h1 : dm_H} (a : App h h1) : FrN h h1 := ⟨a.1, fun j x _ => a.2 j x⟩
theorem FrN_tr {h h1 h2 : dm_H} (a : FrN h h1) (b : FrN h1 h2) : FrN h h2 := ⟨Nat.le_trans a.1 b.1, fun j x y => (b.2 j (Nat.lt_of_lt_of_le x a.1) y).trans (a.2 j x y)⟩
theorem CSt_FrN {kc km B : Int} {σ : St} {h h' : dm_H} (hS : CSt B σ h) (hI : Inv kc km h) (f : FrN h h') : CSt B σ h' := CSt_same hS (fun j j0 j1 j2 => f.2 j (by have := Inv_len hI; omega) (by omega))
theorem MSt_Ap {kc km km2 th : Int} {σ : St} {h h' : dm_H} (hM : MSt km th σ h) (hI : Inv kc km2 h) (f : App h h') : MSt km th σ h' := MSt_same hM (fun j _ j1 => f.2 j (by have := Inv_len hI; omega))
def QMA (kc km : Int) (h : dm_H) (q : Int × Int × St) : dm_Rs := fun r h' => Inv kc km h' ∧ FrN h h' ∧ MSt km q.1 q.2.2 h' ∧ ∃ a : Int, r = .inl (some (dI a)) ∧ -2147483648 ≤ a ∧ a < 2147483648 ∧ (q.1 = 0 → a = q.2.1)
section QMAR
variable {E : dm_Ex} {P : dm_Po} {l : Launch} {z d MC MS pc ce sl : Nat} {ls : List (Option Value)} {st : List Value} {h h' : dm_H} {kc km th a : Int} {σ : St}
theorem kQMA {q : Int × Int × St} (kk : ∀ (a : Int) (h1 : dm_H), Inv kc km h1 → FrN h h1 → MSt km q.1 q.2.2 h1 → -2147483648 ≤ a → a < 2147483648 → (q.1 = 0 → a = q.2.1) → dm_W E P l z d MC MS pc ls (dI a :: st) h1 ce sl) : ∀ (v : Option Value) (h1 : dm_H), QMA kc km h q (.inl v) h1 → dm_W E P l z d MC MS pc ls (v.toList ++ st) h1 ce sl := by
  rintro v h1 ⟨x, y, z, a, e, b0, b1, w⟩
  cases e
  exact kk a h1 x y z b0 b1 w
theorem kQMAN {q : Int × Int × St} : ∀ (Y : String) (h1 : dm_H), QMA kc km h q (.inr Y) h1 → dm_T9 E P l z d MC MS Y pc ls h1 ce sl := fun _ _ q => by obtain ⟨a, e, -⟩ := q.2.2.2; cases e
theorem QMA_ok {q : Int × Int × St} (hI : Inv kc km h') (hF : FrN h h') (hM : MSt km th σ h') (b0 : -2147483648 ≤ a) (b1 : a < 2147483648) (e : q = (th, a, σ)) : QMA kc km h q (.inl (some (dI a))) h' := by
  subst e; exact ⟨hI, hF, hM, a, rfl, b0, b1, fun _ => rfl⟩
theorem QMA_no {q : Int × Int × St} {x : Int} (hI : Inv kc km h') (hF : FrN h h') (hM : MSt km th σ h') (ht : th ≠ 0) (b0 : -2147483648 ≤ a) (b1 : a < 2147483648) (e : q = (th, x, σ)) : QMA kc km h q (.inl (some (dI a))) h' := by
  subst e; exact ⟨hI, hF, hM, a, rfl, b0, b1, fun e => absurd e ht⟩
theorem pdsX {h0 : dm_H} {i n : Nat} {vs : List Value} {e x : Int} (hi : dm_at z pc = some (.iastore, 1, [])) (hh : h[i]? = some (20, vs)) (ha : arr n okR vs) (h1 : 0 ≤ e) (h2 : e < n) (hF : okR x) (hb : h0.length ≤ i) (hA : App h0 h)
    (kk : ∀ h1 : dm_H, App h0 h1 → ∀ us : List Value, h1[i]? = some (20, us) → arr n okR us → stt vs us e x → (∀ j : Nat, j ≠ i → h1[j]? = h[j]?) → dm_W E P l z d MC MS (pc + 1) ls st h1 ce sl) : dm_W E P l z d MC MS pc ls (dI x :: dI e :: .ref i :: st) h ce sl :=
  di_iast hi hh ha h1 h2 hF (by have := hF.1; omega) (by have := hF.2; omega) (fun hs => kk _ ⟨by rw [List.length_set]; exact hA.1, fun j hj => by rw [List.getElem?_set, if_neg (by omega)]; exact hA.2 j hj⟩ _ (by rw [List.getElem?_set, if_pos rfl, if_pos (App_lt hh)]) hs (cv_st h1 (by rw [ha.1]; omega) (by have := hF.1; omega) (by have := hF.2; omega)) (fun j hj => by rw [List.getElem?_set, if_neg (fun e => hj e.symm)]))
/-- a row of the codes by rank -/
def rwQ (F : Int → Int) (n : Nat) (v : List Value) : Prop := ((n : Int) = zF F ∧ n ≤ 8) ∧ okV v n ∧ ∀ j : Int, 0 ≤ j → j < n → cv v j = cR F j
def RW (h : dm_H) (Φ : Nat → List Value → Prop) : Option Value → dm_H → Prop := fun v h' => ∃ (b n : Nat) (vs : List Value), Φ n vs ∧ h.length ≤ b ∧ h'[b]? = some (20, vs) ∧ arr n okR vs ∧ v = some (.ref b)
theorem kRW {Φ : Nat → List Value → Prop} (kk : ∀ (h1 : dm_H), App h h1 → ∀ (b n : Nat) (vs : List Value), Φ n vs → h.length ≤ b → h1[b]? = some (20, vs) → arr n okR vs → dm_W E P l z d MC MS pc ls (.ref b :: st) h1 ce sl) : ∀ (v : Option Value) (h1 : dm_H), QA h (RW h Φ) (.inl v) h1 → dm_W E P l z d MC MS pc ls (v.toList ++ st) h1 ce sl := by
  rintro v h1 ⟨a, b, n, vs, c1, c2, c3, c4, rfl⟩
  exact kk h1 a b n vs c1 c2 c3 c4
end QMAR
theorem choM_y {F : Int → Int} {n : Nat} {v : List Value} {A : Int} (h : rwQ F n v) (k : apt (cv v) n A) : anChoice F A = bb A 8 := @if_pos _ (Classical.propDecidable _) (by rw [← h.1.1]; exact apt_cg h.2.2 k) Int (bb A 8) (-1)
theorem choM_n {F : Int → Int} {n : Nat} {v : List Value} {A : Int} (h : rwQ F n v) (k : ¬ apt (cv v) n A) : anChoice F A = -1 := @if_neg _ (Classical.propDecidable _) (by rw [← h.1.1]; exact fun q => k (apt_cg (fun j j0 j1 => (h.2.2 j j0 j1).symm) q)) Int (bb A 8) (-1)
def rwI (F : Int → Int) (v : List Value) (i : Int) : Prop := ∀ j : Int, 0 ≤ j → j < i → cv v j = cR F j ∧ 0 ≤ cv v j ∧ cv v j % 100 ≤ cv v j / 100
theorem rwI_0 {F : Int → Int} {v : List Value} : rwI F v 0 := fun j h0 h1 => by omega
theorem rwI_s {F f g : Int → Int} {s i x : Int} {v v2 : List Value} (h : rwI F v i) (hT : sRp F) (hr : Rep f g s F) (hok : ∀ j : Int, 0 ≤ j → j < s → f j % 100 ≤ f j / 100) (i0 : 0 ≤ i) (i1 : i < s) (hx : rkC F i x) (hs : stt v v2 i x) : rwI F v2 (i + 1) := fun j j0 j1 => by
  by_cases q : j = i
  · rw [q, stt_at hs i0]
    obtain ⟨f0, g0, s0, r0, t0⟩ := hT
    have es := Rep_sz hr r0
    subst es
    have e := (rkC_s hx r0 t0).1 i0 i1
    obtain ⟨k, k0, k1, ek⟩ := Rep_ex hr (Rep_yes r0 i0 i1 rfl).2.1
    have h9 := Rep_at hr k0 k1
    have := hok k k0 k1
    refine ⟨by rw [e, cR_eq r0 t0 i0 i1], ?_⟩
    rw [e, ← ek]
    omega
  · rw [stt_ne hs j0 q]; exact h j j0 (by omega)
theorem rwI_e {F f g : Int → Int} {s i : Int} {n : Nat} {v : List Value} (h : rwI F v i) (hr : Rep f g s F) (e : (n : Int) = s) (s8 : s ≤ 8) (ei : (n : Int) ≤ i) : rwQ F n v := ⟨⟨by rw [zF_eq hr]; exact e, by omega⟩, fun j j0 j1 => (h j j0 (by omega)).2, fun j j0 j1 => (h j j0 (by omega)).1⟩
set_option maxHeartbeats 4000000 in
set_option maxRecDepth 100000 in
theorem n_X8_row (l : Launch) (hl : l.stackTraces = false) {kc km : Int} {h : dm_H} (hI : Inv kc km h) {th : Int} {σ : St} (hM : MSt km th σ h) {a1 : Int} (h1a : 0 ≤ a1) (h1b : a1 ≤ 2) {r q : Nat} {u w us : List Value} (er : (r : Int) = (28 : Nat) + a1) (eq : (q : Int) = (32 : Nat) + a1) (hu : h[r]? = some (20, u)) (hw : h[q]? = some (20, w)) (au : arr 8 okC u) (aw : arr 8 anyI w) (h35 : h[35]? = some (20, us)) (as : arr 3 okS us) (hr : Rep (cv u) (cv w) (cv us a1) (σ.1 a1)) (s0 : 0 ≤ cv us a1) (s8 : cv us a1 ≤ 8) (hT : sSt σ) : dm_M l 137 2 1 16 [.ref 26, dI a1] h (QA h (RW h (rwQ (σ.1 a1)))) := by
  obtain ⟨ni, c26, -, -⟩ := hM.1
  have l37 := Inv_len hI
  have hTa := hT a1 h1a h1b
  refine dm_M_of dk_137 hl rfl (Nat.le_of_ble_eq_true rfl) ?_
  show dm_W (fun _ _ _ => True) (dm_P (QA h (RW h (rwQ (σ.1 a1)))) 1 16) l 137 2 1 16 0 [some (.ref 26), some (dI a1), none, none] [] h 0 0
  refine di_aload_n rfl rfl ?_
  refine dr_getf rfl c26 rfl ?_
  refine dr_iload_n rfl rfl ?_
  refine di_iald rfl h35 as (by omega) (by omega) (fun x xf xa xb xv => ?_)
  have xg : 0 ≤ x ∧ x ≤ 8 := xf
  have xw : cv us a1 = x := cv_eq xv xa xb
  obtain ⟨n, hn⟩ := Int.eq_ofNat_of_zero_le (show 0 ≤ x by omega)
  have n8 : n ≤ 8 := by omega
  refine pnw rfl hn (by omega) (by omega) (by omega) (fun h1 hA1 b hb vs hc ha => ?_)
  refine dm_cew (ce2 := 1) (sl2 := 8) (by omega) (by omega) ?_
  refine di_astore_n (ls2 := [some (.ref 26), some (dI a1), some (.ref b), none]) rfl rfl rfl ?_
  refine di_const rfl ?_
  refine di_istore_n (ls2 := [some (.ref 26), some (dI a1), some (.ref b), some (dI 0)]) rfl rfl rfl ?_
  have L : ∀ (k : Nat) (i : Int) (h2 : dm_H) (v : List Value), (8 - i).toNat < k → 0 ≤ i → i ≤ n → App h h2 → h2[b]? = some (20, v) → arr n okR v → rwI (σ.1 a1) v i → dm_W (fun _ _ _ => True) (dm_P (QA h (RW h (rwQ (σ.1 a1)))) 1 16) l 137 2 1 16 11 [some (.ref 26), some (dI a1), some (.ref b), some (dI i)] [] h2 1 8 := by
    intro k
    induction k with
    | zero => intro i h2 v hm; exact absurd hm (Nat.not_lt_zero _)
    | succ k ih =>
      intro i h2 v hm i0 i1 hA hc ha PR
      have hI2 := App_Inv hA hI
      have hM2 := MSt_Ap hM hI hA
      refine dr_iload_n rfl rfl ?_
      refine di_aload_n rfl rfl ?_
      refine di_alen (n := n) rfl hc (Or.inl rfl) ha.1 ?_
      refine di_icmp_ge rfl rfl (by omega) (by omega) (by omega) (by omega) (fun c => ?_) (fun c => ?_)
      · refine di_aload_n rfl rfl ?_
        exact dr_aret rfl rfl (Or.inr ⟨_, rfl⟩) (Or.inl ⟨_, rfl⟩) (by omega) (by omega) ⟨hA, b, n, v, rwI_e PR hr (by omega) s8 c, hb, hc, ha, rfl⟩
      · refine di_aload_n rfl rfl ?_
        refine dr_iload_n rfl rfl ?_
        refine di_aload_n rfl rfl ?_
        refine dr_iload_n rfl rfl ?_
        refine dr_iload_n rfl rfl ?_
        refine dr_virt rfl rfl rfl rfl (App_at hA c26) (n_X8_codeAt l hl hI2 hM2 (a1 := a1) (by omega) (by omega) (a2 := i) (by omega) (by omega) er eq (App_at hA hu) (App_at hA hw) au aw (App_at hA h35) as hr s0 s8) (by decide) (by decide) (by decide) (Nat.le_of_ble_eq_true rfl) kNP (kIP (fun y yf ya yb => ?_))
        obtain ⟨yc, yd, yk⟩ := yf
        refine pdsX rfl hc ha (by omega) (by omega) ⟨by omega, by omega⟩ hb hA (fun h3 hA3 us3 hc3 ha3 hs3 hk3 => ?_)
        refine di_iinc (ls2 := [some (.ref 26), some (dI a1), some (.ref b), some (dI (i + 1))]) rfl rfl rfl rfl ?_
        refine dr_goto rfl rfl ?_
        exact ih (i + 1) h3 us3 (by omega) (by omega) (by omega) hA3 hc3 ha3 (rwI_s PR hTa hr (CA_ok au s8) i0 (by omega) yk hs3)
  exact L _ 0 h1 vs (Nat.lt_succ_self _) (by omega) (by omega) hA1 hc ha rwI_0
set_option maxHeartbeats 4000000 in
set_option maxRecDepth 100000 in
/-- EarlyendsModel.isNoSet -/
theorem n_X8_isNoSet (l : Launch) (hl : l.stackTraces = false) {kc km : Int} {h : dm_H} (hI : Inv kc km h) {th : Int} {σ : St} (hM : MSt km th σ h) {a1 : Int} (h1a : 0 ≤ a1) (h1b : a1 ≤ 2) {a2 : Int} (h2a : -2147483648 ≤ a2) (h2b : a2 ≤ 2147483647) {r q : Nat} {u w us : List Value} (er : (r : Int) = (28 : Nat) + a1) (eq : (q : Int) = (32 : Nat) + a1) (hu : h[r]? = some (20, u)) (hw : h[q]? = some (20, w)) (au : arr 8 okC u) (aw : arr 8 anyI w) (h35 : h[35]? = some (20, us)) (as : arr 3 okS us) (hr : Rep (cv u) (cv w) (cv us a1) (σ.1 a1)) (s0 : 0 ≤ cv us a1) (s8 : cv us a1 ≤ 8) : dm_M l 193 0 0 0 [.ref 26, dI (a1), dI (a2)] h (QP h (RI (fun x => 0 ≤ x ∧ x ≤ 1 ∧ (x = 1 → a2 < 0 ∨ pwI (cv us a1) ≤ a2) ∧ (x = 0 → 0 ≤ a2 ∧ a2 < pwI (cv us a1)))) []) := by
  obtain ⟨⟨ni, c26, ni0, ni1⟩, ⟨⟨R1, R2⟩, ⟨R3, R4⟩, ⟨R5, R6⟩, ⟨R7, R8⟩, ⟨R9, R10⟩, ⟨R11, R12⟩, R13⟩, ⟨th0, th1⟩, -⟩ := id hM
  have R14 : σ.2.2.2.2.2.1 = -1 ∨ (0 ≤ σ.2.2.2.2.2.1 ∧ σ.2.2.2.2.2.1 ≤ 9999 ∧ σ.2.2.2.2.2.1 % 100 ≤ σ.2.2.2.2.2.1 / 100) := R13
  have mr : isCR r := isCR_of er (by omega) (by omega)
  have mq : isNR q := isNR_of eq (by omega) (by omega)
  refine dm_M_of dk_193 hl rfl (Nat.le_of_ble_eq_true rfl) ?_
  show dm_W (fun _ _ _ => True) (dm_P (QP h (RI (fun x => 0 ≤ x ∧ x ≤ 1 ∧ (x = 1 → a2 < 0 ∨ pwI (cv us a1) ≤ a2) ∧ (x = 0 → 0 ≤ a2 ∧ a2 < pwI (cv us a1)))) []) 0 0) l 193 0 0 0 0 [some (.ref 26), some (dI (a1)), some (dI (a2))] [] h 0 0
  refine dr_iload_n rfl rfl ?_
  refine di_if_lt rfl rfl (by omega) (by omega) (fun c1 => ?_) (fun c1 => ?_)
  · skip
    refine di_const rfl ?_
    refine dr_goto rfl rfl ?_
    exact dr_iret (ty := .boolean) rfl rfl (nar_z (by omega) (by omega)) (by decide) (by decide) ⟨rfl, 1, ⟨by omega, by omega, fun _ => Or.inl (by omega), fun e9 => absurd e9 (by decide)⟩, by omega, by omega, rfl⟩
  · skip
    refine dr_iload_n rfl rfl ?_
    refine di_const rfl ?_
    refine di_aload_n rfl rfl ?_
    refine dr_getf rfl c26 rfl ?_
    refine dr_iload_n rfl rfl ?_
    refine di_iald rfl h35 as (by omega) (by omega) (fun x2 x2f x2a x2b x2v => ?_)
    have x2w : cv us a1 = x2 := cv_eq x2v x2a x2b
    have x2g : 0 ≤ x2 ∧ x2 ≤ 8 := x2f
    refine di_shl8 rfl (by omega) (by omega) (fun w3 w3a w3b w3e => ?_)
    refine di_icmp_lt rfl rfl (by omega) (by omega) (by omega) (by omega) (fun c4 => ?_) (fun c4 => ?_)
    · skip
      refine di_const rfl ?_
      exact dr_iret (ty := .boolean) rfl rfl (nar_z (by omega) (by omega)) (by decide) (by decide) ⟨rfl, 0, ⟨by omega, by omega, by rw [x2w]; omega, by rw [x2w]; omega⟩, by omega, by omega, rfl⟩
    · skip
      refine di_const rfl ?_
      refine dr_goto rfl rfl ?_
      exact dr_iret (ty := .boolean) rfl rfl (nar_z (by omega) (by omega)) (by decide) (by decide) ⟨rfl, 1, ⟨by omega, by omega, by rw [x2w]; omega, by rw [x2w]; omega⟩, by omega, by omega, rfl⟩
set_option maxHeartbeats 4000000 in
set_option maxRecDepth 100000 in
/-- EarlyendsModel.choice -/
theorem n_X8_choice (l : Launch) (hl : l.stackTraces = false) {kc km : Int} {h : dm_H} (hI : Inv kc km h) {th : Int} {σ : St} (hM : MSt km th σ h) {a1 : Int} (h1a : -2147483648 ≤ a1) (h1b : a1 ≤ 2147483647) {a2 : Int} (h2a : -2147483648 ≤ a2) (h2b : a2 ≤ 2147483647) (hT : sSt σ) : dm_M l 195 8 1 16 [.ref 26, dI (a1), dI (a2)] h (QMA kc km h (spChoice σ a1 a2)) := by
  obtain ⟨⟨ni, c26, ni0, ni1⟩, ⟨⟨R1, R2⟩, ⟨R3, R4⟩, ⟨R5, R6⟩, ⟨R7, R8⟩, ⟨R9, R10⟩, ⟨R11, R12⟩, R13⟩, ⟨th0, th1⟩, -⟩ := id hM
  have R14 : σ.2.2.2.2.2.1 = -1 ∨ (0 ≤ σ.2.2.2.2.2.1 ∧ σ.2.2.2.2.2.1 ≤ 9999 ∧ σ.2.2.2.2.2.1 % 100 ≤ σ.2.2.2.2.2.1 / 100) := R13
  refine dm_M_of dk_195 hl rfl (Nat.le_of_ble_eq_true rfl) ?_
  show dm_W (fun _ _ _ => True) (dm_P (QMA kc km h (spChoice σ a1 a2)) 1 16) l 195 8 1 16 0 [some (.ref 26), some (dI (a1)), some (dI (a2))] [] h 0 0
  refine di_aload_n rfl rfl ?_
  refine dr_iload_n rfl rfl ?_
  refine dr_stat rfl rfl rfl rfl (f_X8_isNoBook l hl hI (a0 := a1) (by omega) (by omega)) (by decide) (by decide) (by decide) (Nat.le_of_ble_eq_true rfl) kNP (kIP (fun y1 y1f y1a y1b => ?_))
  have y1g : 0 ≤ y1 ∧ y1 ≤ 1 ∧ (y1 = 0 → 0 ≤ a1 ∧ a1 ≤ 2) ∧ (y1 = 1 → a1 < 0 ∨ 2 < a1) := y1f
  clear y1f
  refine di_const rfl ?_
  rcases (by omega : y1 = 0 ∨ y1 = 1) with ey2 | ey2
  · skip
    rw [ey2]
    refine dr_virt rfl rfl rfl rfl c26 (f_X8_start0 l hl hI hM (a2 := 1) (by omega) (by omega)) (by decide) (by decide) (by decide) (Nat.le_of_ble_eq_true rfl) kNQN (kNQ (fun h3 hI4 hF5 hM6 => ?_))
    have hF7 := FrM_tr FrM_rf hF5
    refine di_if_ne rfl rfl (by omega) (by omega) (fun c9 => by exfalso; omega) (fun _ => ?_)
    refine di_aload_n rfl rfl ?_
    refine di_aload_n rfl rfl ?_
    refine dr_iload_n rfl rfl ?_
    refine dr_iload_n rfl rfl ?_
    obtain ⟨⟨ni8, ni8c, ni8a, ni8b⟩, -⟩ := id hM6
    obtain ⟨r10, q11, u12, w13, us14, er15, eq16, hu17, hw18, au19, aw20, hs21, as22, hr23, sa24, sb25⟩ := MSt_bk hM6 (k := a1) (by omega) (by omega)
    have hz26 : zF (σ.1 a1) = cv us14 a1 := zF_eq hr23
    have mr27 : isCR r10 := isCR_of er15 (by omega) (by omega)
    have mq28 : isNR q11 := isNR_of eq16 (by omega) (by omega)
    have y29p := pwI_8 (r := cv us14 a1) (by omega) (by omega)
    refine dr_virt rfl rfl rfl rfl ni8c (n_X8_isNoSet l hl hI4 hM6 (a1 := a1) (by omega) (by omega) (a2 := a2) (by omega) (by omega) er15 eq16 hu17 hw18 au19 aw20 hs21 as22 hr23 sa24 sb25) (by decide) (by decide) (by decide) (Nat.le_of_ble_eq_true rfl) kNP (kIP (fun y29 y29f y29a y29b => ?_))
    obtain ⟨y29c, y29d, y29k, y29k2⟩ := y29f
    refine di_const rfl ?_
    rcases (by omega : y29 = 0 ∨ y29 = 1) with ey30 | ey30
    · skip
      rw [ey30]
      refine dr_virt rfl rfl rfl rfl ni8c (f_X8_refuse0 l hl hI4 hM6 (a2 := 2) (by omega) (by omega)) (by decide) (by decide) (by decide) (Nat.le_of_ble_eq_true rfl) kNQN (kNQ (fun h31 hI32 hF33 hM34 => ?_))
      have hF35 := FrM_tr hF7 hF33
      refine di_if_eq rfl rfl (by omega) (by omega) (fun _ => ?_) (fun c9 => by exfalso; omega)
      refine di_aload_n rfl rfl ?_
      refine dr_iload_n rfl rfl ?_
      obtain ⟨r36, q37, u38, w39, us40, er41, eq42, hu43, hw44, au45, aw46, hs47, as48, hr49, sa50, sb51⟩ := MSt_bk hM34 (k := a1) (by omega) (by omega)
      have hz52 : zF (σ.1 a1) = cv us40 a1 := zF_eq hr49
      have mr53 : isCR r36 := isCR_of er41 (by omega) (by omega)
      have mq54 : isNR q37 := isNR_of eq42 (by omega) (by omega)
      obtain ⟨⟨ni55, ni55c, ni55a, ni55b⟩, -⟩ := id hM34
      refine dr_virt rfl rfl rfl rfl ni55c (n_X8_row l hl hI32 hM34 (a1 := a1) (by omega) (by omega) er41 eq42 hu43 hw44 au45 aw46 hs47 as48 hr49 sa50 sb51 hT) (by decide) (by decide) (by decide) (Nat.le_of_ble_eq_true rfl) kAN (kRW (fun h56 hA57 b58 n59 vs60 hp61 hb62 hc63 ha64 => ?_))
      have hp61 : rwQ (σ.1 a1) n59 vs60 := hp61
      have hI65 := App_Inv hA57 hI32
      have hM66 := MSt_Ap hM34 hI32 hA57
      have hN67 := FrN_tr (FrM_N hF35) (App_N hA57)
      have hc68 := App_at hA57 hu43
      have hc69 := App_at hA57 hw44
      have hc70 := App_at hA57 hs47
      have hc71 := App_at hA57 ni55c
      have hc72 := App_at hA57 hu43
      have hc73 := App_at hA57 hw44
      have hc74 := App_at hA57 hs47
      have n59b := hp61.1.2
      refine dr_iload_n rfl rfl ?_
      refine dr_stat rfl rfl rfl rfl (s_X8_isApart_f l hl hI65 (b0 := b58) (n0 := n59) (v0 := vs60) hc63 ha64 (by omega) (a1 := a2) (by omega) (by omega) (hv := hp61.2.1)) (by decide) (by decide) (by decide) (Nat.le_of_ble_eq_true rfl) kNP (kIP (fun y75 y75f y75a y75b => ?_))
      obtain ⟨y75c, y75d, y75k, y75k2⟩ := y75f
      refine di_if_eq rfl rfl (by omega) (by omega) (fun c76 => ?_) (fun c76 => ?_)
      · skip
        refine di_const rfl ?_
        have e9 : anChoice (σ.1 a1) a2 = -1 := choM_n hp61 (y75k2 (by omega))
        exact dr_iret (ty := .int) rfl rfl rfl (by decide) (by decide) (QMA_ok hI65 hN67 hM66 (by omega) (by omega) (by unfold spChoice; (try rw [hz26]); (try rw [e9]); (repeat' split) <;> first | rfl | (exfalso; omega) | (apply Prod.ext <;> first | rfl | (dsimp only; omega) | (apply Prod.ext <;> first | rfl | (dsimp only; omega)))))
      · skip
        refine dr_iload_n rfl rfl ?_
        refine dr_stat rfl rfl rfl rfl (s_X8_sizeOf_s l hl hI65 (a0 := a2) (by omega) (by omega)) (by decide) (by decide) (by decide) (Nat.le_of_ble_eq_true rfl) kNP (kIP (fun y77 y77f y77a y77b => ?_))
        obtain ⟨y77c, y77d, y77k⟩ := y77f
        refine dr_goto rfl rfl ?_
        have e9 : anChoice (σ.1 a1) a2 = y77 := (choM_y hp61 (y75k (by omega))).trans y77k.symm
        exact dr_iret (ty := .int) rfl rfl rfl (by decide) (by decide) (QMA_ok hI65 hN67 hM66 (by omega) (by omega) (by unfold spChoice; (try rw [hz26]); (try rw [e9]); (repeat' split) <;> first | rfl | (exfalso; omega) | (apply Prod.ext <;> first | rfl | (dsimp only; omega) | (apply Prod.ext <;> first | rfl | (dsimp only; omega)))))
    · skip
      rw [ey30]
      refine dr_virt rfl rfl rfl rfl ni8c (f_X8_refuse1 l hl hI4 hM6 (a2 := 2) (by omega) (by omega)) (by decide) (by decide) (by decide) (Nat.le_of_ble_eq_true rfl) kNQN (kNQ (fun h78 hI79 hF80 hM81 => ?_))
      have hF82 := FrM_tr hF7 hF80
      refine di_if_eq rfl rfl (by omega) (by omega) (fun c9 => by exfalso; omega) (fun _ => ?_)
      refine di_const rfl ?_
      exact dr_iret (ty := .int) rfl rfl rfl (by decide) (by decide) (QMA_no (x := 0) hI79 (FrM_N hF82) hM81 (by omega) (by omega) (by omega) (by unfold spChoice; (try rw [hz26]); (repeat' split) <;> first | rfl | (exfalso; omega) | (apply Prod.ext <;> first | rfl | (dsimp only; omega) | (apply Prod.ext <;> first | rfl | (dsimp only; omega)))))
  · skip
    rw [ey2]
    refine dr_virt rfl rfl rfl rfl c26 (f_X8_start1 l hl hI hM (a2 := 1) (by omega) (by omega)) (by decide) (by decide) (by decide) (Nat.le_of_ble_eq_true rfl) kNQN (kNQ (fun h83 hI84 hF85 hM86 => ?_))
    have hF87 := FrM_tr FrM_rf hF85
    refine di_if_ne rfl rfl (by omega) (by omega) (fun _ => ?_) (fun c9 => by exfalso; omega)
    refine di_const rfl ?_
    exact dr_iret (ty := .int) rfl rfl rfl (by decide) (by decide) (QMA_no (x := 0) hI84 (FrM_N hF87) hM86 (by omega) (by omega) (by omega) (by unfold spChoice; (repeat' split) <;> first | rfl | (exfalso; omega) | (apply Prod.ext <;> first | rfl | (dsimp only; omega) | (apply Prod.ext <;> first | rfl | (dsimp only; omega)))))
set_option maxHeartbeats 4000000 in
set_option maxRecDepth 100000 in
/-- EarlyendsModel.unheld -/
theorem n_X8_unheld (l : Launch) (hl : l.stackTraces = false) {kc km : Int} {h : dm_H} (hI : Inv kc km h) {th : Int} {σ : St} (hM : MSt km th σ h) {a1 : Int} (h1a : -2147483648 ≤ a1) (h1b : a1 ≤ 2147483647) {a2 : Int} (h2a : -2147483648 ≤ a2) (h2b : a2 ≤ 2147483647) (hT : sSt σ) : dm_M l 197 8 1 16 [.ref 26, dI (a1), dI (a2)] h (QMA kc km h (spUnheld σ a1 a2)) := by
  obtain ⟨⟨ni, c26, ni0, ni1⟩, ⟨⟨R1, R2⟩, ⟨R3, R4⟩, ⟨R5, R6⟩, ⟨R7, R8⟩, ⟨R9, R10⟩, ⟨R11, R12⟩, R13⟩, ⟨th0, th1⟩, -⟩ := id hM
  have R14 : σ.2.2.2.2.2.1 = -1 ∨ (0 ≤ σ.2.2.2.2.2.1 ∧ σ.2.2.2.2.2.1 ≤ 9999 ∧ σ.2.2.2.2.2.1 % 100 ≤ σ.2.2.2.2.2.1 / 100) := R13
  refine dm_M_of dk_197 hl rfl (Nat.le_of_ble_eq_true rfl) ?_
  show dm_W (fun _ _ _ => True) (dm_P (QMA kc km h (spUnheld σ a1 a2)) 1 16) l 197 8 1 16 0 [some (.ref 26), some (dI (a1)), some (dI (a2))] [] h 0 0
  refine di_aload_n rfl rfl ?_
  refine dr_iload_n rfl rfl ?_
  refine dr_stat rfl rfl rfl rfl (f_X8_isNoBook l hl hI (a0 := a1) (by omega) (by omega)) (by decide) (by decide) (by decide) (Nat.le_of_ble_eq_true rfl) kNP (kIP (fun y1 y1f y1a y1b => ?_))
  have y1g : 0 ≤ y1 ∧ y1 ≤ 1 ∧ (y1 = 0 → 0 ≤ a1 ∧ a1 ≤ 2) ∧ (y1 = 1 → a1 < 0 ∨ 2 < a1) := y1f
  clear y1f
  refine di_const rfl ?_
  rcases (by omega : y1 = 0 ∨ y1 = 1) with ey2 | ey2
  · skip
    rw [ey2]
    refine dr_virt rfl rfl rfl rfl c26 (f_X8_start0 l hl hI hM (a2 := 1) (by omega) (by omega)) (by decide) (by decide) (by decide) (Nat.le_of_ble_eq_true rfl) kNQN (kNQ (fun h3 hI4 hF5 hM6 => ?_))
    have hF7 := FrM_tr FrM_rf hF5
    refine di_if_ne rfl rfl (by omega) (by omega) (fun c9 => by exfalso; omega) (fun _ => ?_)
    refine di_aload_n rfl rfl ?_
    refine di_aload_n rfl rfl ?_
    refine dr_iload_n rfl rfl ?_
    refine dr_iload_n rfl rfl ?_
    obtain ⟨⟨ni8, ni8c, ni8a, ni8b⟩, -⟩ := id hM6
    obtain ⟨r10, q11, u12, w13, us14, er15, eq16, hu17, hw18, au19, aw20, hs21, as22, hr23, sa24, sb25⟩ := MSt_bk hM6 (k := a1) (by omega) (by omega)
    have hz26 : zF (σ.1 a1) = cv us14 a1 := zF_eq hr23
    have mr27 : isCR r10 := isCR_of er15 (by omega) (by omega)
    have mq28 : isNR q11 := isNR_of eq16 (by omega) (by omega)
    have y29p := pwI_8 (r := cv us14 a1) (by omega) (by omega)
    refine dr_virt rfl rfl rfl rfl ni8c (n_X8_isNoSet l hl hI4 hM6 (a1 := a1) (by omega) (by omega) (a2 := a2) (by omega) (by omega) er15 eq16 hu17 hw18 au19 aw20 hs21 as22 hr23 sa24 sb25) (by decide) (by decide) (by decide) (Nat.le_of_ble_eq_true rfl) kNP (kIP (fun y29 y29f y29a y29b => ?_))
    obtain ⟨y29c, y29d, y29k, y29k2⟩ := y29f
    refine di_const rfl ?_
    rcases (by omega : y29 = 0 ∨ y29 = 1) with ey30 | ey30
    · skip
      rw [ey30]
      refine dr_virt rfl rfl rfl rfl ni8c (f_X8_refuse0 l hl hI4 hM6 (a2 := 2) (by omega) (by omega)) (by decide) (by decide) (by decide) (Nat.le_of_ble_eq_true rfl) kNQN (kNQ (fun h31 hI32 hF33 hM34 => ?_))
      have hF35 := FrM_tr hF7 hF33
      refine di_if_eq rfl rfl (by omega) (by omega) (fun _ => ?_) (fun c9 => by exfalso; omega)
      refine di_aload_n rfl rfl ?_
      refine dr_iload_n rfl rfl ?_
      obtain ⟨r36, q37, u38, w39, us40, er41, eq42, hu43, hw44, au45, aw46, hs47, as48, hr49, sa50, sb51⟩ := MSt_bk hM34 (k := a1) (by omega) (by omega)
      have hz52 : zF (σ.1 a1) = cv us40 a1 := zF_eq hr49
      have mr53 : isCR r36 := isCR_of er41 (by omega) (by omega)
      have mq54 : isNR q37 := isNR_of eq42 (by omega) (by omega)
      obtain ⟨⟨ni55, ni55c, ni55a, ni55b⟩, -⟩ := id hM34
      refine dr_virt rfl rfl rfl rfl ni55c (n_X8_row l hl hI32 hM34 (a1 := a1) (by omega) (by omega) er41 eq42 hu43 hw44 au45 aw46 hs47 as48 hr49 sa50 sb51 hT) (by decide) (by decide) (by decide) (Nat.le_of_ble_eq_true rfl) kAN (kRW (fun h56 hA57 b58 n59 vs60 hp61 hb62 hc63 ha64 => ?_))
      have hp61 : rwQ (σ.1 a1) n59 vs60 := hp61
      have hI65 := App_Inv hA57 hI32
      have hM66 := MSt_Ap hM34 hI32 hA57
      have hN67 := FrN_tr (FrM_N hF35) (App_N hA57)
      have hc68 := App_at hA57 hu43
      have hc69 := App_at hA57 hw44
      have hc70 := App_at hA57 hs47
      have hc71 := App_at hA57 ni55c
      have hc72 := App_at hA57 hu43
      have hc73 := App_at hA57 hw44
      have hc74 := App_at hA57 hs47
      have n59b := hp61.1.2
      refine dr_iload_n rfl rfl ?_
      refine dr_stat rfl rfl rfl rfl (s_X8_unheldIn_f l hl hI65 (b0 := b58) (n0 := n59) (v0 := vs60) hc63 ha64 (by omega) (a1 := a2) (by omega) (by omega) (hv := hp61.2.1)) (by decide) (by decide) (by decide) (Nat.le_of_ble_eq_true rfl) kNP (kIP (fun y75 y75f y75a y75b => ?_))
      obtain ⟨y75c, y75d, y75k⟩ := y75f
      have e9 : anUnheld (σ.1 a1) a2 = y75 := (un_e (hT a1 (by omega) (by omega)) hp61.1.2 hp61.1.1 hp61.2.2).trans y75k.symm
      exact dr_iret (ty := .int) rfl rfl rfl (by decide) (by decide) (QMA_ok hI65 hN67 hM66 (by omega) (by omega) (by unfold spUnheld; (try rw [hz26]); (try rw [e9]); (repeat' split) <;> first | rfl | (exfalso; omega) | (apply Prod.ext <;> first | rfl | (dsimp only; omega) | (apply Prod.ext <;> first | rfl | (dsimp only; omega)))))
    · skip
      rw [ey30]
      refine dr_virt rfl rfl rfl rfl ni8c (f_X8_refuse1 l hl hI4 hM6 (a2 := 2) (by omega) (by omega)) (by decide) (by decide) (by decide) (Nat.le_of_ble_eq_true rfl) kNQN (kNQ (fun h76 hI77 hF78 hM79 => ?_))
      have hF80 := FrM_tr hF7 hF78
      refine di_if_eq rfl rfl (by omega) (by omega) (fun c9 => by exfalso; omega) (fun _ => ?_)
      refine di_const rfl ?_
      exact dr_iret (ty := .int) rfl rfl rfl (by decide) (by decide) (QMA_no (x := 0) hI77 (FrM_N hF80) hM79 (by omega) (by omega) (by omega) (by unfold spUnheld; (try rw [hz26]); (repeat' split) <;> first | rfl | (exfalso; omega) | (apply Prod.ext <;> first | rfl | (dsimp only; omega) | (apply Prod.ext <;> first | rfl | (dsimp only; omega)))))
  · skip
    rw [ey2]
    refine dr_virt rfl rfl rfl rfl c26 (f_X8_start1 l hl hI hM (a2 := 1) (by omega) (by omega)) (by decide) (by decide) (by decide) (Nat.le_of_ble_eq_true rfl) kNQN (kNQ (fun h81 hI82 hF83 hM84 => ?_))
    have hF85 := FrM_tr FrM_rf hF83
    refine di_if_ne rfl rfl (by omega) (by omega) (fun _ => ?_) (fun c9 => by exfalso; omega)
    refine di_const rfl ?_
    exact dr_iret (ty := .int) rfl rfl rfl (by decide) (by decide) (QMA_no (x := 0) hI82 (FrM_N hF85) hM84 (by omega) (by omega) (by omega) (by unfold spUnheld; (repeat' split) <;> first | rfl | (exfalso; omega) | (apply Prod.ext <;> first | rfl | (dsimp only; omega) | (apply Prod.ext <;> first | rfl | (dsimp only; omega)))))
