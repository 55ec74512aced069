/-! ===== the digest, the model's ===== -/
def RLd (D : Int64) : Option Value → dm_H → Prop := fun v _ => v = some (.long D)
def QMD (kc km : Int) (h : dm_H) (σ : St) (D : Int64) : dm_Rs := fun r h' => Inv kc km h' ∧ FrN h h' ∧ MSt km 0 σ h' ∧ r = .inl (some (.long D))
section QMDR
variable {E : dm_Ex} {P : dm_Po} {l : Launch} {z d MC MS pc ce sl : Nat} {ls : List (Option Value)} {st : List Value} {h : dm_H} {kc km : Int} {σ : St} {D : Int64}
theorem kALd (kk : ∀ h1 : dm_H, App h h1 → dm_W E P l z d MC MS pc ls (.long D :: st) h1 ce sl) : ∀ (v : Option Value) (h1 : dm_H), QA h (RLd D) (.inl v) h1 → dm_W E P l z d MC MS pc ls (v.toList ++ st) h1 ce sl := by
  rintro v h1 ⟨x, e⟩
  have e : v = some (.long D) := e
  subst e
  exact kk h1 x
theorem kQMD (kk : ∀ h1 : dm_H, Inv kc km h1 → FrN h h1 → MSt km 0 σ h1 → dm_W E P l z d MC MS pc ls (.long D :: st) h1 ce sl) : ∀ (v : Option Value) (h1 : dm_H), QMD kc km h σ D (.inl v) h1 → dm_W E P l z d MC MS pc ls (v.toList ++ st) h1 ce sl := by
  rintro v h1 ⟨x, y, w, e⟩
  cases e
  exact kk h1 x y w
theorem kQMDN : ∀ (Y : String) (h1 : dm_H), QMD kc km h σ D (.inr Y) h1 → dm_T9 E P l z d MC MS Y pc ls h1 ce sl := fun _ _ q => by cases q.2.2.2
end QMDR
theorem an_near0 {F : Int → Int} {c x : Int} (e : (0 : Int) < 2 → x = grt F (soP 0 c)) : anNear F 0 c = x := by
  rw [e (by decide)]; unfold anNear; rw [if_pos (by decide), if_pos (by decide)]
theorem an_near3 {F : Int → Int} {c x : Int} (e : ¬ (3 : Int) < 2 → x = lst F (soP 3 c)) : anNear F 3 c = x := by
  rw [e (by decide)]; unfold anNear; rw [if_pos (by decide), if_neg (by decide)]
set_option maxHeartbeats 4000000 in
set_option maxRecDepth 100000 in
theorem n_X8_bookDigest (l : Launch) (hl : l.stackTraces = false) {kc km : Int} {h : dm_H} (hI : Inv kc km h) {th : Int} {σ : St} (hM : MSt km th σ h) (hT : sSt σ) {a1 : Int64} {a2 : Int} (h2a : 0 ≤ a2) (h2b : a2 ≤ 2) : dm_M l 223 5 20 320 [.ref 26, .long a1, dI a2] h (QA h (RLd (dS (σ.1 a2) (dB (σ.1 a2) a1) (zF (σ.1 a2)).toNat))) := by
  obtain ⟨ni, c26, -, -⟩ := hM.1
  obtain ⟨r, q, u, w, us, er, eq, hu, hw, au, aw, h35, as, hr, s0, s8⟩ := MSt_bk hM (k := a2) h2a h2b
  have hTa : sRp (σ.1 a2) := hT a2 h2a h2b
  obtain ⟨f0, g0, q0, r0, t0⟩ := id hTa
  have ez : zF (σ.1 a2) = cv us a2 := zF_eq hr
  have es : q0 = cv us a2 := Rep_sz r0 hr
  refine dm_M_of dk_223 hl rfl (Nat.le_of_ble_eq_true rfl) ?_
  show dm_W (fun _ _ _ => True) (dm_P (QA h (RLd (dS (σ.1 a2) (dB (σ.1 a2) a1) (zF (σ.1 a2)).toNat))) 20 320) l 223 5 20 320 0 [some (.ref 26), some (.long a1), none, some (dI a2), none, none, none, none] [] h 0 0
  have L3 : ∀ (k : Nat) (i : Int) (j : Int64) (o : Option Value) (h2 : dm_H) (ce sl : Nat), (8 - i).toNat < k → 0 ≤ i → i ≤ zF (σ.1 a2) → ce + 2 * (8 - i).toNat ≤ 20 → sl + 32 * (8 - i).toNat ≤ 320 → App h h2 → j = dS (σ.1 a2) (dB (σ.1 a2) a1) i.toNat → dm_W (fun _ _ _ => True) (dm_P (QA h (RLd (dS (σ.1 a2) (dB (σ.1 a2) a1) (zF (σ.1 a2)).toNat))) 20 320) l 223 5 20 320 133 [some (.ref 26), some (.long a1), none, some (dI a2), some (.long j), none, some (dI (i)), o] [] h2 ce sl := by
    intro k
    induction k with
    | zero => intro i j o h2 ce sl hm; exact absurd hm (Nat.not_lt_zero _)
    | succ k ih =>
      intro i j o h2 ce sl hm i0 i1 hce hsl hA ej
      have hI2 := App_Inv hA hI
      have hM2 := MSt_Ap hM hI hA
      refine dr_iload rfl rfl ?_
      refine di_aload_n rfl rfl ?_
      refine dr_getf rfl (App_at hA c26) rfl ?_
      refine dr_iload_n rfl rfl ?_
      refine di_iald rfl (App_at hA h35) as (by omega) (by omega) (fun x xf xa xb xv => ?_)
      have xw : cv us a2 = x := cv_eq xv xa xb
      refine di_icmp_ge rfl rfl (by omega) (by omega) (by omega) (by omega) (fun c => ?_) (fun c => ?_)
      · refine dr_lload rfl rfl ?_
        exact dr_lret rfl rfl (by omega) (by omega) ⟨hA, by rw [ej, show i = zF (σ.1 a2) by omega]; rfl⟩
      refine di_aload_n rfl rfl ?_
      refine dr_iload_n rfl rfl ?_
      refine dr_iload rfl rfl ?_
      refine dr_virt rfl rfl rfl rfl (App_at hA c26) (n_X8_codeAt l hl hI2 hM2 (a1 := a2) (by omega) (by omega) (a2 := i) (by omega) (by omega) er eq (App_at hA hu) (App_at hA hw) au aw (App_at hA h35) as hr s0 s8 ) (by decide) (by omega) (by omega) (Nat.le_of_ble_eq_true rfl) kNP (kIP (fun y1 y1f y1a y1b => ?_))
      obtain ⟨-, -, y1k⟩ := y1f
      have y1c : cR (σ.1 a2) i = y1 := by rw [(rkC_s y1k r0 t0).1 i0 (by omega), cR_eq r0 t0 i0 (by omega)]
      clear y1k
      subst y1c
      refine di_istore (ls2 := [some (.ref 26), some (.long a1), none, some (dI a2), some (.long j), none, some (dI (i)), some (dI (cR (σ.1 a2) i))]) rfl rfl rfl ?_
      refine dr_lload rfl rfl ?_
      refine dr_ldc2 rfl ?_
      refine dr_lmul rfl rfl ?_
      refine dr_iload rfl rfl ?_
      refine dr_i2l rfl rfl ?_
      refine dr_ladd rfl (v := ds j (cR (σ.1 a2) i)) rfl ?_
      refine di_lstore (ls2 := [some (.ref 26), some (.long a1), none, some (dI a2), some (.long (ds j (cR (σ.1 a2) i))), none, some (dI (i)), some (dI (cR (σ.1 a2) i))]) rfl rfl rfl rfl ?_
      refine dr_lload rfl rfl ?_
      refine dr_ldc2 rfl ?_
      refine dr_lmul rfl rfl ?_
      refine di_aload_n rfl rfl ?_
      refine dr_iload_n rfl rfl ?_
      refine dr_iload rfl rfl ?_
      refine dr_virt rfl rfl rfl rfl (App_at hA c26) (n_X8_noteAt l hl hI2 hM2 (a1 := a2) (by omega) (by omega) (a2 := cR (σ.1 a2) i) (by omega) (by omega) er eq (App_at hA hu) (App_at hA hw) au aw (App_at hA h35) as hr s0 s8 ) (by decide) (by omega) (by omega) (Nat.le_of_ble_eq_true rfl) kNP (kIP (fun y2 y2f y2a y2b => ?_))
      obtain ⟨-, -, y2k⟩ := y2f
      subst y2k
      refine dr_i2l rfl rfl ?_
      refine dr_ladd rfl (v := ds (ds j (cR (σ.1 a2) i)) ((σ.1 a2) (cR (σ.1 a2) i))) rfl ?_
      refine di_lstore (ls2 := [some (.ref 26), some (.long a1), none, some (dI a2), some (.long (ds (ds j (cR (σ.1 a2) i)) ((σ.1 a2) (cR (σ.1 a2) i)))), none, some (dI (i)), some (dI (cR (σ.1 a2) i))]) rfl rfl rfl rfl ?_
      refine dr_lload rfl rfl ?_
      refine dr_ldc2 rfl ?_
      refine dr_lmul rfl rfl ?_
      refine di_aload_n rfl rfl ?_
      refine dr_iload_n rfl rfl ?_
      refine dr_iload rfl rfl ?_
      refine dr_virt rfl rfl rfl rfl (App_at hA c26) (n_X8_roomAt l hl hI2 hM2 (a1 := a2) (by omega) (by omega) (a2 := cR (σ.1 a2) i) (by omega) (by omega) er eq (App_at hA hu) (App_at hA hw) au aw (App_at hA h35) as hr s0 s8 hT) (by decide) (by omega) (by omega) (Nat.le_of_ble_eq_true rfl) kAN (kAI (fun y3 h4 hA5 y3f y3a y3b => ?_))
      have hA6 := App_tr hA hA5
      have hI7 := App_Inv hA6 hI
      have hM8 := MSt_Ap hM hI hA6
      have y3k : anRoomOf (σ.1 a2) (cR (σ.1 a2) i) = y3 := y3f
      clear y3f
      subst y3k
      refine dr_i2l rfl rfl ?_
      refine dr_ladd rfl (v := ds (ds (ds j (cR (σ.1 a2) i)) ((σ.1 a2) (cR (σ.1 a2) i))) (anRoomOf (σ.1 a2) (cR (σ.1 a2) i))) rfl ?_
      refine di_lstore (ls2 := [some (.ref 26), some (.long a1), none, some (dI a2), some (.long (ds (ds (ds j (cR (σ.1 a2) i)) ((σ.1 a2) (cR (σ.1 a2) i))) (anRoomOf (σ.1 a2) (cR (σ.1 a2) i)))), none, some (dI (i)), some (dI (cR (σ.1 a2) i))]) rfl rfl rfl rfl ?_
      refine dr_lload rfl rfl ?_
      refine dr_ldc2 rfl ?_
      refine dr_lmul rfl rfl ?_
      refine di_aload_n rfl rfl ?_
      refine dr_iload_n rfl rfl ?_
      refine dr_iload rfl rfl ?_
      refine di_const rfl ?_
      refine dr_virt rfl rfl rfl rfl (App_at hA6 c26) (n_X8_nearest l hl hI7 hM8 (a1 := a2) (by omega) (by omega) (a2 := cR (σ.1 a2) i) (by omega) (by omega) (a3 := 0) (by omega) (by omega) er eq (App_at hA6 hu) (App_at hA6 hw) au aw (App_at hA6 h35) as hr s0 s8 ) (by decide) (by omega) (by omega) (Nat.le_of_ble_eq_true rfl) kNP (kIP (fun y9 y9f y9a y9b => ?_))
      obtain ⟨-, -, -, y9k, -⟩ := y9f
      have y9k := an_near0 y9k
      subst y9k
      refine dr_i2l rfl rfl ?_
      refine dr_ladd rfl (v := ds (ds (ds (ds j (cR (σ.1 a2) i)) ((σ.1 a2) (cR (σ.1 a2) i))) (anRoomOf (σ.1 a2) (cR (σ.1 a2) i))) (anNear (σ.1 a2) 0 (cR (σ.1 a2) i))) rfl ?_
      refine di_lstore (ls2 := [some (.ref 26), some (.long a1), none, some (dI a2), some (.long (ds (ds (ds (ds j (cR (σ.1 a2) i)) ((σ.1 a2) (cR (σ.1 a2) i))) (anRoomOf (σ.1 a2) (cR (σ.1 a2) i))) (anNear (σ.1 a2) 0 (cR (σ.1 a2) i)))), none, some (dI (i)), some (dI (cR (σ.1 a2) i))]) rfl rfl rfl rfl ?_
      refine dr_lload rfl rfl ?_
      refine dr_ldc2 rfl ?_
      refine dr_lmul rfl rfl ?_
      refine di_aload_n rfl rfl ?_
      refine dr_iload_n rfl rfl ?_
      refine dr_iload rfl rfl ?_
      refine di_const rfl ?_
      refine dr_virt rfl rfl rfl rfl (App_at hA6 c26) (n_X8_nearest l hl hI7 hM8 (a1 := a2) (by omega) (by omega) (a2 := cR (σ.1 a2) i) (by omega) (by omega) (a3 := 3) (by omega) (by omega) er eq (App_at hA6 hu) (App_at hA6 hw) au aw (App_at hA6 h35) as hr s0 s8 ) (by decide) (by omega) (by omega) (Nat.le_of_ble_eq_true rfl) kNP (kIP (fun y10 y10f y10a y10b => ?_))
      obtain ⟨-, -, -, -, y10k⟩ := y10f
      have y10k := an_near3 y10k
      subst y10k
      refine dr_i2l rfl rfl ?_
      refine dr_ladd rfl (v := ds (ds (ds (ds (ds j (cR (σ.1 a2) i)) ((σ.1 a2) (cR (σ.1 a2) i))) (anRoomOf (σ.1 a2) (cR (σ.1 a2) i))) (anNear (σ.1 a2) 0 (cR (σ.1 a2) i))) (anNear (σ.1 a2) 3 (cR (σ.1 a2) i))) rfl ?_
      refine di_lstore (ls2 := [some (.ref 26), some (.long a1), none, some (dI a2), some (.long (ds (ds (ds (ds (ds j (cR (σ.1 a2) i)) ((σ.1 a2) (cR (σ.1 a2) i))) (anRoomOf (σ.1 a2) (cR (σ.1 a2) i))) (anNear (σ.1 a2) 0 (cR (σ.1 a2) i))) (anNear (σ.1 a2) 3 (cR (σ.1 a2) i)))), none, some (dI (i)), some (dI (cR (σ.1 a2) i))]) rfl rfl rfl rfl ?_
      refine di_iinc (ls2 := [some (.ref 26), some (.long a1), none, some (dI a2), some (.long (ds (ds (ds (ds (ds j (cR (σ.1 a2) i)) ((σ.1 a2) (cR (σ.1 a2) i))) (anRoomOf (σ.1 a2) (cR (σ.1 a2) i))) (anNear (σ.1 a2) 0 (cR (σ.1 a2) i))) (anNear (σ.1 a2) 3 (cR (σ.1 a2) i)))), none, some (dI (i + 1)), some (dI (cR (σ.1 a2) i))]) rfl rfl rfl rfl ?_
      refine dr_goto rfl rfl ?_
      exact ih (i + 1) _ _ h4 _ _ (by omega) (by omega) (by omega) (by omega) (by omega) hA6 (by rw [← dS_s i0 ej]; rfl)
  have L2 : ∀ (k : Nat) (i : Int) (j : Int64) (h2 : dm_H), (3 - i).toNat < k → 0 ≤ i → i ≤ 3 → App h h2 → j = dsN (ds (dsN a1 (anBook (σ.1 a2)) 6) (anMost (σ.1 a2))) (anChosen (σ.1 a2)) i.toNat → dm_W (fun _ _ _ => True) (dm_P (QA h (RLd (dS (σ.1 a2) (dB (σ.1 a2) a1) (zF (σ.1 a2)).toNat))) 20 320) l 223 5 20 320 54 [some (.ref 26), some (.long a1), none, some (dI a2), some (.long j), none, some (dI (i)), none] [] h2 0 0 := by
    intro k
    induction k with
    | zero => intro i j h2 hm; exact absurd hm (Nat.not_lt_zero _)
    | succ k ih =>
      intro i j h2 hm i0 i1 hA ej
      have hI2 := App_Inv hA hI
      have hM2 := MSt_Ap hM hI hA
      refine dr_iload rfl rfl ?_
      refine di_const rfl ?_
      refine di_icmp_ge rfl rfl (by omega) (by omega) (by omega) (by omega) (fun c => ?_) (fun c => ?_)
      · have ei : i = 3 := by omega
        subst ei
        refine dr_lload rfl rfl ?_
        refine dr_ldc2 rfl ?_
        refine dr_lmul rfl rfl ?_
        refine di_aload_n rfl rfl ?_
        refine dr_iload_n rfl rfl ?_
        refine di_const rfl ?_
        refine dr_virt rfl rfl rfl rfl (App_at hA c26) (n_X8_deepestOf l hl hI2 hM2 (a1 := a2) (by omega) (by omega) (a2 := 0) (by omega) (by omega) er eq (App_at hA hu) (App_at hA hw) au aw (App_at hA h35) as hr s0 s8 ) (by decide) (by omega) (by omega) (Nat.le_of_ble_eq_true rfl) kNP (kIP (fun y11 y11f y11a y11b => ?_))
        obtain ⟨-, -, y11k⟩ := y11f
        subst y11k
        refine dr_i2l rfl rfl ?_
        refine dr_ladd rfl (v := ds j (anDeep (σ.1 a2) 0)) rfl ?_
        refine di_lstore (ls2 := [some (.ref 26), some (.long a1), none, some (dI a2), some (.long (ds j (anDeep (σ.1 a2) 0))), none, some (dI (3)), none]) rfl rfl rfl rfl ?_
        refine dr_lload rfl rfl ?_
        refine dr_ldc2 rfl ?_
        refine dr_lmul rfl rfl ?_
        refine di_aload_n rfl rfl ?_
        refine dr_iload_n rfl rfl ?_
        refine di_const rfl ?_
        refine dr_virt rfl rfl rfl rfl (App_at hA c26) (n_X8_deepestOf l hl hI2 hM2 (a1 := a2) (by omega) (by omega) (a2 := 1) (by omega) (by omega) er eq (App_at hA hu) (App_at hA hw) au aw (App_at hA h35) as hr s0 s8 ) (by decide) (by omega) (by omega) (Nat.le_of_ble_eq_true rfl) kNP (kIP (fun y12 y12f y12a y12b => ?_))
        obtain ⟨-, -, y12k⟩ := y12f
        subst y12k
        refine dr_i2l rfl rfl ?_
        refine dr_ladd rfl (v := ds (ds j (anDeep (σ.1 a2) 0)) (anDeep (σ.1 a2) 1)) rfl ?_
        refine di_lstore (ls2 := [some (.ref 26), some (.long a1), none, some (dI a2), some (.long (ds (ds j (anDeep (σ.1 a2) 0)) (anDeep (σ.1 a2) 1))), none, some (dI (3)), none]) rfl rfl rfl rfl ?_
        refine dr_lload rfl rfl ?_
        refine dr_ldc2 rfl ?_
        refine dr_lmul rfl rfl ?_
        refine di_aload_n rfl rfl ?_
        refine dr_iload_n rfl rfl ?_
        refine dr_virt rfl rfl rfl rfl (App_at hA c26) (n_X8_roomCount l hl hI2 hM2 (a1 := a2) (by omega) (by omega) er eq (App_at hA hu) (App_at hA hw) au aw (App_at hA h35) as hr s0 s8 hT) (by decide) (by omega) (by omega) (Nat.le_of_ble_eq_true rfl) kAN (kAI (fun y13 h14 hA15 y13f y13a y13b => ?_))
        have hA16 := App_tr hA hA15
        have hI17 := App_Inv hA16 hI
        have hM18 := MSt_Ap hM hI hA16
        obtain ⟨-, y13k⟩ := y13f
        subst y13k
        refine dr_i2l rfl rfl ?_
        refine dr_ladd rfl (v := ds (ds (ds j (anDeep (σ.1 a2) 0)) (anDeep (σ.1 a2) 1)) (anRooms (σ.1 a2))) rfl ?_
        refine di_lstore (ls2 := [some (.ref 26), some (.long a1), none, some (dI a2), some (.long (ds (ds (ds j (anDeep (σ.1 a2) 0)) (anDeep (σ.1 a2) 1)) (anRooms (σ.1 a2)))), none, some (dI (3)), none]) rfl rfl rfl rfl ?_
        refine di_const rfl ?_
        refine di_istore (ls2 := [some (.ref 26), some (.long a1), none, some (dI a2), some (.long (ds (ds (ds j (anDeep (σ.1 a2) 0)) (anDeep (σ.1 a2) 1)) (anRooms (σ.1 a2)))), none, some (dI (0)), none]) rfl rfl rfl ?_
        exact L3 _ 0 _ none h14 _ _ (Nat.lt_succ_self _) (by omega) (by omega) (by omega) (by omega) hA16 (by rw [ej]; rfl)
      refine dr_lload rfl rfl ?_
      refine dr_ldc2 rfl ?_
      refine dr_lmul rfl rfl ?_
      refine di_aload_n rfl rfl ?_
      refine dr_iload_n rfl rfl ?_
      refine dr_iload rfl rfl ?_
      refine dr_virt rfl rfl rfl rfl (App_at hA c26) (n_X8_chosenAt l hl hI2 hM2 (a1 := a2) (by omega) (by omega) (a2 := i) (by omega) (by omega) er eq (App_at hA hu) (App_at hA hw) au aw (App_at hA h35) as hr s0 s8 ) (by decide) (by omega) (by omega) (Nat.le_of_ble_eq_true rfl) kNP (kIP (fun y19 y19f y19a y19b => ?_))
      obtain ⟨-, -, -, y19k⟩ := y19f
      have y19k : anChosen (σ.1 a2) i = y19 := y19k
      subst y19k
      refine dr_i2l rfl rfl ?_
      refine dr_ladd rfl (v := ds j (anChosen (σ.1 a2) i)) rfl ?_
      refine di_lstore (ls2 := [some (.ref 26), some (.long a1), none, some (dI a2), some (.long (ds j (anChosen (σ.1 a2) i))), none, some (dI (i)), none]) rfl rfl rfl rfl ?_
      refine di_iinc (ls2 := [some (.ref 26), some (.long a1), none, some (dI a2), some (.long (ds j (anChosen (σ.1 a2) i))), none, some (dI (i + 1)), none]) rfl rfl rfl rfl ?_
      refine dr_goto rfl rfl ?_
      exact ih (i + 1) _ h2 (by omega) (by omega) (by omega) hA (dsN_s i0 ej)
  have L1 : ∀ (k : Nat) (i : Int) (j : Int64) (h2 : dm_H), (6 - i).toNat < k → 0 ≤ i → i ≤ 6 → App h h2 → j = dsN a1 (anBook (σ.1 a2)) i.toNat → dm_W (fun _ _ _ => True) (dm_P (QA h (RLd (dS (σ.1 a2) (dB (σ.1 a2) a1) (zF (σ.1 a2)).toNat))) 20 320) l 223 5 20 320 6 [some (.ref 26), some (.long a1), none, some (dI a2), some (.long j), none, some (dI (i)), none] [] h2 0 0 := by
    intro k
    induction k with
    | zero => intro i j h2 hm; exact absurd hm (Nat.not_lt_zero _)
    | succ k ih =>
      intro i j h2 hm i0 i1 hA ej
      have hI2 := App_Inv hA hI
      have hM2 := MSt_Ap hM hI hA
      refine dr_iload rfl rfl ?_
      refine di_bipush rfl (by decide) ?_
      refine di_icmp_ge rfl rfl (by omega) (by omega) (by omega) (by omega) (fun c => ?_) (fun c => ?_)
      · have ei : i = 6 := by omega
        subst ei
        refine dr_lload rfl rfl ?_
        refine dr_ldc2 rfl ?_
        refine dr_lmul rfl rfl ?_
        refine di_aload_n rfl rfl ?_
        refine dr_iload_n rfl rfl ?_
        refine dr_virt rfl rfl rfl rfl (App_at hA c26) (n_X8_mostOf l hl hI2 hM2 (a1 := a2) (by omega) (by omega) er eq (App_at hA hu) (App_at hA hw) au aw (App_at hA h35) as hr s0 s8 ) (by decide) (by omega) (by omega) (Nat.le_of_ble_eq_true rfl) kNP (kIP (fun y20 y20f y20a y20b => ?_))
        obtain ⟨-, -, y20k⟩ := y20f
        subst y20k
        refine dr_i2l rfl rfl ?_
        refine dr_ladd rfl (v := ds j (anMost (σ.1 a2))) rfl ?_
        refine di_lstore (ls2 := [some (.ref 26), some (.long a1), none, some (dI a2), some (.long (ds j (anMost (σ.1 a2)))), none, some (dI (6)), none]) rfl rfl rfl rfl ?_
        refine di_const rfl ?_
        refine di_istore (ls2 := [some (.ref 26), some (.long a1), none, some (dI a2), some (.long (ds j (anMost (σ.1 a2)))), none, some (dI (0)), none]) rfl rfl rfl ?_
        exact L2 _ 0 _ h2 (Nat.lt_succ_self _) (by omega) (by omega) hA (by rw [ej]; rfl)
      refine dr_lload rfl rfl ?_
      refine dr_ldc2 rfl ?_
      refine dr_lmul rfl rfl ?_
      refine di_aload_n rfl rfl ?_
      refine dr_iload_n rfl rfl ?_
      refine dr_iload rfl rfl ?_
      refine dr_virt rfl rfl rfl rfl (App_at hA c26) (n_X8_bookTold l hl hI2 hM2 (a1 := a2) (by omega) (by omega) (a2 := i) (by omega) (by omega) er eq (App_at hA hu) (App_at hA hw) au aw (App_at hA h35) as hr s0 s8 hT) (by decide) (by omega) (by omega) (Nat.le_of_ble_eq_true rfl) kNP (kIP (fun y21 y21f y21a y21b => ?_))
      obtain ⟨-, -, y21k⟩ := y21f
      subst y21k
      refine dr_i2l rfl rfl ?_
      refine dr_ladd rfl (v := ds j (anBook (σ.1 a2) i)) rfl ?_
      refine di_lstore (ls2 := [some (.ref 26), some (.long a1), none, some (dI a2), some (.long (ds j (anBook (σ.1 a2) i))), none, some (dI (i)), none]) rfl rfl rfl rfl ?_
      refine di_iinc (ls2 := [some (.ref 26), some (.long a1), none, some (dI a2), some (.long (ds j (anBook (σ.1 a2) i))), none, some (dI (i + 1)), none]) rfl rfl rfl rfl ?_
      refine dr_goto rfl rfl ?_
      exact ih (i + 1) _ h2 (by omega) (by omega) (by omega) hA (dsN_s i0 ej)
  refine dr_lload_n rfl rfl ?_
  refine di_lstore (ls2 := [some (.ref 26), some (.long a1), none, some (dI a2), some (.long a1), none, none, none]) rfl rfl rfl rfl ?_
  refine di_const rfl ?_
  refine di_istore (ls2 := [some (.ref 26), some (.long a1), none, some (dI a2), some (.long a1), none, some (dI (0)), none]) rfl rfl rfl ?_
  exact L1 _ 0 a1 h (Nat.lt_succ_self _) (by omega) (by omega) App_rf rfl
set_option maxHeartbeats 4000000 in
set_option maxRecDepth 100000 in
theorem n_X8_digest (l : Launch) (hl : l.stackTraces = false) {kc km : Int} {h : dm_H} (hI : Inv kc km h) {th : Int} {σ : St} (hM : MSt km th σ h) (hT : sSt σ) : dm_M l 224 8 110 2700 [.ref 26] h (QMD kc km h σ (dig σ km)) := by
  obtain ⟨⟨ni, c26, ni0, ni1⟩, ⟨⟨R1, R2⟩, ⟨R3, R4⟩, ⟨R5, R6⟩, ⟨R7, R8⟩, ⟨R9, R10⟩, ⟨R11, R12⟩, R13⟩, ⟨th0, th1⟩, -⟩ := id hM
  refine dm_M_of dk_224 hl rfl (Nat.le_of_ble_eq_true rfl) ?_
  show dm_W (fun _ _ _ => True) (dm_P (QMD kc km h σ (dig σ km)) 110 2700) l 224 8 110 2700 0 [some (.ref 26), none, none, none] [] h 0 0
  refine di_aload_n rfl rfl ?_
  refine di_const rfl ?_
  refine pfX rfl c26 (Nat.le_of_ble_eq_true rfl) rfl hI (by decide) (T37_md (by omega) (by omega) (by omega) (by omega) (by omega) (by omega) (by omega) (by omega) R13) (fun h1 hI1 hk1 hc1 => ?_)
  have hM1 : MSt km 0 σ h1 := MSt_md hM hk1 (ni' := ni) hc1 rfl ⟨⟨R1, R2⟩, ⟨R3, R4⟩, ⟨R5, R6⟩, ⟨R7, R8⟩, ⟨R9, R10⟩, ⟨R11, R12⟩, R13⟩ ⟨by omega, by omega⟩ ⟨ni0, ni1⟩
  have hF1 := FrM_N (FrM_I hk1 (by decide) (by decide))
  have L4 : ∀ (j : Int64) (o : Option Value) (h2 : dm_H) (ce sl : Nat), ce ≤ 60 → sl ≤ 960 → App h1 h2 → ds j 1 = dig σ km → dm_W (fun _ _ _ => True) (dm_P (QMD kc km h σ (dig σ km)) 110 2700) l 224 8 110 2700 90 [some (.ref 26), some (.long j), none, o] [] h2 ce sl := by
    intro j o h2 ce sl hce hsl hA ej
    have hI2 := App_Inv hA hI1
    have hM2 := MSt_Ap hM1 hI1 hA
    have d26 := App_at hA hc1
    refine dr_lload_n rfl rfl ?_
    refine dr_ldc2 rfl ?_
    refine dr_lmul rfl rfl ?_
    refine di_aload_n rfl rfl ?_
    refine dr_virt rfl rfl rfl rfl d26 (n_X8_isAllSound l hl hI2 hM2 hT) (by decide) (by omega) (by omega) (Nat.le_of_ble_eq_true rfl) kAN (kAI (fun y h3 hA3 yf ya yb => ?_))
    have yf : y = 1 := yf
    subst yf
    refine di_if_eq rfl rfl (by omega) (by omega) (fun c9 => absurd c9 (by decide)) (fun _ => ?_)
    refine di_const rfl ?_
    refine dr_goto rfl rfl ?_
    refine dr_i2l rfl rfl ?_
    refine dr_ladd rfl (v := ds j 1) rfl ?_
    have hB := App_tr hA hA3
    exact dr_lret rfl rfl (by omega) (by omega) ⟨App_Inv hB hI1, FrN_tr hF1 (App_N hB), MSt_Ap hM1 hI1 hB, by rw [ej]⟩
  have L3 : ∀ (k : Nat) (i : Int) (j : Int64) (h2 : dm_H) (ce sl : Nat), (6 - i).toNat < k → 0 ≤ i → i ≤ 6 → ce ≤ 60 → sl ≤ 960 → App h1 h2 → ((σ.2.1.1 = -1 ∧ j = digD σ km) ∨ (σ.2.1.1 ≠ -1 ∧ j = dsN (digD σ km) (anPart σ) i.toNat)) → (σ.2.1.1 = -1 → i = 0) → dm_W (fun _ _ _ => True) (dm_P (QMD kc km h σ (dig σ km)) 110 2700) l 224 8 110 2700 57 [some (.ref 26), some (.long j), none, some (dI (i))] [] h2 ce sl := by
    intro k
    induction k with
    | zero => intro i j h2 ce sl hm; exact absurd hm (Nat.not_lt_zero _)
    | succ k ih =>
      intro i j h2 ce sl hm i0 i1 hce hsl hA ej ez
      have hI2 := App_Inv hA hI1
      have hM2 := MSt_Ap hM1 hI1 hA
      have d26 := App_at hA hc1
      refine dr_iload_n rfl rfl ?_
      refine di_bipush rfl (by decide) ?_
      refine di_icmp_ge rfl rfl (by omega) (by omega) (by omega) (by omega) (fun c => ?_) (fun c => ?_)
      · have ei : i = 6 := by omega
        subst ei
        rcases ej with ⟨e1, -⟩ | ⟨e1, e2⟩
        · have := ez e1; omega
        · exact L4 j _ h2 ce sl hce hsl hA (dig_y e1 e2)
      refine di_aload_n rfl rfl ?_
      refine dr_getf rfl d26 rfl ?_
      refine di_const rfl ?_
      refine di_icmp_eq rfl rfl (by omega) (by omega) (by omega) (by omega) (fun c2 => ?_) (fun c2 => ?_)
      · rcases ej with ⟨e1, e2⟩ | ⟨e1, -⟩
        · exact L4 j _ h2 ce sl hce hsl hA (dig_n e1 e2)
        · exact absurd c2 e1
      have ej : j = dsN (digD σ km) (anPart σ) i.toNat := by
        rcases ej with ⟨e1, -⟩ | ⟨-, e2⟩
        · exact absurd e1 c2
        · exact e2
      refine dr_lload_n rfl rfl ?_
      refine dr_ldc2 rfl ?_
      refine dr_lmul rfl rfl ?_
      refine di_aload_n rfl rfl ?_
      refine dr_iload_n rfl rfl ?_
      refine dr_virt rfl rfl rfl rfl d26 (n_X8_partTold l hl hI2 hM2 (a1 := i) (by omega) (by omega) (by omega)) (by decide) (by omega) (by omega) (Nat.le_of_ble_eq_true rfl) kNP (kIP (fun y22 y22f y22a y22b => ?_))
      obtain ⟨-, -, y22k⟩ := y22f
      subst y22k
      refine dr_i2l rfl rfl ?_
      refine dr_ladd rfl (v := ds j (anPart σ i)) rfl ?_
      refine di_lstore_n (ls2 := [some (.ref 26), some (.long (ds j (anPart σ i))), none, some (dI (i))]) rfl rfl rfl rfl ?_
      refine di_iinc (ls2 := [some (.ref 26), some (.long (ds j (anPart σ i))), none, some (dI (i + 1))]) rfl rfl rfl rfl ?_
      refine dr_goto rfl rfl ?_
      exact ih (i + 1) _ h2 ce sl (by omega) (by omega) (by omega) hce hsl hA (Or.inr ⟨c2, dsN_s i0 ej⟩) (fun e => absurd e c2)
  have L2 : ∀ (k : Nat) (i : Int) (j : Int64) (h2 : dm_H) (ce sl : Nat), (3 - i).toNat < k → 0 ≤ i → i ≤ 3 → ce + 20 * (3 - i).toNat ≤ 60 → sl + 320 * (3 - i).toNat ≤ 960 → App h1 h2 → j = dBk σ (dsN (Int64.ofNat 7945) (anHouse σ km) 5) i.toNat → dm_W (fun _ _ _ => True) (dm_P (QMD kc km h σ (dig σ km)) 110 2700) l 224 8 110 2700 37 [some (.ref 26), some (.long j), none, some (dI (i))] [] h2 ce sl := by
    intro k
    induction k with
    | zero => intro i j h2 ce sl hm; exact absurd hm (Nat.not_lt_zero _)
    | succ k ih =>
      intro i j h2 ce sl hm i0 i1 hce hsl hA ej
      have hI2 := App_Inv hA hI1
      have hM2 := MSt_Ap hM1 hI1 hA
      have d26 := App_at hA hc1
      refine dr_iload_n rfl rfl ?_
      refine di_const rfl ?_
      refine di_icmp_ge rfl rfl (by omega) (by omega) (by omega) (by omega) (fun c => ?_) (fun c => ?_)
      · have ei : i = 3 := by omega
        subst ei
        have ej : j = digD σ km := ej
        refine di_const rfl ?_
        refine di_istore_n (ls2 := [some (.ref 26), some (.long j), none, some (dI (0))]) rfl rfl rfl ?_
        refine L3 _ 0 j h2 ce sl (Nat.lt_succ_self _) (by omega) (by omega) (by omega) (by omega) hA ?_ (fun _ => rfl)
        by_cases e : σ.2.1.1 = -1
        · exact Or.inl ⟨e, ej⟩
        · exact Or.inr ⟨e, ej⟩
      refine di_aload_n rfl rfl ?_
      refine dr_lload_n rfl rfl ?_
      refine dr_iload_n rfl rfl ?_
      refine dr_virt rfl rfl rfl rfl d26 (n_X8_bookDigest l hl hI2 hM2 hT (a1 := j) (a2 := i) i0 (by omega)) (by decide) (by omega) (by omega) (Nat.le_of_ble_eq_true rfl) kAN (kALd (fun h3 hA3 => ?_))
      refine di_lstore_n (ls2 := [some (.ref 26), some (.long (dS (σ.1 i) (dB (σ.1 i) j) (zF (σ.1 i)).toNat)), none, some (dI (i))]) rfl rfl rfl rfl ?_
      refine di_iinc (ls2 := [some (.ref 26), some (.long (dS (σ.1 i) (dB (σ.1 i) j) (zF (σ.1 i)).toNat)), none, some (dI (i + 1))]) rfl rfl rfl rfl ?_
      refine dr_goto rfl rfl ?_
      exact ih (i + 1) _ h3 _ _ (by omega) (by omega) (by omega) (by omega) (by omega) (App_tr hA hA3) (dBk_s i0 ej)
  have L1 : ∀ (k : Nat) (i : Int) (j : Int64) (h2 : dm_H), (5 - i).toNat < k → 0 ≤ i → i ≤ 5 → App h1 h2 → j = dsN (Int64.ofNat 7945) (anHouse σ km) i.toNat → dm_W (fun _ _ _ => True) (dm_P (QMD kc km h σ (dig σ km)) 110 2700) l 224 8 110 2700 11 [some (.ref 26), some (.long j), none, some (dI (i))] [] h2 0 0 := by
    intro k
    induction k with
    | zero => intro i j h2 hm; exact absurd hm (Nat.not_lt_zero _)
    | succ k ih =>
      intro i j h2 hm i0 i1 hA ej
      have hI2 := App_Inv hA hI1
      have hM2 := MSt_Ap hM1 hI1 hA
      have d26 := App_at hA hc1
      refine dr_iload_n rfl rfl ?_
      refine di_const rfl ?_
      refine di_icmp_ge rfl rfl (by omega) (by omega) (by omega) (by omega) (fun c => ?_) (fun c => ?_)
      · have ei : i = 5 := by omega
        subst ei
        refine di_const rfl ?_
        refine di_istore_n (ls2 := [some (.ref 26), some (.long j), none, some (dI (0))]) rfl rfl rfl ?_
        exact L2 _ 0 j h2 0 0 (Nat.lt_succ_self _) (by omega) (by omega) (by omega) (by omega) hA ej
      refine dr_lload_n rfl rfl ?_
      refine dr_ldc2 rfl ?_
      refine dr_lmul rfl rfl ?_
      refine di_aload_n rfl rfl ?_
      refine dr_iload_n rfl rfl ?_
      refine dr_virt rfl rfl rfl rfl d26 (n_X8_houseTold l hl hI2 hM2 (a1 := i) (by omega) (by omega)) (by decide) (by omega) (by omega) (Nat.le_of_ble_eq_true rfl) kNP (kIP (fun y23 y23f y23a y23b => ?_))
      have y23k : anHouse σ km i = y23 := y23f
      clear y23f
      subst y23k
      refine dr_i2l rfl rfl ?_
      refine dr_ladd rfl (v := ds j (anHouse σ km i)) rfl ?_
      refine di_lstore_n (ls2 := [some (.ref 26), some (.long (ds j (anHouse σ km i))), none, some (dI (i))]) rfl rfl rfl rfl ?_
      refine di_iinc (ls2 := [some (.ref 26), some (.long (ds j (anHouse σ km i))), none, some (dI (i + 1))]) rfl rfl rfl rfl ?_
      refine dr_goto rfl rfl ?_
      exact ih (i + 1) _ h2 (by omega) (by omega) (by omega) hA (dsN_s i0 ej)
  refine dr_ldc2 rfl ?_
  refine di_lstore_n (ls2 := [some (.ref 26), some (.long (Int64.ofNat 7945)), none, none]) rfl rfl rfl rfl ?_
  refine di_const rfl ?_
  refine di_istore_n (ls2 := [some (.ref 26), some (.long (Int64.ofNat 7945)), none, some (dI (0))]) rfl rfl rfl ?_
  exact L1 _ 0 _ h1 (Nat.lt_succ_self _) (by omega) (by omega) App_rf rfl
