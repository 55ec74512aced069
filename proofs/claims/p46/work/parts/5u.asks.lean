/-! ===== the digest ===== -/
def ds (d : Int64) (v : Int) : Int64 := d * Int64.ofNat 31 + (Int32.ofInt v).toInt64
def dsN (d : Int64) (g : Int → Int) : Nat → Int64
  | 0 => d
  | n + 1 => ds (dsN d g n) (g n)
theorem dsN_s {d j : Int64} {g : Int → Int} {i : Int} (i0 : 0 ≤ i) (e : j = dsN d g i.toNat) : ds j (g i) = dsN d g (i + 1).toNat := by
  have e1 : (i + 1).toNat = i.toNat + 1 := by omega
  have e2 : ((i.toNat : Nat) : Int) = i := by omega
  rw [e1, e]
  show ds _ (g i) = ds _ (g (i.toNat : Nat))
  rw [e2]
noncomputable def dB (F : Int → Int) (d : Int64) : Int64 := ds (ds (ds (dsN (ds (dsN d (anBook F) 6) (anMost F)) (anChosen F) 3) (anDeep F 0)) (anDeep F 1)) (anRooms F)
noncomputable def dC (F : Int → Int) (d : Int64) (r : Int) : Int64 := ds (ds (ds (ds (ds d (cR F r)) (F (cR F r))) (anRoomOf F (cR F r))) (anNear F 0 (cR F r))) (anNear F 3 (cR F r))
noncomputable def dS (F : Int → Int) (d : Int64) : Nat → Int64
  | 0 => d
  | n + 1 => dC F (dS F d n) n
theorem dS_s {F : Int → Int} {d j : Int64} {i : Int} (i0 : 0 ≤ i) (e : j = dS F d i.toNat) : dC F j i = dS F d (i + 1).toNat := by
  have e1 : (i + 1).toNat = i.toNat + 1 := by omega
  have e2 : ((i.toNat : Nat) : Int) = i := by omega
  rw [e1, e]
  show dC F _ i = dC F _ (i.toNat : Nat)
  rw [e2]
noncomputable def dBk (σ : St) (d : Int64) : Nat → Int64
  | 0 => d
  | n + 1 => dS (σ.1 n) (dB (σ.1 n) (dBk σ d n)) (zF (σ.1 n)).toNat
theorem dBk_s {σ : St} {d j : Int64} {i : Int} (i0 : 0 ≤ i) (e : j = dBk σ d i.toNat) : dS (σ.1 i) (dB (σ.1 i) j) (zF (σ.1 i)).toNat = dBk σ d (i + 1).toNat := by
  have e1 : (i + 1).toNat = i.toNat + 1 := by omega
  have e2 : ((i.toNat : Nat) : Int) = i := by omega
  rw [e1, e]
  show dS (σ.1 i) _ _ = dS (σ.1 (i.toNat : Nat)) _ _
  rw [e2]
noncomputable def digD (σ : St) (kc : Int) : Int64 := dBk σ (dsN (Int64.ofNat 7945) (anHouse σ kc) 5) 3
noncomputable def dig (σ : St) (kc : Int) : Int64 := ds (if σ.2.1.1 = -1 then digD σ kc else dsN (digD σ kc) (anPart σ) 6) 1
theorem dig_n {σ : St} {kc : Int} {j : Int64} (h : σ.2.1.1 = -1) (e : j = digD σ kc) : ds j 1 = dig σ kc := by unfold dig; rw [if_pos h, e]
theorem dig_y {σ : St} {kc : Int} {j : Int64} (h : σ.2.1.1 ≠ -1) (e : j = dsN (digD σ kc) (anPart σ) 6) : ds j 1 = dig σ kc := by unfold dig; rw [if_neg h, e]
def QD (kc km : Int) (h : dm_H) (B : Int) (σ : St) (d : Int64) : dm_Rs := fun r h' => Inv kc km h' ∧ FrC h h' ∧ CSt B σ h' ∧ r = .inl (some (.long d))
theorem FrT_C {h h1 : dm_H} (a : FrT h h1) : FrC h h1 := ⟨a.1, fun j x => a.2 j (by omega)⟩
section QDR
variable {E : dm_Ex} {P : dm_Po} {l : Launch} {z d MC MS pc ce sl : Nat} {ls : List (Option Value)} {st : List Value} {h : dm_H} {kc km B a : Int} {σ : St} {X1 X2 : String} {q : Int × Int × St} {D : Int64}
theorem kQX0 (e : q = (0, a, σ)) (kk : ∀ h1 : dm_H, Inv kc km h1 → FrC h h1 → CSt B σ h1 → dm_W E P l z d MC MS pc ls (dI a :: st) h1 ce sl) : ∀ (v : Option Value) (h1 : dm_H), QX kc km h B X1 X2 q (.inl v) h1 → dm_W E P l z d MC MS pc ls (v.toList ++ st) h1 ce sl := by
  subst e
  rintro v h1 ⟨x, y, w, ⟨e1, e2⟩ | ⟨e1, e2⟩ | ⟨e1, e2⟩⟩
  · cases e2; exact kk h1 x y w
  · cases e2
  · cases e2
theorem kQX0N (e : q = (0, a, σ)) : ∀ (Y : String) (h1 : dm_H), QX kc km h B X1 X2 q (.inr Y) h1 → dm_T9 E P l z d MC MS Y pc ls h1 ce sl := by
  subst e
  rintro Y h1 ⟨x, y, w, ⟨e1, e2⟩ | ⟨e1, e2⟩ | ⟨e1, e2⟩⟩
  · cases e2
  · exact absurd (show (0 : Int) = 1 from e1) (by decide)
  · exact absurd (show (0 : Int) = 2 from e1) (by decide)
theorem kQD (kk : ∀ h1 : dm_H, Inv kc km h1 → FrC h h1 → CSt B σ h1 → dm_W E P l z d MC MS pc ls (.long D :: st) h1 ce sl) : ∀ (v : Option Value) (h1 : dm_H), QD kc km h B σ D (.inl v) h1 → dm_W E P l z d MC MS pc ls (v.toList ++ st) h1 ce sl := by
  rintro v h1 ⟨x, y, w, e⟩
  cases e
  exact kk h1 x y w
theorem kQDN : ∀ (Y : String) (h1 : dm_H), QD kc km h B σ D (.inr Y) h1 → dm_T9 E P l z d MC MS Y pc ls h1 ce sl := fun _ _ q => by cases q.2.2.2
theorem kQS1 (kk : ∀ h1 : dm_H, Inv kc km h1 → FrT h h1 → dm_W E P l z d MC MS pc ls (dI 1 :: st) h1 ce sl) : ∀ (v : Option Value) (h1 : dm_H), QS1 kc km h (.inl v) h1 → dm_W E P l z d MC MS pc ls (v.toList ++ st) h1 ce sl := by
  rintro v h1 ⟨x, y, e⟩
  cases e
  exact kk h1 x y
theorem kQS1N : ∀ (Y : String) (h1 : dm_H), QS1 kc km h (.inr Y) h1 → dm_T9 E P l z d MC MS Y pc ls h1 ce sl := fun _ _ q => by cases q.2.2
end QDR
theorem ob_0 {σ : St} {b k : Int} (h : 0 ≤ b ∧ b ≤ 2) (h2 : 0 ≤ k ∧ k ≤ 5) : spOfBook σ b k = (0, anBook (σ.1 b) k, σ) := by unfold spOfBook; rw [if_neg (by omega), if_neg (by omega)]
theorem op_0 {σ : St} {k : Int} (h2 : 0 ≤ k ∧ k ≤ 5) (h : σ.2.1.1 ≠ -1) : spOfPart σ k = (0, anPart σ k, σ) := by unfold spOfPart; rw [if_neg (by omega), if_neg h]
theorem mo_0s {σ : St} {b : Int} (h : 0 ≤ b ∧ b ≤ 2) : spMost σ b = (0, anMost (σ.1 b), σ) := by unfold spMost; rw [if_neg (by omega)]
theorem ch_0s {σ : St} {b k : Int} (h : 0 ≤ b ∧ b ≤ 2) (h2 : 0 ≤ k) : spChosen σ b k = (0, anChosen (σ.1 b) k, σ) := by unfold spChosen; rw [if_neg (by omega), if_neg (by omega)]
theorem de_0s {σ : St} {b k : Int} (h : 0 ≤ b ∧ b ≤ 2) : spDeepest σ b k = (0, anDeep (σ.1 b) k, σ) := by unfold spDeepest; rw [if_neg (by omega)]
theorem ro_0s {σ : St} {b : Int} (h : 0 ≤ b ∧ b ≤ 2) : spRooms σ b = (0, anRooms (σ.1 b), σ) := by unfold spRooms; rw [if_neg (by omega)]
theorem rf_0s {σ : St} {b f t c : Int} (h : 0 ≤ b ∧ b ≤ 2) (h2 : 0 ≤ f ∧ f ≤ t ∧ t ≤ 99) (e : 100 * t + f = c) : spRoomOf σ b f t = (0, anRoomOf (σ.1 b) c, σ) := by unfold spRoomOf; rw [if_neg (by omega), if_neg (by omega), e]
theorem ne_0s {σ : St} {b f t k c : Int} (h : 0 ≤ b ∧ b ≤ 2) (h2 : 0 ≤ f ∧ f ≤ t ∧ t ≤ 99) (h3 : 0 ≤ k ∧ k ≤ 5) (e : 100 * t + f = c) : spNear σ b f t k = (0, anNear (σ.1 b) k c, σ) := by unfold spNear; rw [if_neg (by omega), if_neg (by omega), e]
set_option maxHeartbeats 4000000 in
set_option maxRecDepth 100000 in
theorem f_X6_digestBook (l : Launch) (hl : l.stackTraces = false) {kc km : Int} {h : dm_H} (hI : Inv kc km h) {B : Int} {σ : St} (hS : CSt B σ h) (hB : B ≤ 80000) {a1 : Int64} {a2 : Int} (h2a : 0 ≤ a2) (h2b : a2 ≤ 2) : dm_M l 103 7 104 624 [.ref 0, .long a1, dI a2] h (QD kc km h B σ (dB (σ.1 a2) a1)) := by
  refine dm_M_of dk_103 hl rfl (Nat.le_of_ble_eq_true rfl) ?_
  show dm_W (fun _ _ _ => True) (dm_P (QD kc km h B σ (dB (σ.1 a2) a1)) 104 624) l 103 7 104 624 0 [some (.ref 0), some (.long a1), none, some (dI a2), none, none, none] [] h 0 0
  have L2 : ∀ (k : Nat) (i : Int) (j : Int64) (h2 : dm_H) (ce sl : Nat), (3 - i).toNat < k → 0 ≤ i → i ≤ 3 → ce + 8 * (3 - i).toNat ≤ 80 → sl + 48 * (3 - i).toNat ≤ 480 → Inv kc km h2 → FrC h h2 → CSt B σ h2 → j = dsN (ds (dsN a1 (anBook (σ.1 a2)) 6) (anMost (σ.1 a2))) (anChosen (σ.1 a2)) i.toNat → dm_W (fun _ _ _ => True) (dm_P (QD kc km h B σ (dB (σ.1 a2) a1)) 104 624) l 103 7 104 624 53 [some (.ref 0), some (.long a1), none, some (dI a2), some (.long j), none, some (dI (i))] [] h2 ce sl := by
    intro k
    induction k with
    | zero => intro i j h2 ce sl hm; exact absurd hm (Nat.not_lt_zero _)
    | succ k ih =>
      intro i j h2 ce sl hm i0 i1 hce hsl hI2 hF2 hS2 ej
      refine dr_iload rfl rfl ?_
      refine di_const rfl ?_
      refine di_icmp_gt rfl rfl (by omega) (by omega) (by omega) (by omega) (fun c => ?_) (fun c => ?_)
      · have ei : i = 3 := by omega
        subst ei
        show dm_W (fun _ _ _ => True) (dm_P (QD kc km h B σ (dB (σ.1 a2) a1)) 104 624) l 103 7 104 624 82 [some (.ref 0), some (.long a1), none, some (dI a2), some (.long j), none, some (dI (3))] [] h2 ce sl
        refine dr_lload rfl rfl ?_
        refine dr_ldc2 rfl ?_
        refine dr_lmul rfl rfl ?_
        refine di_aload_n rfl rfl ?_
        refine dr_iload_n rfl rfl ?_
        refine di_const rfl ?_
        obtain ⟨rc5, rc5a, rc5b, c5⟩ := I_cls hI2
        refine dr_virt rfl rfl rfl rfl c5 (c_X6_deepest l hl hI2 hS2 (by omega) (a1 := a2) (by omega) (by omega) (a2 := 0) (by omega) (by omega)) (by decide) (by omega) (by omega) (Nat.le_of_ble_eq_true rfl) (kQX0N (de_0s ⟨h2a, h2b⟩)) (kQX0 (de_0s ⟨h2a, h2b⟩) (fun h1 hI2 hF3 hS4 => ?_))
        have hF6 := FrC_tr hF2 hF3
        refine dr_i2l rfl rfl ?_
        refine dr_ladd rfl (v := ds j (anDeep (σ.1 a2) 0)) rfl ?_
        refine di_lstore (ls2 := [some (.ref 0), some (.long a1), none, some (dI a2), some (.long (ds j (anDeep (σ.1 a2) 0))), none, some (dI (3))]) rfl rfl rfl rfl ?_
        refine dr_lload rfl rfl ?_
        refine dr_ldc2 rfl ?_
        refine dr_lmul rfl rfl ?_
        refine di_aload_n rfl rfl ?_
        refine dr_iload_n rfl rfl ?_
        refine di_const rfl ?_
        obtain ⟨rc11, rc11a, rc11b, c11⟩ := I_cls hI2
        refine dr_virt rfl rfl rfl rfl c11 (c_X6_deepest l hl hI2 hS4 (by omega) (a1 := a2) (by omega) (by omega) (a2 := 1) (by omega) (by omega)) (by decide) (by omega) (by omega) (Nat.le_of_ble_eq_true rfl) (kQX0N (de_0s ⟨h2a, h2b⟩)) (kQX0 (de_0s ⟨h2a, h2b⟩) (fun h7 hI8 hF9 hS10 => ?_))
        have hF12 := FrC_tr hF6 hF9
        refine dr_i2l rfl rfl ?_
        refine dr_ladd rfl (v := ds (ds j (anDeep (σ.1 a2) 0)) (anDeep (σ.1 a2) 1)) rfl ?_
        refine di_lstore (ls2 := [some (.ref 0), some (.long a1), none, some (dI a2), some (.long (ds (ds j (anDeep (σ.1 a2) 0)) (anDeep (σ.1 a2) 1))), none, some (dI (3))]) rfl rfl rfl rfl ?_
        refine dr_lload rfl rfl ?_
        refine dr_ldc2 rfl ?_
        refine dr_lmul rfl rfl ?_
        refine di_aload_n rfl rfl ?_
        refine dr_iload_n rfl rfl ?_
        obtain ⟨rc17, rc17a, rc17b, c17⟩ := I_cls hI8
        refine dr_virt rfl rfl rfl rfl c17 (c_X6_rooms l hl hI8 hS10 (by omega) (a1 := a2) (by omega) (by omega)) (by decide) (by omega) (by omega) (Nat.le_of_ble_eq_true rfl) (kQX0N (ro_0s ⟨h2a, h2b⟩)) (kQX0 (ro_0s ⟨h2a, h2b⟩) (fun h13 hI14 hF15 hS16 => ?_))
        have hF18 := FrC_tr hF12 hF15
        refine dr_i2l rfl rfl ?_
        refine dr_ladd rfl (v := ds (ds (ds j (anDeep (σ.1 a2) 0)) (anDeep (σ.1 a2) 1)) (anRooms (σ.1 a2))) rfl ?_
        exact dr_lret rfl rfl (by omega) (by omega) ⟨hI14, hF18, hS16, by rw [ej]; rfl⟩
      refine dr_lload rfl rfl ?_
      refine dr_ldc2 rfl ?_
      refine dr_lmul rfl rfl ?_
      refine di_aload_n rfl rfl ?_
      refine dr_iload_n rfl rfl ?_
      refine dr_iload rfl rfl ?_
      obtain ⟨rc23, rc23a, rc23b, c23⟩ := I_cls hI2
      refine dr_virt rfl rfl rfl rfl c23 (c_X6_chosen l hl hI2 hS2 (by omega) (a1 := a2) (by omega) (by omega) (a2 := i) (by omega) (by omega)) (by decide) (by omega) (by omega) (Nat.le_of_ble_eq_true rfl) (kQX0N (ch_0s ⟨h2a, h2b⟩ i0)) (kQX0 (ch_0s ⟨h2a, h2b⟩ i0) (fun h19 hI20 hF21 hS22 => ?_))
      have hF24 := FrC_tr hF2 hF21
      refine dr_i2l rfl rfl ?_
      refine dr_ladd rfl (v := ds j (anChosen (σ.1 a2) i)) rfl ?_
      refine di_lstore (ls2 := [some (.ref 0), some (.long a1), none, some (dI a2), some (.long (ds j (anChosen (σ.1 a2) i))), none, some (dI (i))]) rfl rfl rfl rfl ?_
      refine di_iinc (ls2 := [some (.ref 0), some (.long a1), none, some (dI a2), some (.long (ds j (anChosen (σ.1 a2) i))), none, some (dI (i + 1))]) rfl rfl rfl rfl ?_
      refine dr_goto rfl rfl ?_
      exact ih (i + 1) _ h19 _ _ (by omega) (by omega) (by omega) (by omega) (by omega) hI20 hF24 hS22 (dsN_s i0 ej)
  have L1 : ∀ (k : Nat) (i : Int) (j : Int64) (h2 : dm_H) (ce sl : Nat), (6 - i).toNat < k → 0 ≤ i → i ≤ 6 → ce + 8 * (6 - i).toNat ≤ 48 → sl + 48 * (6 - i).toNat ≤ 288 → Inv kc km h2 → FrC h h2 → CSt B σ h2 → j = dsN a1 (anBook (σ.1 a2)) i.toNat → dm_W (fun _ _ _ => True) (dm_P (QD kc km h B σ (dB (σ.1 a2) a1)) 104 624) l 103 7 104 624 6 [some (.ref 0), some (.long a1), none, some (dI a2), some (.long j), none, some (dI (i))] [] h2 ce sl := by
    intro k
    induction k with
    | zero => intro i j h2 ce sl hm; exact absurd hm (Nat.not_lt_zero _)
    | succ k ih =>
      intro i j h2 ce sl hm i0 i1 hce hsl hI2 hF2 hS2 ej
      refine dr_iload rfl rfl ?_
      refine di_const rfl ?_
      refine di_icmp_gt rfl rfl (by omega) (by omega) (by omega) (by omega) (fun c => ?_) (fun c => ?_)
      · have ei : i = 6 := by omega
        subst ei
        refine dr_lload rfl rfl ?_
        refine dr_ldc2 rfl ?_
        refine dr_lmul rfl rfl ?_
        refine di_aload_n rfl rfl ?_
        refine dr_iload_n rfl rfl ?_
        obtain ⟨rc29, rc29a, rc29b, c29⟩ := I_cls hI2
        refine dr_virt rfl rfl rfl rfl c29 (c_X6_most l hl hI2 hS2 (by omega) (a1 := a2) (by omega) (by omega)) (by decide) (by omega) (by omega) (Nat.le_of_ble_eq_true rfl) (kQX0N (mo_0s ⟨h2a, h2b⟩)) (kQX0 (mo_0s ⟨h2a, h2b⟩) (fun h25 hI26 hF27 hS28 => ?_))
        have hF30 := FrC_tr hF2 hF27
        refine dr_i2l rfl rfl ?_
        refine dr_ladd rfl (v := ds j (anMost (σ.1 a2))) rfl ?_
        refine di_lstore (ls2 := [some (.ref 0), some (.long a1), none, some (dI a2), some (.long (ds j (anMost (σ.1 a2)))), none, some (dI (6))]) rfl rfl rfl rfl ?_
        refine di_const rfl ?_
        refine di_istore (ls2 := [some (.ref 0), some (.long a1), none, some (dI a2), some (.long (ds j (anMost (σ.1 a2)))), none, some (dI (0))]) rfl rfl rfl ?_
        exact L2 _ 0 _ h25 _ _ (Nat.lt_succ_self _) (by omega) (by omega) (by omega) (by omega) hI26 hF30 hS28 (by rw [ej]; rfl)
      refine dr_lload rfl rfl ?_
      refine dr_ldc2 rfl ?_
      refine dr_lmul rfl rfl ?_
      refine di_aload_n rfl rfl ?_
      refine dr_iload_n rfl rfl ?_
      refine dr_iload rfl rfl ?_
      obtain ⟨rc35, rc35a, rc35b, c35⟩ := I_cls hI2
      refine dr_virt rfl rfl rfl rfl c35 (c_X6_ofBook l hl hI2 hS2 (by omega) (a1 := a2) (by omega) (by omega) (a2 := i) (by omega) (by omega)) (by decide) (by omega) (by omega) (Nat.le_of_ble_eq_true rfl) (kQX0N (ob_0 ⟨h2a, h2b⟩ ⟨i0, by omega⟩)) (kQX0 (ob_0 ⟨h2a, h2b⟩ ⟨i0, by omega⟩) (fun h31 hI32 hF33 hS34 => ?_))
      have hF36 := FrC_tr hF2 hF33
      refine dr_i2l rfl rfl ?_
      refine dr_ladd rfl (v := ds j (anBook (σ.1 a2) i)) rfl ?_
      refine di_lstore (ls2 := [some (.ref 0), some (.long a1), none, some (dI a2), some (.long (ds j (anBook (σ.1 a2) i))), none, some (dI (i))]) rfl rfl rfl rfl ?_
      refine di_iinc (ls2 := [some (.ref 0), some (.long a1), none, some (dI a2), some (.long (ds j (anBook (σ.1 a2) i))), none, some (dI (i + 1))]) rfl rfl rfl rfl ?_
      refine dr_goto rfl rfl ?_
      exact ih (i + 1) _ h31 _ _ (by omega) (by omega) (by omega) (by omega) (by omega) hI32 hF36 hS34 (dsN_s i0 ej)
  refine dr_lload_n rfl rfl ?_
  refine di_lstore (ls2 := [some (.ref 0), some (.long a1), none, some (dI a2), some (.long a1), none, none]) rfl rfl rfl rfl ?_
  refine di_const rfl ?_
  refine di_istore (ls2 := [some (.ref 0), some (.long a1), none, some (dI a2), some (.long a1), none, some (dI (0))]) rfl rfl rfl ?_
  exact L1 _ 0 a1 h 0 0 (Nat.lt_succ_self _) (by omega) (by omega) (by omega) (by omega) hI FrC_rf hS rfl
set_option maxHeartbeats 4000000 in
set_option maxRecDepth 100000 in
theorem f_X6_digestSpans (l : Launch) (hl : l.stackTraces = false) {kc km : Int} {h : dm_H} (hI : Inv kc km h) {B : Int} {σ : St} (hS : CSt B σ h) (hB : B ≤ 80000) {a1 : Int64} {a2 : Int} (h2a : 0 ≤ a2) (h2b : a2 ≤ 2) : dm_M l 104 7 193 1158 [.ref 0, .long a1, dI a2] h (QD kc km h B σ (dS (σ.1 a2) a1 (zF (σ.1 a2)).toNat)) := by
  refine dm_M_of dk_104 hl rfl (Nat.le_of_ble_eq_true rfl) ?_
  show dm_W (fun _ _ _ => True) (dm_P (QD kc km h B σ (dS (σ.1 a2) a1 (zF (σ.1 a2)).toNat)) 193 1158) l 104 7 193 1158 0 [some (.ref 0), some (.long a1), none, some (dI a2), none, none, none, none, none, none] [] h 0 0
  refine dr_lload_n rfl rfl ?_
  refine di_lstore (ls2 := [some (.ref 0), some (.long a1), none, some (dI a2), some (.long a1), none, none, none, none, none]) rfl rfl rfl rfl ?_
  obtain ⟨rr, cr1, cr2, hc0⟩ := I_cls hI
  refine di_aload_n rfl rfl ?_
  refine dr_iload_n rfl rfl ?_
  refine dr_virt rfl rfl rfl rfl hc0 (f_X6_bookAt l hl hI (a1 := a2) (by omega) (by omega)) (by decide) (by decide) (by decide) (Nat.le_of_ble_eq_true rfl) (fun Y h9 q9 => by obtain ⟨rfl, rfl, hC⟩ := q9; omega) (kPXR (fun b ⟨hb, kb, b0, b1⟩ => ?_))
  refine di_astore (ls2 := [some (.ref 0), some (.long a1), none, some (dI a2), some (.long a1), none, some (.ref b), none, none, none]) rfl rfl rfl ?_
  refine di_const rfl ?_
  refine di_istore (ls2 := [some (.ref 0), some (.long a1), none, some (dI a2), some (.long a1), none, some (.ref b), some (dI (0)), none, none]) rfl rfl rfl ?_
  have L : ∀ (k : Nat) (i : Int) (j : Int64) (o1 o2 : Option Value) (h2 : dm_H) (ce sl : Nat), (8 - i).toNat < k → 0 ≤ i → i ≤ zF (σ.1 a2) → ce + 24 * (8 - i).toNat ≤ 193 → sl + 144 * (8 - i).toNat ≤ 1158 → Inv kc km h2 → FrC h h2 → CSt B σ h2 → j = dS (σ.1 a2) a1 i.toNat → dm_W (fun _ _ _ => True) (dm_P (QD kc km h B σ (dS (σ.1 a2) a1 (zF (σ.1 a2)).toNat)) 193 1158) l 104 7 193 1158 13 [some (.ref 0), some (.long a1), none, some (dI a2), some (.long j), none, some (.ref b), some (dI (i)), o1, o2] [] h2 ce sl := by
    intro k
    induction k with
    | zero => intro i j o1 o2 h2 ce sl hm; exact absurd hm (Nat.not_lt_zero _)
    | succ k ih =>
      intro i j o1 o2 h2 ce sl hm i0 i1 hce hsl hI2 hF2 hS2 ej
      obtain ⟨s, m, u, w, hA, hr, ht, ma, mb⟩ := CSt_bk hS2 (k := a2) h2a h2b kb
      have ez : zF (σ.1 a2) = s := zF_eq hr
      have s8 := hA.2.2.2.2.2.2.1
      refine dr_iload rfl rfl ?_
      refine di_aload rfl rfl ?_
      refine dr_virt rfl rfl rfl rfl hA.1 (f_X0_count l hl hI2 hb hA) (by decide) (by omega) (by omega) (Nat.le_of_ble_eq_true rfl) kNP (kIP (fun y yf ya yb => ?_))
      obtain ⟨yc, yd, ye⟩ := yf
      refine di_icmp_ge rfl rfl (by omega) (by omega) (by omega) (by omega) (fun c => ?_) (fun c => ?_)
      · refine dr_lload rfl rfl ?_
        exact dr_lret rfl rfl (by omega) (by omega) ⟨hI2, hF2, hS2, by rw [ej, show i = zF (σ.1 a2) by omega]⟩
      have hok := (CA_arr hA).1 i i0 (by omega)
      have h9 := Rep_yes hr i0 (show i < s by omega) rfl
      have h8 := Rep_at hr i0 (show i < s by omega)
      have eR : cR (σ.1 a2) i = cv u i := cR_eq hr ht i0 (by omega)
      refine di_aload rfl rfl ?_
      refine dr_iload rfl rfl ?_
      refine dr_virt rfl rfl rfl rfl hA.1 (f_X0_fromAt l hl hI2 hb hA (a1 := i) (by omega) (by omega)) (by decide) (by omega) (by omega) (Nat.le_of_ble_eq_true rfl) kNP (kIP (fun f ff fa fb => ?_))
      obtain ⟨-, -, fk, -, -⟩ := ff
      have fk := fk i0 (by omega)
      refine di_istore (ls2 := [some (.ref 0), some (.long a1), none, some (dI a2), some (.long j), none, some (.ref b), some (dI (i)), some (dI (f)), o2]) rfl rfl rfl ?_
      refine di_aload rfl rfl ?_
      refine dr_iload rfl rfl ?_
      refine dr_virt rfl rfl rfl rfl hA.1 (f_X0_toAt l hl hI2 hb hA (a1 := i) (by omega) (by omega)) (by decide) (by omega) (by omega) (Nat.le_of_ble_eq_true rfl) kNP (kIP (fun t tf ta tb => ?_))
      obtain ⟨-, -, tk, -, -⟩ := tf
      have tk := tk i0 (by omega)
      refine di_istore (ls2 := [some (.ref 0), some (.long a1), none, some (dI a2), some (.long j), none, some (.ref b), some (dI (i)), some (dI (f)), some (dI (t))]) rfl rfl rfl ?_
      have e100 : 100 * t + f = cv u i := by omega
      have hft : 0 ≤ f ∧ f ≤ t ∧ t ≤ 99 := by omega
      refine dr_lload rfl rfl ?_
      refine dr_ldc2 rfl ?_
      refine dr_lmul rfl rfl ?_
      refine di_aload rfl rfl ?_
      refine dr_iload rfl rfl ?_
      refine dr_virt rfl rfl rfl rfl hA.1 (f_X0_codeAt l hl hI2 hb hA (a1 := i) (by omega) (by omega)) (by decide) (by omega) (by omega) (Nat.le_of_ble_eq_true rfl) kNP (kIP (fun y37 y37f y37a y37b => ?_))
      obtain ⟨-, -, y37k, -, -⟩ := y37f
      have y37k := y37k i0 (by omega)
      subst y37k
      refine dr_i2l rfl rfl ?_
      refine dr_ladd rfl (v := ds j (cv u i)) rfl ?_
      refine di_lstore (ls2 := [some (.ref 0), some (.long a1), none, some (dI a2), some (.long (ds j (cv u i))), none, some (.ref b), some (dI (i)), some (dI (f)), some (dI (t))]) rfl rfl rfl rfl ?_
      refine dr_lload rfl rfl ?_
      refine dr_ldc2 rfl ?_
      refine dr_lmul rfl rfl ?_
      refine di_aload rfl rfl ?_
      refine dr_iload rfl rfl ?_
      refine dr_virt rfl rfl rfl rfl hA.1 (f_X0_noteAt l hl hI2 hb hA (a1 := i) (by omega) (by omega)) (by decide) (by omega) (by omega) (Nat.le_of_ble_eq_true rfl) kNP (kIP (fun y38 y38f y38a y38b => ?_))
      obtain ⟨-, -, y38k, -, -⟩ := y38f
      have y38k := y38k i0 (by omega)
      subst y38k
      refine dr_i2l rfl rfl ?_
      refine dr_ladd rfl (v := ds (ds j (cv u i)) (cv w i)) rfl ?_
      refine di_lstore (ls2 := [some (.ref 0), some (.long a1), none, some (dI a2), some (.long (ds (ds j (cv u i)) (cv w i))), none, some (.ref b), some (dI (i)), some (dI (f)), some (dI (t))]) rfl rfl rfl rfl ?_
      refine dr_lload rfl rfl ?_
      refine dr_ldc2 rfl ?_
      refine dr_lmul rfl rfl ?_
      refine di_aload_n rfl rfl ?_
      refine dr_iload_n rfl rfl ?_
      refine dr_iload rfl rfl ?_
      refine dr_iload rfl rfl ?_
      obtain ⟨rc43, rc43a, rc43b, c43⟩ := I_cls hI2
      refine dr_virt rfl rfl rfl rfl c43 (c_X6_roomOf l hl hI2 hS2 (by omega) (a1 := a2) (by omega) (by omega) (a2 := f) (by omega) (by omega) (a3 := t) (by omega) (by omega)) (by decide) (by omega) (by omega) (Nat.le_of_ble_eq_true rfl) (kQX0N (rf_0s ⟨h2a, h2b⟩ hft e100)) (kQX0 (rf_0s ⟨h2a, h2b⟩ hft e100) (fun h39 hI40 hF41 hS42 => ?_))
      have hF44 := FrC_tr hF2 hF41
      refine dr_i2l rfl rfl ?_
      refine dr_ladd rfl (v := ds (ds (ds j (cv u i)) (cv w i)) (anRoomOf (σ.1 a2) (cv u i))) rfl ?_
      refine di_lstore (ls2 := [some (.ref 0), some (.long a1), none, some (dI a2), some (.long (ds (ds (ds j (cv u i)) (cv w i)) (anRoomOf (σ.1 a2) (cv u i)))), none, some (.ref b), some (dI (i)), some (dI (f)), some (dI (t))]) rfl rfl rfl rfl ?_
      refine dr_lload rfl rfl ?_
      refine dr_ldc2 rfl ?_
      refine dr_lmul rfl rfl ?_
      refine di_aload_n rfl rfl ?_
      refine dr_iload_n rfl rfl ?_
      refine dr_iload rfl rfl ?_
      refine dr_iload rfl rfl ?_
      refine di_const rfl ?_
      obtain ⟨rc49, rc49a, rc49b, c49⟩ := I_cls hI40
      refine dr_virt rfl rfl rfl rfl c49 (c_X6_near l hl hI40 hS42 (by omega) (a1 := a2) (by omega) (by omega) (a2 := f) (by omega) (by omega) (a3 := t) (by omega) (by omega) (a4 := 0) (by omega) (by omega)) (by decide) (by omega) (by omega) (Nat.le_of_ble_eq_true rfl) (kQX0N (ne_0s ⟨h2a, h2b⟩ hft ⟨by decide, by decide⟩ e100)) (kQX0 (ne_0s ⟨h2a, h2b⟩ hft ⟨by decide, by decide⟩ e100) (fun h45 hI46 hF47 hS48 => ?_))
      have hF50 := FrC_tr hF44 hF47
      refine dr_i2l rfl rfl ?_
      refine dr_ladd rfl (v := ds (ds (ds (ds j (cv u i)) (cv w i)) (anRoomOf (σ.1 a2) (cv u i))) (anNear (σ.1 a2) 0 (cv u i))) rfl ?_
      refine di_lstore (ls2 := [some (.ref 0), some (.long a1), none, some (dI a2), some (.long (ds (ds (ds (ds j (cv u i)) (cv w i)) (anRoomOf (σ.1 a2) (cv u i))) (anNear (σ.1 a2) 0 (cv u i)))), none, some (.ref b), some (dI (i)), some (dI (f)), some (dI (t))]) rfl rfl rfl rfl ?_
      refine dr_lload rfl rfl ?_
      refine dr_ldc2 rfl ?_
      refine dr_lmul rfl rfl ?_
      refine di_aload_n rfl rfl ?_
      refine dr_iload_n rfl rfl ?_
      refine dr_iload rfl rfl ?_
      refine dr_iload rfl rfl ?_
      refine di_const rfl ?_
      obtain ⟨rc55, rc55a, rc55b, c55⟩ := I_cls hI46
      refine dr_virt rfl rfl rfl rfl c55 (c_X6_near l hl hI46 hS48 (by omega) (a1 := a2) (by omega) (by omega) (a2 := f) (by omega) (by omega) (a3 := t) (by omega) (by omega) (a4 := 3) (by omega) (by omega)) (by decide) (by omega) (by omega) (Nat.le_of_ble_eq_true rfl) (kQX0N (ne_0s ⟨h2a, h2b⟩ hft ⟨by decide, by decide⟩ e100)) (kQX0 (ne_0s ⟨h2a, h2b⟩ hft ⟨by decide, by decide⟩ e100) (fun h51 hI52 hF53 hS54 => ?_))
      have hF56 := FrC_tr hF50 hF53
      refine dr_i2l rfl rfl ?_
      refine dr_ladd rfl (v := ds (ds (ds (ds (ds j (cv u i)) (cv w i)) (anRoomOf (σ.1 a2) (cv u i))) (anNear (σ.1 a2) 0 (cv u i))) (anNear (σ.1 a2) 3 (cv u i))) rfl ?_
      refine di_lstore (ls2 := [some (.ref 0), some (.long a1), none, some (dI a2), some (.long (ds (ds (ds (ds (ds j (cv u i)) (cv w i)) (anRoomOf (σ.1 a2) (cv u i))) (anNear (σ.1 a2) 0 (cv u i))) (anNear (σ.1 a2) 3 (cv u i)))), none, some (.ref b), some (dI (i)), some (dI (f)), some (dI (t))]) rfl rfl rfl rfl ?_
      refine di_iinc (ls2 := [some (.ref 0), some (.long a1), none, some (dI a2), some (.long (ds (ds (ds (ds (ds j (cv u i)) (cv w i)) (anRoomOf (σ.1 a2) (cv u i))) (anNear (σ.1 a2) 0 (cv u i))) (anNear (σ.1 a2) 3 (cv u i)))), none, some (.ref b), some (dI (i + 1)), some (dI (f)), some (dI (t))]) rfl rfl rfl rfl ?_
      refine dr_goto rfl rfl ?_
      exact ih (i + 1) _ _ _ h51 _ _ (by omega) (by omega) (by omega) (by omega) (by omega) hI52 hF56 hS54 (by rw [← dS_s i0 ej]; unfold dC; rw [eR, h8.2.2])
  have z0 : 0 ≤ zF (σ.1 a2) := by
    obtain ⟨s, m, u, w, hA, hr, -, -, -⟩ := CSt_bk hS (k := a2) h2a h2b kb
    rw [zF_eq hr]; exact hr.1.1
  exact L _ 0 a1 none none h 1 6 (Nat.lt_succ_self _) (by omega) z0 (by omega) (by omega) hI FrC_rf hS rfl
set_option maxHeartbeats 4000000 in
set_option maxRecDepth 100000 in
theorem c_X6_digest (l : Launch) (hl : l.stackTraces = false) {kc km : Int} {h : dm_H} (hI : Inv kc km h) {B : Int} {σ : St} (hS : CSt B σ h) (hB : B ≤ 80000) : dm_M l 102 10 980 5900 [.ref 0] h (QD kc km h B σ (dig σ kc)) := by
  refine dm_M_of dk_102 hl rfl (Nat.le_of_ble_eq_true rfl) ?_
  show dm_W (fun _ _ _ => True) (dm_P (QD kc km h B σ (dig σ kc)) 980 5900) l 102 10 980 5900 0 [some (.ref 0), none, none, none] [] h 0 0
  obtain ⟨pq1, pq2, -⟩ := id hS.2
  have L4 : ∀ (j : Int64) (o : Option Value) (h2 : dm_H) (ce sl : Nat), ce ≤ 979 → sl ≤ 5874 → Inv kc km h2 → FrC h h2 → CSt B σ h2 → ds j 1 = dig σ kc → dm_W (fun _ _ _ => True) (dm_P (QD kc km h B σ (dig σ kc)) 980 5900) l 102 10 980 5900 94 [some (.ref 0), some (.long j), none, o] [] h2 ce sl := by
    intro j o h2 ce sl hce hsl hI2 hF2 hS2 ej
    obtain ⟨rr, cr1, cr2, hc0⟩ := I_cls hI2
    refine dr_lload_n rfl rfl ?_
    refine dr_ldc2 rfl ?_
    refine dr_lmul rfl rfl ?_
    refine di_aload_n rfl rfl ?_
    refine dr_virt rfl rfl rfl rfl hc0 (c_X6_isSound l hl hI2 hS2 (by omega)) (by decide) (by omega) (by omega) (Nat.le_of_ble_eq_true rfl) kQS1N (kQS1 (fun h3 hI3 hF3 => ?_))
    refine di_if_eq rfl rfl (by omega) (by omega) (fun c9 => absurd c9 (by decide)) (fun _ => ?_)
    refine di_const rfl ?_
    refine dr_goto rfl rfl ?_
    refine dr_i2l rfl rfl ?_
    refine dr_ladd rfl (v := ds j 1) rfl ?_
    exact dr_lret rfl rfl (by omega) (by omega) ⟨hI3, FrC_tr hF2 (FrT_C hF3), CSt_T hS2 hF3, by rw [ej]⟩
  have L3 : σ.2.1.1 ≠ -1 → ∀ (k : Nat) (i : Int) (j : Int64) (h2 : dm_H) (ce sl : Nat), (6 - i).toNat < k → 0 ≤ i → i ≤ 6 → ce + 8 * (6 - i).toNat ≤ 979 → sl + 48 * (6 - i).toNat ≤ 5874 → Inv kc km h2 → FrC h h2 → CSt B σ h2 → j = dsN (digD σ kc) (anPart σ) i.toNat → dm_W (fun _ _ _ => True) (dm_P (QD kc km h B σ (dig σ kc)) 980 5900) l 102 10 980 5900 70 [some (.ref 0), some (.long j), none, some (dI (i))] [] h2 ce sl := by
    intro hp
    intro k
    induction k with
    | zero => intro i j h2 ce sl hm; exact absurd hm (Nat.not_lt_zero _)
    | succ k ih =>
      intro i j h2 ce sl hm i0 i1 hce hsl hI2 hF2 hS2 ej
      refine dr_iload_n rfl rfl ?_
      refine di_const rfl ?_
      refine di_icmp_gt rfl rfl (by omega) (by omega) (by omega) (by omega) (fun c => ?_) (fun c => ?_)
      · have ei : i = 6 := by omega
        subst ei
        exact L4 j _ h2 ce sl (by omega) (by omega) hI2 hF2 hS2 (dig_y hp ej)
      refine dr_lload_n rfl rfl ?_
      refine dr_ldc2 rfl ?_
      refine dr_lmul rfl rfl ?_
      refine di_aload_n rfl rfl ?_
      refine dr_iload_n rfl rfl ?_
      obtain ⟨rc61, rc61a, rc61b, c61⟩ := I_cls hI2
      refine dr_virt rfl rfl rfl rfl c61 (c_X6_ofPart l hl hI2 hS2 (by omega) (a1 := i) (by omega) (by omega)) (by decide) (by omega) (by omega) (Nat.le_of_ble_eq_true rfl) (kQX0N (op_0 ⟨i0, by omega⟩ hp)) (kQX0 (op_0 ⟨i0, by omega⟩ hp) (fun h57 hI58 hF59 hS60 => ?_))
      have hF62 := FrC_tr hF2 hF59
      refine dr_i2l rfl rfl ?_
      refine dr_ladd rfl (v := ds j (anPart σ i)) rfl ?_
      refine di_lstore_n (ls2 := [some (.ref 0), some (.long (ds j (anPart σ i))), none, some (dI (i))]) rfl rfl rfl rfl ?_
      refine di_iinc (ls2 := [some (.ref 0), some (.long (ds j (anPart σ i))), none, some (dI (i + 1))]) rfl rfl rfl rfl ?_
      refine dr_goto rfl rfl ?_
      exact ih (i + 1) _ h57 _ _ (by omega) (by omega) (by omega) (by omega) (by omega) hI58 hF62 hS60 (dsN_s i0 ej)
  have L2 : ∀ (k : Nat) (i : Int) (j : Int64) (h2 : dm_H) (ce sl : Nat), (3 - i).toNat < k → 0 ≤ i → i ≤ 3 → ce + 297 * (3 - i).toNat ≤ 931 → sl + 1782 * (3 - i).toNat ≤ 5586 → Inv kc km h2 → FrC h h2 → CSt B σ h2 → j = dBk σ (dsN (Int64.ofNat 7945) (anHouse σ kc) 5) i.toNat → dm_W (fun _ _ _ => True) (dm_P (QD kc km h B σ (dig σ kc)) 980 5900) l 102 10 980 5900 32 [some (.ref 0), some (.long j), none, some (dI (i))] [] h2 ce sl := by
    intro k
    induction k with
    | zero => intro i j h2 ce sl hm; exact absurd hm (Nat.not_lt_zero _)
    | succ k ih =>
      intro i j h2 ce sl hm i0 i1 hce hsl hI2 hF2 hS2 ej
      obtain ⟨rr, cr1, cr2, hc0⟩ := I_cls hI2
      refine dr_iload_n rfl rfl ?_
      refine di_const rfl ?_
      refine di_icmp_ge rfl rfl (by omega) (by omega) (by omega) (by omega) (fun c => ?_) (fun c => ?_)
      · have ei : i = 3 := by omega
        subst ei
        have ej : j = digD σ kc := ej
        obtain ⟨p1, p2, -⟩ := id hS2.2
        refine di_aload_n rfl rfl ?_
        refine dr_getf rfl hc0 rfl ?_
        refine dr_getf rfl p1 rfl ?_
        refine dr_stat rfl rfl rfl rfl (s_X6_isBook l hl hI2 (a0 := σ.2.1.1) (by omega) (by omega)) (by decide) (by omega) (by omega) (Nat.le_of_ble_eq_true rfl) kNP (kIP (fun y yf ya yb => ?_))
        obtain ⟨y0, y1, y2, y3⟩ := yf
        refine di_if_eq rfl rfl (by omega) (by omega) (fun c3 => ?_) (fun c3 => ?_)
        · have e := y3 (by omega)
          exact L4 j _ h2 ce sl (by omega) (by omega) hI2 hF2 hS2 (dig_n (by omega) ej)
        · have e := y2 (by omega)
          refine di_const rfl ?_
          refine di_istore_n (ls2 := [some (.ref 0), some (.long j), none, some (dI (0))]) rfl rfl rfl ?_
          exact L3 (by omega) _ 0 j h2 ce sl (Nat.lt_succ_self _) (by omega) (by omega) (by omega) (by omega) hI2 hF2 hS2 ej
      refine di_aload_n rfl rfl ?_
      refine di_aload_n rfl rfl ?_
      refine dr_lload_n rfl rfl ?_
      refine dr_iload_n rfl rfl ?_
      refine dr_virt rfl rfl rfl rfl hc0 (f_X6_digestBook l hl hI2 hS2 hB (a1 := j) (a2 := i) i0 (by omega)) (by decide) (by omega) (by omega) (Nat.le_of_ble_eq_true rfl) kQDN (kQD (fun h3 hI3 hF3 hS3 => ?_))
      obtain ⟨rr3, cr31, cr32, hc3⟩ := I_cls hI3
      refine dr_iload_n rfl rfl ?_
      refine dr_virt rfl rfl rfl rfl hc3 (f_X6_digestSpans l hl hI3 hS3 hB (a1 := dB (σ.1 i) j) (a2 := i) i0 (by omega)) (by decide) (by omega) (by omega) (Nat.le_of_ble_eq_true rfl) kQDN (kQD (fun h4 hI4 hF4 hS4 => ?_))
      refine di_lstore_n (ls2 := [some (.ref 0), some (.long (dS (σ.1 i) (dB (σ.1 i) j) (zF (σ.1 i)).toNat)), none, some (dI (i))]) rfl rfl rfl rfl ?_
      refine di_iinc (ls2 := [some (.ref 0), some (.long (dS (σ.1 i) (dB (σ.1 i) j) (zF (σ.1 i)).toNat)), none, some (dI (i + 1))]) rfl rfl rfl rfl ?_
      refine dr_goto rfl rfl ?_
      exact ih (i + 1) _ h4 _ _ (by omega) (by omega) (by omega) (by omega) (by omega) hI4 (FrC_tr hF2 (FrC_tr hF3 hF4)) hS4 (dBk_s i0 ej)
  have L1 : ∀ (k : Nat) (i : Int) (j : Int64) (h2 : dm_H) (ce sl : Nat), (5 - i).toNat < k → 0 ≤ i → i ≤ 5 → ce + 8 * (5 - i).toNat ≤ 40 → sl + 48 * (5 - i).toNat ≤ 240 → Inv kc km h2 → FrC h h2 → CSt B σ h2 → j = dsN (Int64.ofNat 7945) (anHouse σ kc) i.toNat → dm_W (fun _ _ _ => True) (dm_P (QD kc km h B σ (dig σ kc)) 980 5900) l 102 10 980 5900 6 [some (.ref 0), some (.long j), none, some (dI (i))] [] h2 ce sl := by
    intro k
    induction k with
    | zero => intro i j h2 ce sl hm; exact absurd hm (Nat.not_lt_zero _)
    | succ k ih =>
      intro i j h2 ce sl hm i0 i1 hce hsl hI2 hF2 hS2 ej
      refine dr_iload_n rfl rfl ?_
      refine di_const rfl ?_
      refine di_icmp_gt rfl rfl (by omega) (by omega) (by omega) (by omega) (fun c => ?_) (fun c => ?_)
      · have ei : i = 5 := by omega
        subst ei
        refine di_const rfl ?_
        refine di_istore_n (ls2 := [some (.ref 0), some (.long j), none, some (dI (0))]) rfl rfl rfl ?_
        exact L2 _ 0 j h2 ce sl (Nat.lt_succ_self _) (by omega) (by omega) (by omega) (by omega) hI2 hF2 hS2 ej
      refine dr_lload_n rfl rfl ?_
      refine dr_ldc2 rfl ?_
      refine dr_lmul rfl rfl ?_
      refine di_aload_n rfl rfl ?_
      refine dr_iload_n rfl rfl ?_
      obtain ⟨rc67, rc67a, rc67b, c67⟩ := I_cls hI2
      refine dr_virt rfl rfl rfl rfl c67 (c_X6_house l hl hI2 hS2 (by omega) (a1 := i) (by omega) (by omega)) (by decide) (by omega) (by omega) (Nat.le_of_ble_eq_true rfl) (kQX0N (ho_ok ⟨i0, by omega⟩ rfl)) (kQX0 (ho_ok ⟨i0, by omega⟩ rfl) (fun h63 hI64 hF65 hS66 => ?_))
      have hF68 := FrC_tr hF2 hF65
      refine dr_i2l rfl rfl ?_
      refine dr_ladd rfl (v := ds j (anHouse σ kc i)) rfl ?_
      refine di_lstore_n (ls2 := [some (.ref 0), some (.long (ds j (anHouse σ kc i))), none, some (dI (i))]) rfl rfl rfl rfl ?_
      refine di_iinc (ls2 := [some (.ref 0), some (.long (ds j (anHouse σ kc i))), none, some (dI (i + 1))]) rfl rfl rfl rfl ?_
      refine dr_goto rfl rfl ?_
      exact ih (i + 1) _ h63 _ _ (by omega) (by omega) (by omega) (by omega) (by omega) hI64 hF68 hS66 (dsN_s i0 ej)
  refine dr_ldc2 rfl ?_
  refine di_lstore_n (ls2 := [some (.ref 0), some (.long (Int64.ofNat 7945)), none, none]) rfl rfl rfl rfl ?_
  refine di_const rfl ?_
  refine di_istore_n (ls2 := [some (.ref 0), some (.long (Int64.ofNat 7945)), none, some (dI (0))]) rfl rfl rfl ?_
  exact L1 _ 0 _ h 0 0 (Nat.lt_succ_self _) (by omega) (by omega) (by omega) (by omega) hI FrC_rf hS rfl
