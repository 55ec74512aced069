/-! ===== many go, many come ===== -/
theorem Srt_uq {f g f' g' F : Int → Int} {s s' : Int} (hr : Rep f g s F) (ht : Srt f s) (hr' : Rep f' g' s' F) (ht' : Srt f' s') : s = s' ∧ ∀ j : Int, 0 ≤ j → j < s → f j = f' j := by
  have e := Rep_sz hr hr'
  refine ⟨e, fun j j0 j1 => ?_⟩
  have k : ∀ n : Nat, ∀ j : Int, 0 ≤ j → j < n → j < s → f j = f' j := by
    intro n
    induction n with
    | zero => intro j h0 h1; omega
    | succ n ih =>
      intro j h0 h1 h2
      obtain ⟨i1, p0, p1, p2⟩ := hr'.2.1 (f j) (Rep_yes hr h0 h2 rfl).2.1
      obtain ⟨i2, q0, q1, q2⟩ := hr.2.1 (f' j) (Rep_yes hr' h0 (by omega) rfl).2.1
      have a1 : j ≤ i1 := by
        by_cases q : j ≤ i1
        · exact q
        · have x := ih i1 p0 (by omega) (by omega)
          have y := ht i1 j p0 (by omega) h2
          omega
      have a2 : j ≤ i2 := by
        by_cases q : j ≤ i2
        · exact q
        · have x := ih i2 q0 (by omega) (by omega)
          have y := ht' i2 j q0 (by omega) (by omega)
          omega
      have b1 : f' j ≤ f' i1 := by
        by_cases q : j = i1
        · rw [q]; exact Int.le_refl _
        · have := ht' j i1 h0 (by omega) p1; omega
      have b2 : f j ≤ f i2 := by
        by_cases q : j = i2
        · rw [q]; exact Int.le_refl _
        · have := ht j i2 h0 (by omega) q1; omega
      omega
  exact k (j + 1).toNat j j0 (by omega) j1
theorem rm_next {f g f' g' F : Int → Int} {s s' r : Int} (hr : Rep f g s F) (ht : Srt f s) (r0 : 0 ≤ r) (r1 : r < s) (hr' : Rep f' g' s' (up F (f r) (-1))) (ht' : Srt f' s') : s' = s - 1 ∧ ∀ j : Int, 0 ≤ j → j < r → f' j = f j := by
  obtain ⟨e, k⟩ := Srt_uq (Rep_del hr r0 r1) (Srt_del ht r0 r1) hr' ht'
  refine ⟨e.symm, fun j j0 j1 => ?_⟩
  rw [← k j j0 (by omega)]
  unfold delf
  rw [if_pos j1]
def Wp (F f : Int → Int) (s : Int) (bad : Int → Prop) (r : Int) (F1 : Int → Int) : Prop := (∀ j : Int, r < j → j < s → bad (f j) → F1 (f j) = -1) ∧ ∀ c : Int, (∀ j : Int, r < j → j < s → f j = c → ¬ bad c) → F1 c = F c
theorem Wp_0 {F f : Int → Int} {s r : Int} {bad : Int → Prop} (h : ∀ j : Int, r < j → j < s → ¬ bad (f j)) : Wp F f s bad r F := ⟨fun j a b c => absurd c (h j a b), fun _ _ => rfl⟩
theorem Wp_rm {F f g F1 : Int → Int} {s r : Int} {bad : Int → Prop} (h : Wp F f s bad r F1) (hb : bad (f r)) (r1 : r < s) : Wp F f s bad (r - 1) (up F1 (f r) (-1)) := by
  refine ⟨fun j a b c => ?_, fun c hc => ?_⟩
  · by_cases q : f j = f r
    · rw [q]; exact up_s
    · rw [up_n q]
      by_cases q2 : j = r
      · exact absurd (by rw [q2]) q
      · exact h.1 j (by omega) b c
  · have q : c ≠ f r := fun e => hc r (by omega) r1 e.symm (by rw [e]; exact hb)
    rw [up_n q]
    exact h.2 c (fun j a b e => hc j (by omega) b e)
theorem Wp_kp {F f F1 : Int → Int} {s r : Int} {bad : Int → Prop} (h : Wp F f s bad r F1) (hb : ¬ bad (f r)) : Wp F f s bad (r - 1) F1 := by
  refine ⟨fun j a b c => ?_, fun c hc => h.2 c (fun j a b e => hc j (by omega) b e)⟩
  by_cases q2 : j = r
  · rw [q2] at c; exact absurd c hb
  · exact h.1 j (by omega) b c
theorem Wp_end {F f g F1 : Int → Int} {s r : Int} {bad : Int → Prop} (hr : Rep f g s F) (r0 : -1 ≤ r) (h : Wp F f s bad r F1) (hb : ∀ j : Int, 0 ≤ j → j ≤ r → ¬ bad (f j)) (c : Int) : (bad c → F1 c = -1) ∧ (¬ bad c → F1 c = F c) := by
  refine ⟨fun q => ?_, fun q => h.2 c (fun _ _ _ _ => q)⟩
  by_cases e : F c = -1
  · rw [h.2 c (fun j a b e2 => ?_)]
    · exact e
    · exact absurd e (Rep_yes hr (by omega) b e2).2.1
  · obtain ⟨j, j0, j1, e2⟩ := hr.2.1 c e
    by_cases q2 : j ≤ r
    · exact absurd (by rw [e2]; exact q) (hb j j0 q2)
    · have := h.1 j (by omega) j1 (by rw [e2]; exact q)
      rw [e2] at this; exact this
theorem stM_M {σ : St} {k : Int} {F G : Int → Int} : stM (stM σ k F) k G = stM σ k G := by
  unfold stM
  have a : (fun i => if i = k then G else (fun i => if i = k then F else σ.1 i) i) = (fun i => if i = k then G else σ.1 i) := funext fun i => by
    by_cases q : i = k
    · rw [if_pos q, if_pos q]
    · rw [if_neg q, if_neg q]; exact if_neg q
  have b : (if σ.2.2.1 = k then (1 : Int) else (if σ.2.2.1 = k then 1 else σ.2.2.2.1)) = (if σ.2.2.1 = k then 1 else σ.2.2.2.1) := by
    by_cases q : σ.2.2.1 = k
    · rw [if_pos q, if_pos q]
    · rw [if_neg q, if_neg q]
  show ((fun i => if i = k then G else (fun i => if i = k then F else σ.1 i) i), σ.2.1, σ.2.2.1, (if σ.2.2.1 = k then (1 : Int) else (if σ.2.2.1 = k then 1 else σ.2.2.2.1)), σ.2.2.2.2) = _
  rw [a, b]
theorem stN_id {σ : St} {k : Int} : stN σ k (σ.1 k) = σ := by
  unfold stN
  have : (fun i => if i = k then σ.1 k else σ.1 i) = σ.1 := funext fun i => by
    by_cases q : i = k
    · rw [if_pos q, q]
    · rw [if_neg q]
  rw [this]
theorem stN_N {σ : St} {k : Int} {F G : Int → Int} : stN (stN σ k F) k G = stN σ k G := by
  unfold stN
  have a : (fun i => if i = k then G else (fun i => if i = k then F else σ.1 i) i) = (fun i => if i = k then G else σ.1 i) := funext fun i => by
    by_cases q : i = k
    · rw [if_pos q, if_pos q]
    · rw [if_neg q, if_neg q]; exact if_neg q
  show ((fun i => if i = k then G else (fun i => if i = k then F else σ.1 i) i), σ.2) = _
  rw [a]
theorem stN_M {σ : St} {k : Int} {F G : Int → Int} : stN (stM σ k F) k G = stM σ k G := by
  unfold stN stM
  have a : (fun i => if i = k then G else (fun i => if i = k then F else σ.1 i) i) = (fun i => if i = k then G else σ.1 i) := funext fun i => by
    by_cases q : i = k
    · rw [if_pos q, if_pos q]
    · rw [if_neg q, if_neg q]; exact if_neg q
  show ((fun i => if i = k then G else (fun i => if i = k then F else σ.1 i) i), _) = _
  rw [a]
theorem stM_N {σ : St} {k : Int} {F G : Int → Int} : stM (stN σ k F) k G = stM σ k G := by
  unfold stN stM
  have a : (fun i => if i = k then G else (fun i => if i = k then F else σ.1 i) i) = (fun i => if i = k then G else σ.1 i) := funext fun i => by
    by_cases q : i = k
    · rw [if_pos q, if_pos q]
    · rw [if_neg q, if_neg q]; exact if_neg q
  show ((fun i => if i = k then G else (fun i => if i = k then F else σ.1 i) i), _) = _
  rw [a]
theorem stM_o {σ : St} {k o : Int} {F : Int → Int} (h : o ≠ k) : (stM σ k F).1 o = σ.1 o := if_neg h
theorem stN_o {σ : St} {k o : Int} {F : Int → Int} (h : o ≠ k) : (stN σ k F).1 o = σ.1 o := if_neg h
set_option maxHeartbeats 4000000 in
set_option maxRecDepth 100000 in
theorem c_X0_removeRange (l : Launch) (hl : l.stackTraces = false) {kc km : Int} {h : dm_H} (hI : Inv kc km h) {B : Int} {σ : St} (hS : CSt B σ h) (hB : B ≤ 90000) {b : Nat} {k : Int} (hb : isBk b) (k0 : 0 ≤ k) (k1 : k ≤ 2) (kb : (b : Int) = 17 + 3 * k) {a1 a2 : Int} (h1a : 0 ≤ a1) (h2a : a2 ≤ 8) {s m : Int} {u w : List Value} (hc : CA b s m u w h) (hr : Rep (cv u) (cv w) s (σ.1 k)) (ht : Srt (cv u) s) (_ma : 0 ≤ m) (mb : m ≤ B) {P : Int → Bool} (hP : rgP (cv u) s a1 a2 P) (hle : a1 ≤ a2) : dm_M l 13 1 0 0 [.ref b, dI a1, dI a2] h (QC kc km h (B + 9) (sWipe σ k (fun c => if P c = true then -1 else σ.1 k c) (a2 - a1)).1 (sWipe σ k (fun c => if P c = true then -1 else σ.1 k c) (a2 - a1)).2) := by
  obtain ⟨p0, p1, p2⟩ := hP
  refine dm_M_of dk_13 hl rfl (Nat.le_of_ble_eq_true rfl) ?_
  show dm_W (fun _ _ _ => True) (dm_P (QC kc km h (B + 9) (sWipe σ k (fun c => if P c = true then -1 else σ.1 k c) (a2 - a1)).1 (sWipe σ k (fun c => if P c = true then -1 else σ.1 k c) (a2 - a1)).2) 0 0) l 13 1 0 0 0 [some (.ref b), some (dI a1), some (dI a2), none] [] h 0 0
  have L : ∀ (n : Nat) (r : Int) (h1 : dm_H) (σ1 : St) (s1 m1 : Int) (u1 w1 : List Value), (r + 1).toNat < n → a1 - 1 ≤ r → r ≤ a2 - 1 → Inv kc km h1 → FrC h h1 → CSt (B + (a2 - 1 - r)) σ1 h1 → CA b s1 m1 u1 w1 h1 → Rep (cv u1) (cv w1) s1 (σ1.1 k) → Srt (cv u1) s1 → m1 ≤ B + (a2 - 1 - r) → r < s1 → (∀ j : Int, 0 ≤ j → j ≤ r → cv u1 j = cv u j) → Wp (σ.1 k) (cv u) s (fun c => P c = true) r (σ1.1 k) → ((σ1 = σ ∧ r = a2 - 1) ∨ (σ1 = stM σ k (σ1.1 k) ∧ r < a2 - 1)) → dm_W (fun _ _ _ => True) (dm_P (QC kc km h (B + 9) (sWipe σ k (fun c => if P c = true then -1 else σ.1 k c) (a2 - a1)).1 (sWipe σ k (fun c => if P c = true then -1 else σ.1 k c) (a2 - a1)).2) 0 0) l 13 1 0 0 4 [some (.ref b), some (dI a1), some (dI a2), some (dI r)] [] h1 0 0 := by
    intro n
    induction n with
    | zero => intro r h1 σ1 s1 m1 u1 w1 hm; exact absurd hm (Nat.not_lt_zero _)
    | succ n ih =>
      intro r h1 σ1 s1 m1 u1 w1 hm r0 r1 hI1 hF1 hS1 hc1 hr1 ht1 hm1 hrs hu hW hσ
      refine dr_iload_n rfl rfl ?_
      refine dr_iload_n rfl rfl ?_
      refine di_icmp_lt rfl rfl (by omega) (by omega) (by omega) (by omega) (fun c => ?_) (fun c => ?_)
      · refine dr_iload_n rfl rfl ?_
        refine dr_iload_n rfl rfl ?_
        refine di_isub rfl ?_
        have e : sWipe σ k (fun c => if P c = true then -1 else σ.1 k c) (a2 - a1) = (a2 - a1, σ1) := by
          unfold sWipe
          rcases hσ with ⟨q1, q2⟩ | ⟨q1, q2⟩
          · rw [if_pos (by omega), q1, show a2 - a1 = 0 by omega]
          · rw [if_neg (by omega)]
            have hf : (fun c => if P c = true then -1 else σ.1 k c) = σ1.1 k := funext fun c9 => by
              have z := Wp_end hr (by omega) hW (fun j j0 j1 hb9 => by have := (p2 j j0 (by omega)).mp hb9; omega) c9
              by_cases q : P c9 = true
              · rw [if_pos q]; exact (z.1 q).symm
              · rw [if_neg q]; exact (z.2 q).symm
            rw [hf, ← q1]
        exact dr_iret (ty := .int) rfl rfl rfl (by decide) (by decide) (QC_eq hI1 hF1 hS1 (by omega) e)
      · refine di_aload_n rfl rfl ?_
        refine dr_iload_n rfl rfl ?_
        refine dr_virt rfl rfl rfl rfl hc1.1 (c_rem hl hI1 hS1 (by omega) k0 k1 kb hb hc1 hr1 ht1 hm1 (r := r) (c := cv u1 r) (by omega) hrs rfl) (by decide) (by decide) (by decide) (Nat.le_of_ble_eq_true rfl) kQCVN (kQCV (fun h2 hI2 hF2 hS2 => ?_))
        refine di_iinc (ls2 := [some (.ref b), some (dI a1), some (dI a2), some (dI (r + (-1)))]) rfl rfl rfl rfl ?_
        refine dr_goto rfl rfl ?_
        obtain ⟨s2, m2, u2, w2, hc2, hr2, ht2, ma2, mb2⟩ := CSt_bk hS2 k0 k1 kb
        have hr3 := hr2
        rw [stM_s] at hr3
        obtain ⟨e1, e2⟩ := rm_next hr1 ht1 (by omega) hrs hr3 ht2
        have er := hu r (by omega) (Int.le_refl _)
        have hbr : P (cv u r) = true := (p2 r (by omega) (by omega)).mpr ⟨by omega, by omega⟩
        have hF : (stM σ1 k (up (σ1.1 k) (cv u1 r) (-1))).1 k = up (σ1.1 k) (cv u r) (-1) := by rw [stM_s, er]
        refine ih (r + (-1)) h2 (stM σ1 k (up (σ1.1 k) (cv u1 r) (-1))) s2 m2 u2 w2 (by omega) (by omega) (by omega) hI2 (FrC_tr hF1 hF2) (CSt_up hS2 (by omega)) hc2 hr2 ht2 (by omega) (by omega) (fun j j0 j1 => (e2 j j0 (by omega)).trans (hu j j0 (by omega))) ?_ (Or.inr ⟨?_, by omega⟩)
        · rw [hF, show r + (-1) = r - 1 by omega]
          exact Wp_rm (g := cv w) hW hbr (by omega)
        · rw [stM_s]
          rcases hσ with ⟨q1, q2⟩ | ⟨q1, q2⟩
          · rw [q1]
          · have q3 : stM σ1 k (up (σ1.1 k) (cv u1 r) (-1)) = stM (stM σ k (σ1.1 k)) k (up (σ1.1 k) (cv u1 r) (-1)) := by rw [← q1]
            rw [q3, stM_M]
  refine dr_iload_n rfl rfl ?_
  refine di_const rfl ?_
  refine di_isub rfl ?_
  refine di_istore_n (ls2 := [some (.ref b), some (dI a1), some (dI a2), some (dI (a2 - 1))]) rfl rfl rfl ?_
  exact L _ (a2 - 1) h σ s m u w (Nat.lt_succ_self _) (by omega) (Int.le_refl _) hI FrC_rf (CSt_up hS (by omega)) hc hr ht (by omega) (by omega) (fun _ _ _ => rfl) (Wp_0 (fun j q1 q2 q3 => by
    have := (p2 j (by omega) q2).mp q3
    omega)) (Or.inl ⟨rfl, rfl⟩)
