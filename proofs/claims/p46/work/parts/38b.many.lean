/-! ===== sift, pour ===== -/
theorem bk_of {b : Nat} {k : Int} (k0 : 0 ≤ k) (k1 : k ≤ 2) (kb : (b : Int) = 17 + 3 * k) : isBk b := by
  rcases (by omega : k = 0 ∨ k = 1 ∨ k = 2) with rfl | rfl | rfl
  · exact Or.inl (by omega)
  · exact Or.inr (Or.inl (by omega))
  · exact Or.inr (Or.inr (by omega))
set_option maxHeartbeats 4000000 in
set_option maxRecDepth 100000 in
theorem c_sift_loop (l : Launch) (hl : l.stackTraces = false) {kc km : Int} {h : dm_H} {B : Int} {σ : St} (hB : B ≤ 80000) {a1 a2 a3 : Int} (a10 : 0 ≤ a1) (a11 : a1 ≤ 2) (a20 : 0 ≤ a2) (a21 : a2 ≤ 2) (hne : a1 ≠ a2) (a30 : 0 ≤ a3) (a31 : a3 ≤ 1) {b o : Nat} (kb : (b : Int) = 17 + 3 * a1) (ko : (o : Int) = 17 + 3 * a2) {s : Int} {u w : List Value} (hs8 : s ≤ 8) (hr : Rep (cv u) (cv w) s (σ.1 a1)) (_ht : Srt (cv u) s) :
    ∀ (n : Nat) (r : Int) (h1 : dm_H) (σ1 : St) (s1 m1 : Int) (u1 w1 : List Value), (r + 1).toNat < n → -1 ≤ r → r ≤ s - 1 → Inv kc km h1 → FrC h h1 → CSt (B + (s - 1 - r)) σ1 h1 → CA b s1 m1 u1 w1 h1 → Rep (cv u1) (cv w1) s1 (σ1.1 a1) → Srt (cv u1) s1 → m1 ≤ B + (s - 1 - r) → r < s1 → (∀ j : Int, 0 ≤ j → j ≤ r → cv u1 j = cv u j) → σ1.1 a2 = σ.1 a2 → Wp (σ.1 a1) (cv u) s (fun c => ¬ (decide (σ.1 a2 c ≠ -1) = decide (a3 = 1))) r (σ1.1 a1) → ((σ1 = σ ∧ s1 = s) ∨ (σ1 = stM σ a1 (σ1.1 a1) ∧ s1 < s)) → dm_W (fun _ _ _ => True) (dm_P (QX kc km h (B + 20) XB XA (spSift σ a1 a2 a3)) 8 48) l 67 6 8 48 42 [some (.ref 0), some (dI a1), some (dI a2), some (dI a3), some (.ref b), some (.ref o), some (dI s), some (dI r), none] [] h1 2 12 := by
  have hb := bk_of a10 a11 kb
  have ho := bk_of a20 a21 ko
  intro n
  induction n with
  | zero => intro r h1 σ1 s1 m1 u1 w1 hm; exact absurd hm (Nat.not_lt_zero _)
  | succ n ih =>
    intro r h1 σ1 s1 m1 u1 w1 hm r0 r1 hI1 hF1 hS1 hc1 hr1 ht1 hm1 hrs hu hG hW hσ
    have hs1 : 0 ≤ s1 ∧ s1 ≤ 8 := ⟨hc1.2.2.2.2.2.1, hc1.2.2.2.2.2.2.1⟩
    refine dr_iload rfl rfl ?_
    refine di_if_lt rfl rfl (by omega) (by omega) (fun c => ?_) (fun c => ?_)
    · refine dr_iload rfl rfl ?_
      refine di_aload rfl rfl ?_
      refine dr_virt rfl rfl rfl rfl hc1.1 (f_X0_count l hl hI1 hb hc1) (by decide) (by decide) (by decide) (Nat.le_of_ble_eq_true rfl) kNP (kIP (fun y yf ya yb => ?_))
      obtain ⟨y0, y1, y2⟩ := yf
      subst y2
      refine di_isub rfl ?_
      have hf : sif (σ.1 a2) (σ.1 a1) a3 = σ1.1 a1 := funext fun c9 => by
        have z := Wp_end hr r0 hW (fun j j0 j1 => by omega) c9
        unfold sif
        by_cases q : decide (σ.1 a2 c9 ≠ -1) = decide (a3 = 1)
        · rw [if_pos q]; exact (z.2 (fun q9 => q9 q)).symm
        · rw [if_neg q]; exact (z.1 q).symm
      have e : spSift σ a1 a2 a3 = (0, s - y, σ1) := by
        unfold spSift
        rw [if_neg (by omega), if_neg hne, hf, zF_eq hr, zF_eq hr1]
        unfold sWipe s0
        rcases hσ with ⟨q1, q2⟩ | ⟨q1, q2⟩
        · rw [if_pos (by omega), q1, show s - y = 0 by omega]
        · rw [if_neg (by omega), ← q1]
      exact dr_iret (ty := .int) rfl rfl rfl (by decide) (by decide) (QX_ok hI1 hF1 hS1 (by omega) e)
    · have er := hu r (by omega) (Int.le_refl _)
      have NEXT : ∀ (h2 : dm_H) (σ2 : St) (s2 m2 : Int) (u2 w2 : List Value), Inv kc km h2 → FrC h h2 → CSt (B + (s - 1 - (r + (-1)))) σ2 h2 → CA b s2 m2 u2 w2 h2 → Rep (cv u2) (cv w2) s2 (σ2.1 a1) → Srt (cv u2) s2 → m2 ≤ B + (s - 1 - (r + (-1))) → r + (-1) < s2 → (∀ j : Int, 0 ≤ j → j ≤ r + (-1) → cv u2 j = cv u j) → σ2.1 a2 = σ.1 a2 → Wp (σ.1 a1) (cv u) s (fun c => ¬ (decide (σ.1 a2 c ≠ -1) = decide (a3 = 1))) (r + (-1)) (σ2.1 a1) → ((σ2 = σ ∧ s2 = s) ∨ (σ2 = stM σ a1 (σ2.1 a1) ∧ s2 < s)) → dm_W (fun _ _ _ => True) (dm_P (QX kc km h (B + 20) XB XA (spSift σ a1 a2 a3)) 8 48) l 67 6 8 48 83 [some (.ref 0), some (dI a1), some (dI a2), some (dI a3), some (.ref b), some (.ref o), some (dI s), some (dI r), none] [] h2 2 12 := by
        intro h2 σ2 s2 m2 u2 w2 x1 x2 x3 x4 x5 x6 x7 x8 x9 x10 x11 x12
        refine di_iinc (ls2 := [some (.ref 0), some (dI a1), some (dI a2), some (dI a3), some (.ref b), some (.ref o), some (dI s), some (dI (r + (-1))), none]) rfl rfl rfl rfl ?_
        refine dr_goto rfl rfl ?_
        exact ih (r + (-1)) h2 σ2 s2 m2 u2 w2 (by omega) (by omega) (by omega) x1 x2 x3 x4 x5 x6 x7 x8 x9 x10 x11 x12
      have KEEP : ¬ ((fun c => ¬ (decide (σ.1 a2 c ≠ -1) = decide (a3 = 1))) (cv u r)) → dm_W (fun _ _ _ => True) (dm_P (QX kc km h (B + 20) XB XA (spSift σ a1 a2 a3)) 8 48) l 67 6 8 48 83 [some (.ref 0), some (dI a1), some (dI a2), some (dI a3), some (.ref b), some (.ref o), some (dI s), some (dI r), none] [] h1 2 12 := fun hk =>
        NEXT h1 σ1 s1 m1 u1 w1 hI1 hF1 (CSt_up hS1 (by omega)) hc1 hr1 ht1 (by omega) (by omega) (fun j j0 j1 => hu j j0 (by omega)) hG (by rw [show r + (-1) = r - 1 by omega]; exact Wp_kp hW hk) hσ
      have REM : (fun c => ¬ (decide (σ.1 a2 c ≠ -1) = decide (a3 = 1))) (cv u r) → dm_W (fun _ _ _ => True) (dm_P (QX kc km h (B + 20) XB XA (spSift σ a1 a2 a3)) 8 48) l 67 6 8 48 76 [some (.ref 0), some (dI a1), some (dI a2), some (dI a3), some (.ref b), some (.ref o), some (dI s), some (dI r), none] [] h1 2 12 := fun hk => by
        refine di_aload rfl rfl ?_
        refine dr_iload rfl rfl ?_
        refine dr_virt rfl rfl rfl rfl hc1.1 (c_rem hl hI1 hS1 (by omega) a10 a11 kb hb hc1 hr1 ht1 hm1 (r := r) (c := cv u1 r) (by omega) hrs rfl) (by decide) (by decide) (by decide) (Nat.le_of_ble_eq_true rfl) kQCVN (kQCV (fun h2 hI2 hF2 hS2 => ?_))
        obtain ⟨s2, m2, u2, w2, hc2, hr2, ht2, ma2, mb2⟩ := CSt_bk hS2 a10 a11 kb
        have hr3 := hr2
        rw [stM_s] at hr3
        obtain ⟨e1, e2⟩ := rm_next hr1 ht1 (by omega) hrs hr3 ht2
        have hF : (stM σ1 a1 (up (σ1.1 a1) (cv u1 r) (-1))).1 a1 = up (σ1.1 a1) (cv u r) (-1) := by rw [stM_s, er]
        refine NEXT h2 _ s2 m2 u2 w2 hI2 (FrC_tr hF1 hF2) (CSt_up hS2 (by omega)) hc2 hr2 ht2 (by omega) (by omega) (fun j j0 j1 => (e2 j j0 (by omega)).trans (hu j j0 (by omega))) ((stM_o (fun q => hne q.symm)).trans hG) ?_ (Or.inr ⟨?_, ?_⟩)
        · rw [hF, show r + (-1) = r - 1 by omega]
          exact Wp_rm (g := cv w) hW hk (by omega)
        · rw [stM_s]
          rcases hσ with ⟨q1, q2⟩ | ⟨q1, q2⟩
          · rw [q1]
          · have q3 : stM σ1 a1 (up (σ1.1 a1) (cv u1 r) (-1)) = stM (stM σ a1 (σ1.1 a1)) a1 (up (σ1.1 a1) (cv u1 r) (-1)) := by rw [← q1]
            rw [q3, stM_M]
        · rcases hσ with ⟨q1, q2⟩ | ⟨q1, q2⟩ <;> omega
      refine di_aload rfl rfl ?_
      refine di_aload rfl rfl ?_
      refine dr_iload rfl rfl ?_
      refine dr_virt rfl rfl rfl rfl hc1.1 (f_X0_codeAt l hl hI1 hb hc1 (a1 := r) (by omega) (by omega)) (by decide) (by decide) (by decide) (Nat.le_of_ble_eq_true rfl) kNP (kIP (fun y yf ya yb => ?_))
      obtain ⟨y0, y1, y2, -, -⟩ := yf
      have ye := y2 (by omega) hrs
      have hat := (Rep_at hr1 (j := r) (by omega) hrs).1
      obtain ⟨s3, m3, u3, w3, hc3, hr3, ht3, -, -⟩ := CSt_bk hS1 a20 a21 ko
      refine dr_virt rfl rfl rfl rfl hc3.1 (f_X0_rankOf l hl hI1 ho hc3 (a1 := y) (by omega) (by omega) hr3 ht3) (by decide) (by decide) (by decide) (Nat.le_of_ble_eq_true rfl) kNP (kIP (fun y5 y5f y5a y5b => ?_))
      obtain ⟨y50, y51, y5k⟩ := y5f
      have hcy : cv u r = y := by rw [ye, er]
      refine di_const rfl ?_
      refine di_icmp_eq rfl rfl (by omega) (by omega) (by omega) (by omega) (fun c1 => ?_) (fun c1 => ?_)
      · have g1 := rkp_n y5k c1
        rw [hG] at g1
        refine di_const rfl ?_
        refine di_istore (ls2 := [some (.ref 0), some (dI a1), some (dI a2), some (dI a3), some (.ref b), some (.ref o), some (dI s), some (dI r), some (dI 0)]) rfl rfl rfl ?_
        refine dr_iload rfl rfl ?_
        refine dr_iload_n rfl rfl ?_
        refine di_icmp_eq rfl rfl (by omega) (by omega) (by omega) (by omega) (fun c2 => ?_) (fun c2 => ?_)
        · refine dm_wk (ls2 := [some (.ref 0), some (dI a1), some (dI a2), some (dI a3), some (.ref b), some (.ref o), some (dI s), some (dI r), none]) ⟨Or.inr rfl, Or.inr rfl, Or.inr rfl, Or.inr rfl, Or.inr rfl, Or.inr rfl, Or.inr rfl, Or.inr rfl, Or.inl rfl, trivial⟩ ?_
          refine KEEP (fun q => q ?_)
          rw [hcy, decide_eq_false (fun q9 => q9 g1), decide_eq_false (by omega)]
        · refine dm_wk (ls2 := [some (.ref 0), some (dI a1), some (dI a2), some (dI a3), some (.ref b), some (.ref o), some (dI s), some (dI r), none]) ⟨Or.inr rfl, Or.inr rfl, Or.inr rfl, Or.inr rfl, Or.inr rfl, Or.inr rfl, Or.inr rfl, Or.inr rfl, Or.inl rfl, trivial⟩ ?_
          refine REM (fun q => ?_)
          rw [hcy, decide_eq_false (fun q9 => q9 g1), decide_eq_true (by omega : a3 = 1)] at q
          cases q
      · have g1 := rkp_y hr3 y5k c1
        rw [hG] at g1
        refine di_const rfl ?_
        refine dr_goto rfl rfl ?_
        refine di_istore (ls2 := [some (.ref 0), some (dI a1), some (dI a2), some (dI a3), some (.ref b), some (.ref o), some (dI s), some (dI r), some (dI 1)]) rfl rfl rfl ?_
        refine dr_iload rfl rfl ?_
        refine dr_iload_n rfl rfl ?_
        refine di_icmp_eq rfl rfl (by omega) (by omega) (by omega) (by omega) (fun c2 => ?_) (fun c2 => ?_)
        · refine dm_wk (ls2 := [some (.ref 0), some (dI a1), some (dI a2), some (dI a3), some (.ref b), some (.ref o), some (dI s), some (dI r), none]) ⟨Or.inr rfl, Or.inr rfl, Or.inr rfl, Or.inr rfl, Or.inr rfl, Or.inr rfl, Or.inr rfl, Or.inr rfl, Or.inl rfl, trivial⟩ ?_
          refine KEEP (fun q => q ?_)
          rw [hcy, decide_eq_true g1, decide_eq_true (by omega : a3 = 1)]
        · refine dm_wk (ls2 := [some (.ref 0), some (dI a1), some (dI a2), some (dI a3), some (.ref b), some (.ref o), some (dI s), some (dI r), none]) ⟨Or.inr rfl, Or.inr rfl, Or.inr rfl, Or.inr rfl, Or.inr rfl, Or.inr rfl, Or.inr rfl, Or.inr rfl, Or.inl rfl, trivial⟩ ?_
          refine REM (fun q => ?_)
          rw [hcy, decide_eq_true g1, decide_eq_false (by omega)] at q
          cases q
theorem cnt_mono {f : Int → Int} {P : Int → Bool} : ∀ (n k : Nat), cnt f P n ≤ cnt f P (n + k)
  | n, 0 => Int.le_refl _
  | n, k + 1 => by
    have a := cnt_mono (f := f) (P := P) n k
    show _ ≤ cnt f P (n + k) + (if P (f ((n + k : Nat) : Int)) then 1 else 0)
    split <;> omega
theorem cnt_le2 {f : Int → Int} {P : Int → Bool} {i s : Int} (h0 : 0 ≤ i) (h1 : i ≤ s) : cnt f P i.toNat ≤ cnt f P s.toNat := by
  have := cnt_mono (f := f) (P := P) i.toNat (s.toNat - i.toNat)
  rwa [show i.toNat + (s.toNat - i.toNat) = s.toNat by omega] at this
set_option maxHeartbeats 4000000 in
set_option maxRecDepth 100000 in
theorem c_pour_loop (l : Launch) (hl : l.stackTraces = false) {kc km : Int} {h : dm_H} {B : Int} {σ : St} (hB : B ≤ 80000) {a1 a2 : Int} (a10 : 0 ≤ a1) (a11 : a1 ≤ 2) (a20 : 0 ≤ a2) (a21 : a2 ≤ 2) {b o : Nat} (kb : (b : Int) = 17 + 3 * a1) (ko : (o : Int) = 17 + 3 * a2) {s s2 y m2 : Int} {u w u2 w2 : List Value} (hr : Rep (cv u) (cv w) s (σ.1 a1)) (hc2 : CA o s2 m2 u2 w2 h) (hr2 : Rep (cv u2) (cv w2) s2 (σ.1 a2)) (ht2 : Srt (cv u2) s2) (hy : y = cnt (cv u2) (fun c => decide (σ.1 a1 c = -1)) s2.toNat) (hsy : s + y ≤ 8) :
    ∀ (n : Nat) (i : Int) (h1 : dm_H) (σ1 : St), (s2 - i).toNat < n → 0 ≤ i → i ≤ s2 → Inv kc km h1 → FrC h h1 → CSt (B + i) σ1 h1 → zF (σ1.1 a1) = s + cnt (cv u2) (fun c => decide (σ.1 a1 c = -1)) i.toNat → σ1.1 a2 = σ.1 a2 → (∀ j : Int, 0 ≤ j → j < i → σ1.1 a1 (cv u2 j) = cv w2 j) → (∀ c : Int, (∀ j : Int, 0 ≤ j → j < i → cv u2 j ≠ c) → σ1.1 a1 c = σ.1 a1 c) → ((σ1 = stN σ a1 (σ1.1 a1) ∧ cnt (cv u2) (fun c => decide (σ.1 a1 c = -1)) i.toNat = 0) ∨ (σ1 = stM σ a1 (σ1.1 a1) ∧ 0 < cnt (cv u2) (fun c => decide (σ.1 a1 c = -1)) i.toNat)) → dm_W (fun _ _ _ => True) (dm_P (QX kc km h (B + 20) XB XA (spPour σ a1 a2)) 8 48) l 65 6 8 48 41 [some (.ref 0), some (dI a1), some (dI a2), some (.ref b), some (.ref o), some (dI y), some (dI i)] [] h1 2 12 := by
  have hb := bk_of a10 a11 kb
  have ho := bk_of a20 a21 ko
  have hs2 : 0 ≤ s2 ∧ s2 ≤ 8 := ⟨hc2.2.2.2.2.2.1, hc2.2.2.2.2.2.2.1⟩
  intro n
  induction n with
  | zero => intro i h1 σ1 hm; exact absurd hm (Nat.not_lt_zero _)
  | succ n ih =>
    intro i h1 σ1 hm i0 i1 hI1 hF1 hS1 hz hG hP1 hP2 hσ
    obtain ⟨s3, m3, u3, w3, hc3, hr3, ht3, -, -⟩ := CSt_bk hS1 a20 a21 ko
    have hr4 := hr3
    rw [hG] at hr4
    obtain ⟨e3, eu⟩ := Srt_uq hr2 ht2 hr4 ht3
    subst e3
    refine dr_iload rfl rfl ?_
    refine di_aload rfl rfl ?_
    refine dr_virt rfl rfl rfl rfl hc3.1 (f_X0_count l hl hI1 ho hc3) (by decide) (by decide) (by decide) (Nat.le_of_ble_eq_true rfl) kNP (kIP (fun y7 yf ya yb => ?_))
    obtain ⟨y0, y1, y2⟩ := yf
    refine di_icmp_ge rfl rfl (by omega) (by omega) (by omega) (by omega) (fun c => ?_) (fun c => ?_)
    · have ei : i = s2 := by omega
      subst ei
      have hf : mrg (σ.1 a2) (σ.1 a1) = σ1.1 a1 := funext fun c9 => by
        unfold mrg
        by_cases q : σ.1 a2 c9 ≠ -1
        · rw [if_pos q]
          obtain ⟨j, j0, j1, e9⟩ := hr2.2.1 c9 q
          have x := hP1 j j0 j1
          rw [e9] at x
          rw [x, (Rep_yes hr2 j0 j1 e9).1]
        · rw [if_neg q]
          exact (hP2 c9 (fun j j0 j1 e9 => q (Rep_yes hr2 j0 j1 e9).2.1)).symm
      have e : spPour σ a1 a2 = (0, y, σ1) := by
        unfold spPour
        rw [if_neg (by omega), nF_eq _ hr2, ← hy]
        unfold sPour s0
        rw [if_neg (by rw [zF_eq hr]; omega), hf]
        rcases hσ with ⟨q1, q2⟩ | ⟨q1, q2⟩
        · rw [if_pos (by omega), ← q1, show y = 0 by omega]
        · rw [if_neg (by omega), ← q1]
      refine dr_iload rfl rfl ?_
      exact dr_iret (ty := .int) rfl rfl rfl (by decide) (by decide) (QX_ok hI1 hF1 hS1 (by omega) e)
    · have his : i < s2 := by omega
      have hat := Rep_at hr4 (j := i) i0 his
      have hu := eu i i0 his
      obtain ⟨⟨c0, c1⟩, ⟨x0, x1⟩, hx⟩ := hat
      have hcc := hc3.2.2.2.1.2.2 i.toNat
      have hok : cv u3 i % 100 ≤ cv u3 i / 100 := (arr_cv hc3.2.2.2.1 i0 (by omega)).2.2
      refine di_aload_n rfl rfl ?_
      refine di_aload_n rfl rfl ?_
      refine di_aload rfl rfl ?_
      refine dr_iload rfl rfl ?_
      refine dr_virt rfl rfl rfl rfl hc3.1 (f_X0_codeAt l hl hI1 ho hc3 (a1 := i) (by omega) (by omega)) (by decide) (by decide) (by decide) (Nat.le_of_ble_eq_true rfl) kNP (kIP (fun c8 c8f c8a c8b => ?_))
      obtain ⟨-, -, c8k, -, -⟩ := c8f
      have c8e := c8k i0 his
      subst c8e
      refine di_aload rfl rfl ?_
      refine dr_iload rfl rfl ?_
      refine dr_virt rfl rfl rfl rfl hc3.1 (f_X0_noteAt l hl hI1 ho hc3 (a1 := i) (by omega) (by omega)) (by decide) (by decide) (by decide) (Nat.le_of_ble_eq_true rfl) kNP (kIP (fun d8 d8f d8a d8b => ?_))
      obtain ⟨-, -, d8k, -, -⟩ := d8f
      have d8e := d8k i0 his
      subst d8e
      obtain ⟨r9, q9a, q9b, hcls⟩ := I_cls hI1
      refine dr_virt rfl rfl rfl rfl hcls (c_X6_setOrBring l hl hI1 hS1 (by omega) hb a10 a11 kb (a2 := cv u3 i) (by omega) (by omega) (a3 := cv w3 i) (by omega) (by omega) hok) (by decide) (by decide) (by decide) (Nat.le_of_ble_eq_true rfl) kQCN (kQC (fun h2 hI2 hF2 hS2 => ?_))
      refine dr_pop rfl rfl ?_
      refine di_iinc (ls2 := [some (.ref 0), some (dI a1), some (dI a2), some (.ref b), some (.ref o), some (dI y), some (dI (i + 1))]) rfl rfl rfl rfl ?_
      refine dr_goto rfl rfl ?_
      have hFi : σ1.1 a1 (cv u3 i) = σ.1 a1 (cv u3 i) := hP2 _ (fun j j0 j1 e9 => hr2.2.2 j i j0 j1 his (by rw [e9, hu]))
      have hcs := cnt_st (f := cv u2) (P := (fun c => decide (σ.1 a1 c = -1))) i0
      have hle := cnt_le2 (f := cv u2) (P := (fun c => decide (σ.1 a1 c = -1))) (i := i + 1) (s := s2) (by omega) (by omega)
      have hpu : up (σ1.1 a1) (cv u3 i) (cv w3 i) = (sPut σ1 a1 (cv u3 i) (cv w3 i)).2.1 a1 := by
        unfold sPut
        by_cases q : σ1.1 a1 (cv u3 i) ≠ -1
        · rw [if_pos q]; exact stN_s.symm
        · rw [if_neg q]
          have q2 : σ1.1 a1 (cv u3 i) = -1 := by omega
          rw [← hu] at q2 hFi
          rw [q2] at hFi
          have : cnt (cv u2) (fun c => decide (σ.1 a1 c = -1)) (i + 1).toNat = cnt (cv u2) (fun c => decide (σ.1 a1 c = -1)) i.toNat + 1 := by rw [hcs, if_pos (decide_eq_true hFi.symm)]
          rw [if_pos (by omega)]; exact stM_s.symm
      have hσ2 : ((sPut σ1 a1 (cv u3 i) (cv w3 i)).2 = stN σ a1 (up (σ1.1 a1) (cv u3 i) (cv w3 i)) ∧ cnt (cv u2) (fun c => decide (σ.1 a1 c = -1)) (i + 1).toNat = 0) ∨ ((sPut σ1 a1 (cv u3 i) (cv w3 i)).2 = stM σ a1 (up (σ1.1 a1) (cv u3 i) (cv w3 i)) ∧ 0 < cnt (cv u2) (fun c => decide (σ.1 a1 c = -1)) (i + 1).toNat) := by
        unfold sPut
        have hnn := (cnt_b (cv u2) (fun c => decide (σ.1 a1 c = -1)) i.toNat).1
        by_cases q : σ1.1 a1 (cv u3 i) ≠ -1
        · rw [if_pos q]
          have hn : cnt (cv u2) (fun c => decide (σ.1 a1 c = -1)) (i + 1).toNat = cnt (cv u2) (fun c => decide (σ.1 a1 c = -1)) i.toNat := by
            rw [hcs, if_neg (by rw [hu]; simpa using (fun q9 => q (hFi.trans q9))), Int.add_zero]
          rw [hn]
          rcases hσ with ⟨p1, p2⟩ | ⟨p1, p2⟩
          · exact Or.inl ⟨by show stN σ1 a1 _ = _; exact (congrArg (fun z => stN z a1 (up (σ1.1 a1) (cv u3 i) (cv w3 i))) p1).trans stN_N, p2⟩
          · exact Or.inr ⟨by show stN σ1 a1 _ = _; exact (congrArg (fun z => stN z a1 (up (σ1.1 a1) (cv u3 i) (cv w3 i))) p1).trans stN_M, p2⟩
        · have q2 : σ1.1 a1 (cv u3 i) = -1 := by omega
          have hn : cnt (cv u2) (fun c => decide (σ.1 a1 c = -1)) (i + 1).toNat = cnt (cv u2) (fun c => decide (σ.1 a1 c = -1)) i.toNat + 1 := by
            rw [hcs, if_pos (by rw [hu]; exact decide_eq_true (hFi.symm.trans q2))]
          rw [if_neg q, if_pos (by omega), hn]
          rcases hσ with ⟨p1, p2⟩ | ⟨p1, p2⟩
          · exact Or.inr ⟨by show stM σ1 a1 _ = _; exact (congrArg (fun z => stM z a1 (up (σ1.1 a1) (cv u3 i) (cv w3 i))) p1).trans stM_N, by omega⟩
          · exact Or.inr ⟨by show stM σ1 a1 _ = _; exact (congrArg (fun z => stM z a1 (up (σ1.1 a1) (cv u3 i) (cv w3 i))) p1).trans stM_M, by omega⟩
      have hz2 : zF ((sPut σ1 a1 (cv u3 i) (cv w3 i)).2.1 a1) = s + cnt (cv u2) (fun c => decide (σ.1 a1 c = -1)) (i + 1).toNat := by
        obtain ⟨s5, m5, u5, w5, hc5, hr5, ht5, -, -⟩ := CSt_bk hS1 a10 a11 kb
        have e5 := zF_eq hr5
        rw [← hpu]
        by_cases q : σ1.1 a1 (cv u3 i) ≠ -1
        · obtain ⟨j, j0, j1, e9⟩ := hr5.2.1 _ q
          have hR := Rep_note hr5 j0 j1 x0 x1
          rw [e9] at hR
          rw [zF_eq hR, ← e5, hz, hcs, if_neg (by rw [hu]; simpa using (fun q9 => q (hFi.trans q9))), Int.add_zero]
        · have q2 : σ1.1 a1 (cv u3 i) = -1 := by omega
          have hR := Rep_ins hr5 (r := 0) (Int.le_refl _) hr5.1.1 q2 c0 c1 x0 x1
          rw [zF_eq hR, ← e5, hz, hcs, if_pos (by rw [hu]; exact decide_eq_true (hFi.symm.trans q2))]
          omega
      have hG2 : (sPut σ1 a1 (cv u3 i) (cv w3 i)).2.1 a2 = σ.1 a2 := by
        by_cases q : a2 = a1
        · rw [q, ← hpu, ← q]
          funext d
          by_cases q3 : d = cv u3 i
          · rw [q3, up_s]; exact hx.symm
          · rw [up_n q3, hG]
        · rcases hσ2 with ⟨p1, -⟩ | ⟨p1, -⟩
          · rw [p1]; exact stN_o q
          · rw [p1]; exact stM_o q
      refine ih (i + 1) h2 _ (by omega) (by omega) (by omega) hI2 (FrC_tr hF1 hF2) (CSt_up hS2 (by omega)) hz2 hG2 (fun j j0 j1 => ?_) (fun c9 hc9 => ?_) ?_
      · rw [← hpu]
        by_cases q : j = i
        · rw [q, hu, up_s]
          have a := Rep_at hr2 (j := i) i0 his
          rw [hu] at a
          exact hx.symm.trans a.2.2
        · rw [up_n (fun e9 => hr2.2.2 j i j0 (by omega) his (by rw [e9, hu]))]
          exact hP1 j j0 (by omega)
      · rw [← hpu, up_n (fun e9 => hc9 i i0 (by omega) (by rw [hu, e9]))]
        exact hP2 c9 (fun j j0 j1 => hc9 j j0 (by omega))
      · rw [← hpu]; exact hσ2

set_option maxHeartbeats 4000000 in
set_option maxRecDepth 100000 in
/-- Earlyends.clear -/
theorem c_X6_clear (l : Launch) (hl : l.stackTraces = false) {kc km : Int} {h : dm_H} (hI : Inv kc km h) {B : Int} {σ : St} (hS : CSt B σ h) (hB : B ≤ 80000) {a1 : Int} (h1a : -2147483648 ≤ a1) (h1b : a1 ≤ 2147483647) : dm_M l 64 6 8 48 [.ref 0, dI (a1)] h (QX kc km h (B + 20) XB XA (spClear σ a1)) := by
  refine dm_M_of dk_64 hl rfl (Nat.le_of_ble_eq_true rfl) ?_
  show dm_W (fun _ _ _ => True) (dm_P (QX kc km h (B + 20) XB XA (spClear σ a1)) 8 48) l 64 6 8 48 0 [some (.ref 0), some (dI (a1)), none] [] h 0 0
  refine di_aload_n rfl rfl ?_
  refine dr_iload_n rfl rfl ?_
  obtain ⟨r1, c2, c3, hc4⟩ := I_cls hI
  refine dr_virt rfl rfl rfl rfl hc4 (f_X6_bookAt l hl hI (a1 := a1) (by omega) (by omega)) (by decide) (by decide) (by decide) (Nat.le_of_ble_eq_true rfl) (fun Y h9 q9 => by obtain ⟨rfl, rfl, hC⟩ := q9; exact dr_out rfl (by decide) (by decide) (QX_1 (a := 0) hI FrC_rf hS (by omega) (by unfold spClear; (repeat' split) <;> first | rfl | (exfalso; omega) | (apply Prod.ext <;> first | rfl | (dsimp only; omega) | (apply Prod.ext <;> first | rfl | (dsimp only; omega)))))) (kPXR (fun r5 ⟨q6, q7, q8, q10⟩ => ?_))
  refine di_astore_n (ls2 := [some (.ref 0), some (dI (a1)), some (.ref r5)]) rfl rfl rfl ?_
  refine di_aload_n rfl rfl ?_
  refine di_const rfl ?_
  refine di_aload_n rfl rfl ?_
  obtain ⟨s11, m12, u13, w14, hc15, hr16, ht17, ma18, mb19⟩ := CSt_bk hS (k := a1) q8 q10 q7
  have sq20 : 0 ≤ s11 ∧ s11 ≤ 8 := ⟨hc15.2.2.2.2.2.1, hc15.2.2.2.2.2.2.1⟩
  have hz21 : zF (σ.1 a1) = s11 := zF_eq hr16
  refine dr_virt rfl rfl rfl rfl hc15.1 (f_X0_count l hl hI q6 hc15 ) (by decide) (by decide) (by decide) (Nat.le_of_ble_eq_true rfl) kNP (kIP (fun y22 y22f y22a y22b => ?_))
  obtain ⟨y22c, y22d, y22e⟩ := y22f
  have y22e2 := y22e.symm
  subst y22e2
  refine dr_virt rfl rfl rfl rfl hc15.1 (c_X0_removeRange l hl hI hS (by omega) q6 q8 q10 q7 (a1 := 0) (a2 := s11) (by omega) (by omega) hc15 hr16 ht17 ma18 mb19 (P := (fun _ => true)) rg_all (by omega)) (by decide) (by decide) (by decide) (Nat.le_of_ble_eq_true rfl) kQCN (kQC (fun h23 hI24 hF25 hS26 => ?_))
  have hF27 := hF25
  exact dr_iret (ty := .int) rfl rfl rfl (by decide) (by decide) (QX_ok hI24 hF27 hS26 (by omega) (by unfold spClear; rw [if_neg (by omega)]; rw [hz21]; rw [Int.sub_zero]; rfl))
set_option maxHeartbeats 4000000 in
set_option maxRecDepth 100000 in
/-- Earlyends.partClear -/
theorem c_X6_partClear (l : Launch) (hl : l.stackTraces = false) {kc km : Int} {h : dm_H} (hI : Inv kc km h) {B : Int} {σ : St} (hS : CSt B σ h) (hB : B ≤ 80000)  : dm_M l 73 6 8 48 [.ref 0] h (QX kc km h (B + 20) XS XA (spPartClear σ)) := by
  refine dm_M_of dk_73 hl rfl (Nat.le_of_ble_eq_true rfl) ?_
  show dm_W (fun _ _ _ => True) (dm_P (QX kc km h (B + 20) XS XA (spPartClear σ)) 8 48) l 73 6 8 48 0 [some (.ref 0), none] [] h 0 0
  refine di_aload_n rfl rfl ?_
  obtain ⟨r1, c2, c3, hc4⟩ := I_cls hI
  refine dr_virt rfl rfl rfl rfl hc4 (f_X6_bookOfPart l hl hI hS (by omega)) (by decide) (by decide) (by decide) (Nat.le_of_ble_eq_true rfl) (fun Y h9 q9 => by obtain ⟨rfl, rfl, hC⟩ := q9; exact dr_out rfl (by decide) (by decide) (QX_1 (a := 0) hI FrC_rf hS (by omega) (by unfold spPartClear; (repeat' split) <;> first | rfl | (exfalso; omega) | (apply Prod.ext <;> first | rfl | (dsimp only; omega) | (apply Prod.ext <;> first | rfl | (dsimp only; omega)))))) (kPXR (fun r5 ⟨q6, q7, q8, q10⟩ => ?_))
  refine di_astore_n (ls2 := [some (.ref 0), some (.ref r5)]) rfl rfl rfl ?_
  refine di_aload_n rfl rfl ?_
  refine di_aload_n rfl rfl ?_
  refine dr_getf rfl hc4 rfl ?_
  refine di_aload_n rfl rfl ?_
  have pr11 := hS.2
  obtain ⟨pr11a, pr11b, pr11c, pr11d⟩ := pr11
  obtain ⟨s12, m13, u14, w15, hc16, hr17, ht18, ma19, mb20⟩ := CSt_bk hS (k := σ.2.1.1) q8 q10 q7
  have sq21 : 0 ≤ s12 ∧ s12 ≤ 8 := ⟨hc16.2.2.2.2.2.1, hc16.2.2.2.2.2.2.1⟩
  have hz22 : zF (σ.1 σ.2.1.1) = s12 := zF_eq hr17
  refine dr_virt rfl rfl rfl rfl pr11a (f_X4_startIn l hl hI hS (by omega) q6 q8 q10 q7 hc16 hr17 ht18 ma19 mb20) (by decide) (by decide) (by decide) (Nat.le_of_ble_eq_true rfl) kNP (kIP (fun y23 y23f y23a y23b => ?_))
  obtain ⟨y23c, y23d, y23k⟩ := y23f
  have y23l : y23 ≤ s12 := y23k.2.1
  refine di_aload_n rfl rfl ?_
  refine dr_getf rfl hc4 rfl ?_
  refine di_aload_n rfl rfl ?_
  refine dr_virt rfl rfl rfl rfl pr11a (f_X4_endIn l hl hI hS (by omega) q6 q8 q10 q7 hc16 hr17 ht18 ma19 mb20) (by decide) (by decide) (by decide) (Nat.le_of_ble_eq_true rfl) kNP (kIP (fun y24 y24f y24a y24b => ?_))
  obtain ⟨y24c, y24d, y24k⟩ := y24f
  have y24l : y24 ≤ s12 := y24k.2.1
  obtain ⟨pq1, pq2, pq3, pq4, prP⟩ := hS.2
  have hn9 : nP σ = y24 - y23 := (ci_e hr17 y23k y24k (by omega) (by omega) prP).symm
  refine dr_virt rfl rfl rfl rfl hc16.1 (c_X0_removeRange l hl hI hS (by omega) q6 q8 q10 q7 (a1 := y23) (a2 := y24) (by omega) (by omega) hc16 hr17 ht18 ma19 mb20 (P := (inP σ.2.1.2.1 σ.2.1.2.2)) (rg_P y23k y24k) (rg_le y23k y24k (by omega) (by omega) prP)) (by decide) (by decide) (by decide) (Nat.le_of_ble_eq_true rfl) kQCN (kQC (fun h25 hI26 hF27 hS28 => ?_))
  have hF29 := hF27
  exact dr_iret (ty := .int) rfl rfl rfl (by decide) (by decide) (QX_ok hI26 hF29 hS28 (by omega) (by unfold spPartClear; (try rw [hn9]); (repeat' split) <;> first | rfl | (exfalso; omega) | (apply Prod.ext <;> first | rfl | (dsimp only; omega) | (apply Prod.ext <;> first | rfl | (dsimp only; omega)))))
set_option maxHeartbeats 4000000 in
set_option maxRecDepth 100000 in
/-- Earlyends.sift -/
theorem c_X6_sift (l : Launch) (hl : l.stackTraces = false) {kc km : Int} {h : dm_H} (hI : Inv kc km h) {B : Int} {σ : St} (hS : CSt B σ h) (hB : B ≤ 80000) {a1 : Int} (h1a : -2147483648 ≤ a1) (h1b : a1 ≤ 2147483647) {a2 : Int} (h2a : -2147483648 ≤ a2) (h2b : a2 ≤ 2147483647) {a3 : Int} (h3a : 0 ≤ a3) (h3b : a3 ≤ 1) : dm_M l 67 6 8 48 [.ref 0, dI (a1), dI (a2), dI (a3)] h (QX kc km h (B + 20) XB XA (spSift σ a1 a2 a3)) := by
  refine dm_M_of dk_67 hl rfl (Nat.le_of_ble_eq_true rfl) ?_
  show dm_W (fun _ _ _ => True) (dm_P (QX kc km h (B + 20) XB XA (spSift σ a1 a2 a3)) 8 48) l 67 6 8 48 0 [some (.ref 0), some (dI (a1)), some (dI (a2)), some (dI (a3)), none, none, none, none, none] [] h 0 0
  refine di_aload_n rfl rfl ?_
  refine dr_iload_n rfl rfl ?_
  obtain ⟨r1, c2, c3, hc4⟩ := I_cls hI
  refine dr_virt rfl rfl rfl rfl hc4 (f_X6_bookAt l hl hI (a1 := a1) (by omega) (by omega)) (by decide) (by decide) (by decide) (Nat.le_of_ble_eq_true rfl) (fun Y h9 q9 => by obtain ⟨rfl, rfl, hC⟩ := q9; exact dr_out rfl (by decide) (by decide) (QX_1 (a := 0) hI FrC_rf hS (by omega) (by unfold spSift; (repeat' split) <;> first | rfl | (exfalso; omega) | (apply Prod.ext <;> first | rfl | (dsimp only; omega) | (apply Prod.ext <;> first | rfl | (dsimp only; omega)))))) (kPXR (fun r5 ⟨q6, q7, q8, q10⟩ => ?_))
  refine di_astore (ls2 := [some (.ref 0), some (dI (a1)), some (dI (a2)), some (dI (a3)), some (.ref r5), none, none, none, none]) rfl rfl rfl ?_
  refine di_aload_n rfl rfl ?_
  refine dr_iload_n rfl rfl ?_
  refine dr_virt rfl rfl rfl rfl hc4 (f_X6_bookAt l hl hI (a1 := a2) (by omega) (by omega)) (by decide) (by decide) (by decide) (Nat.le_of_ble_eq_true rfl) (fun Y h9 q9 => by obtain ⟨rfl, rfl, hC⟩ := q9; exact dr_out rfl (by decide) (by decide) (QX_1 (a := 0) hI FrC_rf hS (by omega) (by unfold spSift; (repeat' split) <;> first | rfl | (exfalso; omega) | (apply Prod.ext <;> first | rfl | (dsimp only; omega) | (apply Prod.ext <;> first | rfl | (dsimp only; omega)))))) (kPXR (fun r11 ⟨q12, q13, q14, q15⟩ => ?_))
  refine di_astore (ls2 := [some (.ref 0), some (dI (a1)), some (dI (a2)), some (dI (a3)), some (.ref r5), some (.ref r11), none, none, none]) rfl rfl rfl ?_
  refine dr_iload_n rfl rfl ?_
  refine dr_iload_n rfl rfl ?_
  refine di_icmp_ne rfl rfl (by omega) (by omega) (by omega) (by omega) (fun c16 => ?_) (fun c16 => ?_)
  · skip
    refine di_aload rfl rfl ?_
    obtain ⟨s17, m18, u19, w20, hc21, hr22, ht23, ma24, mb25⟩ := CSt_bk hS (k := a1) q8 q10 q7
    have sq26 : 0 ≤ s17 ∧ s17 ≤ 8 := ⟨hc21.2.2.2.2.2.1, hc21.2.2.2.2.2.2.1⟩
    have hz27 : zF (σ.1 a1) = s17 := zF_eq hr22
    refine dr_virt rfl rfl rfl rfl hc21.1 (f_X0_count l hl hI q6 hc21 ) (by decide) (by decide) (by decide) (Nat.le_of_ble_eq_true rfl) kNP (kIP (fun y28 y28f y28a y28b => ?_))
    obtain ⟨y28c, y28d, y28e⟩ := y28f
    have y28e2 := y28e.symm
    subst y28e2
    refine di_istore (ls2 := [some (.ref 0), some (dI (a1)), some (dI (a2)), some (dI (a3)), some (.ref r5), some (.ref r11), some (dI (s17)), none, none]) rfl rfl rfl ?_
    refine dr_iload rfl rfl ?_
    refine di_const rfl ?_
    refine di_isub rfl ?_
    refine di_istore (ls2 := [some (.ref 0), some (dI (a1)), some (dI (a2)), some (dI (a3)), some (.ref r5), some (.ref r11), some (dI (s17)), some (dI ((s17 - 1))), none]) rfl rfl rfl ?_
    exact c_sift_loop l hl hB q8 q10 q14 q15 (by omega) (by omega) (by omega) q7 q13 (by omega) hr22 ht23 _ (s17 - 1) h σ s17 m18 u19 w20 (Nat.lt_succ_self _) (by omega) (Int.le_refl _) hI FrC_rf (CSt_up hS (by omega)) hc21 hr22 ht23 (by omega) (by omega) (fun _ _ _ => rfl) rfl (Wp_0 (fun j q1 q2 => absurd q1 (by omega))) (Or.inl ⟨rfl, rfl⟩)
  · skip
    exact dr_throw rfl (by decide) rfl (by decide) (by decide) (by decide) (Nat.le_of_ble_eq_true rfl) (QX_2 (a := 0) hI FrC_rf hS (by omega) (by unfold spSift; (repeat' split) <;> first | rfl | (exfalso; omega) | (apply Prod.ext <;> first | rfl | (dsimp only; omega) | (apply Prod.ext <;> first | rfl | (dsimp only; omega)))))
set_option maxHeartbeats 4000000 in
set_option maxRecDepth 100000 in
/-- Earlyends.pour -/
theorem c_X6_pour (l : Launch) (hl : l.stackTraces = false) {kc km : Int} {h : dm_H} (hI : Inv kc km h) {B : Int} {σ : St} (hS : CSt B σ h) (hB : B ≤ 80000) {a1 : Int} (h1a : -2147483648 ≤ a1) (h1b : a1 ≤ 2147483647) {a2 : Int} (h2a : -2147483648 ≤ a2) (h2b : a2 ≤ 2147483647) : dm_M l 65 6 8 48 [.ref 0, dI (a1), dI (a2)] h (QX kc km h (B + 20) XB XA (spPour σ a1 a2)) := by
  refine dm_M_of dk_65 hl rfl (Nat.le_of_ble_eq_true rfl) ?_
  show dm_W (fun _ _ _ => True) (dm_P (QX kc km h (B + 20) XB XA (spPour σ a1 a2)) 8 48) l 65 6 8 48 0 [some (.ref 0), some (dI (a1)), some (dI (a2)), none, none, none, none] [] h 0 0
  refine di_aload_n rfl rfl ?_
  refine dr_iload_n rfl rfl ?_
  obtain ⟨r1, c2, c3, hc4⟩ := I_cls hI
  refine dr_virt rfl rfl rfl rfl hc4 (f_X6_bookAt l hl hI (a1 := a1) (by omega) (by omega)) (by decide) (by decide) (by decide) (Nat.le_of_ble_eq_true rfl) (fun Y h9 q9 => by obtain ⟨rfl, rfl, hC⟩ := q9; exact dr_out rfl (by decide) (by decide) (QX_1 (a := 0) hI FrC_rf hS (by omega) (by unfold spPour; (try unfold sPour); (repeat' split) <;> first | rfl | (exfalso; omega) | (apply Prod.ext <;> first | rfl | (dsimp only; omega) | (apply Prod.ext <;> first | rfl | (dsimp only; omega)))))) (kPXR (fun r5 ⟨q6, q7, q8, q10⟩ => ?_))
  refine di_astore_n (ls2 := [some (.ref 0), some (dI (a1)), some (dI (a2)), some (.ref r5), none, none, none]) rfl rfl rfl ?_
  refine di_aload_n rfl rfl ?_
  refine dr_iload_n rfl rfl ?_
  refine dr_virt rfl rfl rfl rfl hc4 (f_X6_bookAt l hl hI (a1 := a2) (by omega) (by omega)) (by decide) (by decide) (by decide) (Nat.le_of_ble_eq_true rfl) (fun Y h9 q9 => by obtain ⟨rfl, rfl, hC⟩ := q9; exact dr_out rfl (by decide) (by decide) (QX_1 (a := 0) hI FrC_rf hS (by omega) (by unfold spPour; (try unfold sPour); (repeat' split) <;> first | rfl | (exfalso; omega) | (apply Prod.ext <;> first | rfl | (dsimp only; omega) | (apply Prod.ext <;> first | rfl | (dsimp only; omega)))))) (kPXR (fun r11 ⟨q12, q13, q14, q15⟩ => ?_))
  refine di_astore (ls2 := [some (.ref 0), some (dI (a1)), some (dI (a2)), some (.ref r5), some (.ref r11), none, none]) rfl rfl rfl ?_
  refine di_aload rfl rfl ?_
  refine di_aload_n rfl rfl ?_
  obtain ⟨s16, m17, u18, w19, hc20, hr21, ht22, ma23, mb24⟩ := CSt_bk hS (k := a2) q14 q15 q13
  have sq25 : 0 ≤ s16 ∧ s16 ≤ 8 := ⟨hc20.2.2.2.2.2.1, hc20.2.2.2.2.2.2.1⟩
  have hz26 : zF (σ.1 a2) = s16 := zF_eq hr21
  obtain ⟨s27, m28, u29, w30, hc31, hr32, ht33, ma34, mb35⟩ := CSt_bk hS (k := a1) q8 q10 q7
  have sq36 : 0 ≤ s27 ∧ s27 ≤ 8 := ⟨hc31.2.2.2.2.2.1, hc31.2.2.2.2.2.2.1⟩
  have hz37 : zF (σ.1 a1) = s27 := zF_eq hr32
  refine dr_virt rfl rfl rfl rfl hc20.1 (f_X0_countMissingIn l hl hI q12 hc20 q6 hc31 hr32 ht33) (by decide) (by decide) (by decide) (Nat.le_of_ble_eq_true rfl) kNP (kIP (fun y38 y38f y38a y38b => ?_))
  obtain ⟨y38c, y38d, y38k⟩ := y38f
  refine di_istore (ls2 := [some (.ref 0), some (dI (a1)), some (dI (a2)), some (.ref r5), some (.ref r11), some (dI (y38)), none]) rfl rfl rfl ?_
  refine di_aload_n rfl rfl ?_
  refine dr_virt rfl rfl rfl rfl hc31.1 (f_X0_count l hl hI q6 hc31 ) (by decide) (by decide) (by decide) (Nat.le_of_ble_eq_true rfl) kNP (kIP (fun y39 y39f y39a y39b => ?_))
  obtain ⟨y39c, y39d, y39e⟩ := y39f
  have y39e2 := y39e.symm
  subst y39e2
  refine dr_iload rfl rfl ?_
  refine di_iadd rfl ?_
  refine di_bipush rfl (by decide) ?_
  refine di_icmp_le rfl rfl (by omega) (by omega) (by omega) (by omega) (fun c40 => ?_) (fun c40 => ?_)
  · skip
    refine di_const rfl ?_
    refine di_istore (ls2 := [some (.ref 0), some (dI (a1)), some (dI (a2)), some (.ref r5), some (.ref r11), some (dI (y38)), some (dI (0))]) rfl rfl rfl ?_
    have zb9 := zF_eq hr32
    exact c_pour_loop l hl hB q8 q10 q14 q15 q7 q13 hr32 hc20 hr21 ht22 y38k (by omega) _ 0 h σ (Nat.lt_succ_self _) (Int.le_refl _) (by omega) hI FrC_rf (CSt_up hS (by omega)) (by rw [zb9]; exact (Int.add_zero _).symm) rfl (fun j q1 q2 => absurd q2 (by omega)) (fun _ _ => rfl) (Or.inl ⟨stN_id.symm, rfl⟩)
  · skip
    have hn9 := (nF_eq (fun c => decide (σ.1 a1 c = -1)) hr21).trans y38k.symm
    refine di_aload_n rfl rfl ?_
    refine dr_virt rfl rfl rfl rfl hc4 (c_X6_refuse l hl hI hS (by omega)) (by decide) (by decide) (by decide) (Nat.le_of_ble_eq_true rfl) kQCN (kQC (fun h41 hI42 hF43 hS44 => ?_))
    have hF45 := hF43
    exact dr_iret (ty := .int) rfl rfl rfl (by decide) (by decide) (QX_ok hI42 hF45 hS44 (by omega) (by unfold spPour; (try unfold sPour); (try rw [hn9]); (repeat' split) <;> first | rfl | (exfalso; omega) | (apply Prod.ext <;> first | rfl | (dsimp only; omega) | (apply Prod.ext <;> first | rfl | (dsimp only; omega)))))
