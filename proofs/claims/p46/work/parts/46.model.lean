/-! ===== sift, pour, copy of the model ===== -/
def rwP (h : dm_H) (k : Int) (u w : List Value) (i : Int) : Prop := ∀ (r q : Nat) (u' w' : List Value), (r : Int) = (28 : Nat) + k → (q : Int) = (32 : Nat) + k → h[r]? = some (20, u') → h[q]? = some (20, w') → ∀ j : Int, 0 ≤ j → j < i → cv u' j = cv u j ∧ cv w' j = cv w j
theorem some20 {o : Option dm_C} {u v : List Value} (a : o = some (20, u)) (c : o = some (20, v)) : u = v := by
  have := a.symm.trans c
  simp only [Option.some.injEq, Prod.mk.injEq, true_and] at this
  exact this
section RW
variable {h h' : dm_H} {k i : Int} {u w u1 w1 : List Value} {r q : Nat}
theorem rw_0 (er : (r : Int) = (28 : Nat) + k) (eq : (q : Int) = (32 : Nat) + k) (hu : h[r]? = some (20, u)) (hw : h[q]? = some (20, w)) : rwP h k u w i := fun r' q' u' w' er' eq' hu' hw' j _ _ => by
  have e1 : r' = r := by omega
  have e2 : q' = q := by omega
  subst e1; subst e2
  rw [some20 hu' hu, some20 hw' hw]; exact ⟨rfl, rfl⟩
theorem rw_kp (h0 : rwP h k u w (i + 1)) : rwP h k u w i := fun r' q' u' w' er' eq' hu' hw' j j0 j1 => h0 r' q' u' w' er' eq' hu' hw' j j0 (by omega)
theorem rw_go (h0 : rwP h k u w i) {a : Int} (ha : a ≤ i) (er : (r : Int) = (28 : Nat) + k) (eq : (q : Int) = (32 : Nat) + k) (hu : h[r]? = some (20, u1)) (hw : h[q]? = some (20, w1)) (hg : ∃ u' w' : List Value, h'[r]? = some (20, u') ∧ h'[q]? = some (20, w') ∧ ∀ j : Int, 0 ≤ j → j < a → cv u' j = cv u1 j ∧ cv w' j = cv w1 j) : rwP h' k u w a := fun r' q' u' w' er' eq' hu' hw' j j0 j1 => by
  have e1 : r' = r := by omega
  have e2 : q' = q := by omega
  subst e1; subst e2
  obtain ⟨u9, w9, g1, g2, g3⟩ := hg
  rw [some20 hu' g1, some20 hw' g2, (g3 j j0 j1).1, (g3 j j0 j1).2]
  exact h0 _ _ _ _ er eq hu hw j j0 (by omega)
theorem rw_fr {b : Int} {rb qb : Nat} (h0 : rwP h k u w i) (k0 : 0 ≤ k) (k2 : k ≤ 2) (b0 : 0 ≤ b) (b2 : b ≤ 2) (er : (rb : Int) = (28 : Nat) + b) (eq : (qb : Int) = (32 : Nat) + b) (hne : k ≠ b) (f : FrX rb qb h h') : rwP h' k u w i := fun r' q' u' w' er' eq' hu' hw' => by
  rw [f r' (by omega) (by omega) (by omega) (by omega)] at hu'
  rw [f q' (by omega) (by omega) (by omega) (by omega)] at hw'
  exact h0 _ _ _ _ er' eq' hu' hw'
end RW
def sfB (σ : St) (o z : Int) : Int → Prop := fun c => ¬ (decide (σ.1 o c ≠ -1) = decide (z = 1))
theorem sfB_t {σ τ : St} {o z c : Int} (e : τ.1 o = σ.1 o) (h : (τ.1 o c ≠ -1 ∧ z ≠ 1) ∨ (τ.1 o c = -1 ∧ z = 1)) : sfB σ o z c := by
  unfold sfB
  rw [← e]
  rcases h with ⟨a, b⟩ | ⟨a, b⟩
  · rw [decide_eq_true a, decide_eq_false b]; decide
  · rw [decide_eq_false (fun q => q a), decide_eq_true b]; decide
theorem sfB_f {σ τ : St} {o z c : Int} (e : τ.1 o = σ.1 o) (h : (τ.1 o c ≠ -1 ∧ z = 1) ∨ (τ.1 o c = -1 ∧ z ≠ 1)) : ¬ sfB σ o z c := by
  unfold sfB
  rw [← e]
  rcases h with ⟨a, b⟩ | ⟨a, b⟩
  · rw [decide_eq_true a, decide_eq_true b]; exact fun q => q rfl
  · rw [decide_eq_false (fun q => q a), decide_eq_false b]; exact fun q => q rfl
def sfP (σ τ : St) (k : Int) (bad : Int → Prop) (f : Int → Int) (s i m : Int) : Prop := Wp (σ.1 k) f s bad i (τ.1 k) ∧ zF (τ.1 k) = s - m ∧ ((m = 0 ∧ τ = σ) ∨ (0 < m ∧ ∃ G, τ = stM σ k G))
section SF
variable {σ τ : St} {k s i m : Int} {bad : Int → Prop} {f g : Int → Int}
theorem sf_0 (hz : zF (σ.1 k) = s) : sfP σ σ k bad f s (s - 1) 0 := ⟨Wp_0 (fun j a b => by omega), by omega, Or.inl ⟨rfl, rfl⟩⟩
theorem sf_k {x : Int} (h : sfP σ τ k bad f s i m) (e : f i = x) (hb : ¬ bad x) : sfP σ τ k bad f s (i - 1) m := ⟨Wp_kp h.1 (by rw [e]; exact hb), h.2⟩
theorem sf_r {x : Int} (h : sfP σ τ k bad f s i m) (e : f i = x) (hb : bad x) (hi : i < s) (hm : 0 ≤ m) (hz : zF (up (τ.1 k) x (-1)) = s - m - 1) : sfP σ (stM τ k (up (τ.1 k) x (-1))) k bad f s (i - 1) (m + 1) := by
  subst e
  refine ⟨?_, ?_, Or.inr ⟨by omega, ?_⟩⟩
  · rw [stM_1]; exact Wp_rm (g := f) h.1 hb hi
  · rw [stM_1, hz]; omega
  · rcases h.2.2 with ⟨-, e⟩ | ⟨-, G, e⟩
    · rw [e]; exact ⟨_, rfl⟩
    · refine ⟨up (τ.1 k) (f i) (-1), ?_⟩
      generalize up (τ.1 k) (f i) (-1) = F9
      rw [e]; exact stM_M
theorem sf_e {o z : Int} (h : sfP σ τ k (sfB σ o z) f s i m) (hi : i = -1) (hr : Rep f g s (σ.1 k)) : sWipe σ k (sif (σ.1 o) (σ.1 k) z) (zF (σ.1 k) - zF (sif (σ.1 o) (σ.1 k) z)) = (m, τ) := by
  subst hi
  obtain ⟨h1, h2, h3⟩ := h
  have hw := Wp_end hr (by omega) h1 (fun j a b => by omega)
  have e : τ.1 k = sif (σ.1 o) (σ.1 k) z := funext fun c => by
    unfold sif
    by_cases q : (decide (σ.1 o c ≠ -1)) = decide (z = 1)
    · rw [if_pos q]; exact (hw c).2 (fun q2 => q2 q)
    · rw [if_neg q]; exact (hw c).1 q
  rw [← e, h2, zF_eq hr, show s - (s - m) = m by omega]
  unfold sWipe
  rcases h3 with ⟨h4, h5⟩ | ⟨h4, G, h5⟩
  · rw [if_pos h4, h4, h5]
  · rw [if_neg (by omega)]
    subst h5
    rw [stM_1]
theorem sf_o {o : Int} (h : sfP σ τ k bad f s i m) (hne : o ≠ k) : τ.1 o = σ.1 o := by
  rcases h.2.2 with ⟨-, e⟩ | ⟨-, G, e⟩
  · rw [e]
  · rw [e]; exact stM_o hne
end SF

set_option maxHeartbeats 4000000 in
set_option maxRecDepth 100000 in
/-- EarlyendsModel.sift -/
theorem n_X8_sift (l : Launch) (hl : l.stackTraces = false) {kc km : Int} {h : dm_H} (hI : Inv kc km h) {th : Int} {σ : St} (hM : MSt km th σ h) {a1 : Int} (h1a : -2147483648 ≤ a1) (h1b : a1 ≤ 2147483647) {a2 : Int} (h2a : -2147483648 ≤ a2) (h2b : a2 ≤ 2147483647) {a3 : Int} (h3a : 0 ≤ a3) (h3b : a3 ≤ 1) : dm_M l 155 8 0 0 [.ref 26, dI (a1), dI (a2), dI (a3)] h (QM9 kc km h (spSift σ a1 a2 a3)) := by
  obtain ⟨⟨ni, c26, ni0, ni1⟩, ⟨⟨R1, R2⟩, ⟨R3, R4⟩, ⟨R5, R6⟩, ⟨R7, R8⟩, ⟨R9, R10⟩, ⟨R11, R12⟩, R13⟩, ⟨th0, th1⟩, -⟩ := id hM
  have R14 : σ.2.2.2.2.2.1 = -1 ∨ (0 ≤ σ.2.2.2.2.2.1 ∧ σ.2.2.2.2.2.1 ≤ 9999 ∧ σ.2.2.2.2.2.1 % 100 ≤ σ.2.2.2.2.2.1 / 100) := R13
  refine dm_M_of dk_155 hl rfl (Nat.le_of_ble_eq_true rfl) ?_
  show dm_W (fun _ _ _ => True) (dm_P (QM9 kc km h (spSift σ a1 a2 a3)) 0 0) l 155 8 0 0 0 [some (.ref 26), some (dI (a1)), some (dI (a2)), some (dI (a3)), none, none, none] [] h 0 0
  refine di_aload_n rfl rfl ?_
  refine dr_iload_n rfl rfl ?_
  refine dr_stat rfl rfl rfl rfl (f_X8_isNoBook l hl hI (a0 := a1) (by omega) (by omega)) (by decide) (by decide) (by decide) (Nat.le_of_ble_eq_true rfl) kNP (kIP (fun y1 y1f y1a y1b => ?_))
  have y1g : 0 ≤ y1 ∧ y1 ≤ 1 ∧ (y1 = 0 → 0 ≤ a1 ∧ a1 ≤ 2) ∧ (y1 = 1 → a1 < 0 ∨ 2 < a1) := y1f
  clear y1f
  refine di_if_ne rfl rfl (by omega) (by omega) (fun c2 => ?_) (fun c2 => ?_)
  · skip
    refine di_const rfl ?_
    refine dr_goto rfl rfl ?_
    refine di_const rfl ?_
    refine dr_virt rfl rfl rfl rfl c26 (f_X8_start1 l hl hI hM (a2 := 1) (by omega) (by omega)) (by decide) (by decide) (by decide) (Nat.le_of_ble_eq_true rfl) kNQN (kNQ (fun h3 hI4 hF5 hM6 => ?_))
    have hF7 := FrM_tr FrM_rf hF5
    refine di_if_ne rfl rfl (by omega) (by omega) (fun _ => ?_) (fun c9 => by exfalso; omega)
    refine di_const rfl ?_
    exact dr_iret (ty := .int) rfl rfl rfl (by decide) (by decide) (QM_no (x := 0) hI4 hF7 hM6 (by omega) (by omega) (by omega) (by unfold spSift; (repeat' split) <;> first | rfl | (exfalso; omega) | (apply Prod.ext <;> first | rfl | (dsimp only; omega) | (apply Prod.ext <;> first | rfl | (dsimp only; omega)))))
  · skip
    refine dr_iload_n rfl rfl ?_
    refine dr_stat rfl rfl rfl rfl (f_X8_isNoBook l hl hI (a0 := a2) (by omega) (by omega)) (by decide) (by decide) (by decide) (Nat.le_of_ble_eq_true rfl) kNP (kIP (fun y8 y8f y8a y8b => ?_))
    have y8g : 0 ≤ y8 ∧ y8 ≤ 1 ∧ (y8 = 0 → 0 ≤ a2 ∧ a2 ≤ 2) ∧ (y8 = 1 → a2 < 0 ∨ 2 < a2) := y8f
    clear y8f
    refine di_if_eq rfl rfl (by omega) (by omega) (fun c10 => ?_) (fun c10 => ?_)
    · skip
      refine di_const rfl ?_
      refine di_const rfl ?_
      refine dr_virt rfl rfl rfl rfl c26 (f_X8_start0 l hl hI hM (a2 := 1) (by omega) (by omega)) (by decide) (by decide) (by decide) (Nat.le_of_ble_eq_true rfl) kNQN (kNQ (fun h11 hI12 hF13 hM14 => ?_))
      have hF15 := FrM_tr FrM_rf hF13
      refine di_if_ne rfl rfl (by omega) (by omega) (fun c9 => by exfalso; omega) (fun _ => ?_)
      refine di_aload_n rfl rfl ?_
      refine dr_iload_n rfl rfl ?_
      refine dr_iload_n rfl rfl ?_
      refine di_icmp_ne rfl rfl (by omega) (by omega) (by omega) (by omega) (fun c16 => ?_) (fun c16 => ?_)
      · skip
        refine di_const rfl ?_
        refine di_const rfl ?_
        obtain ⟨⟨ni17, ni17c, ni17a, ni17b⟩, -⟩ := id hM14
        refine dr_virt rfl rfl rfl rfl ni17c (f_X8_refuse0 l hl hI12 hM14 (a2 := 2) (by omega) (by omega)) (by decide) (by decide) (by decide) (Nat.le_of_ble_eq_true rfl) kNQN (kNQ (fun h18 hI19 hF20 hM21 => ?_))
        have hF22 := FrM_tr hF15 hF20
        refine di_if_eq rfl rfl (by omega) (by omega) (fun _ => ?_) (fun c9 => by exfalso; omega)
        obtain ⟨r23, q24, u25, w26, us27, er28, eq29, hu30, hw31, au32, aw33, hs34, as35, hr36, sa37, sb38⟩ := MSt_bk hM21 (k := a1) (by omega) (by omega)
        have hz39 : zF (σ.1 a1) = cv us27 a1 := zF_eq hr36
        have mr40 : isCR r23 := isCR_of er28 (by omega) (by omega)
        have mq41 : isNR q24 := isNR_of eq29 (by omega) (by omega)
        refine di_const rfl ?_
        refine di_istore (ls2 := [some (.ref 26), some (dI (a1)), some (dI (a2)), some (dI (a3)), some (dI (0)), none, none]) rfl rfl rfl ?_
        refine di_aload_n rfl rfl ?_
        obtain ⟨⟨ni42, ni42c, ni42a, ni42b⟩, -⟩ := id hM21
        refine dr_getf rfl ni42c rfl ?_
        refine dr_iload_n rfl rfl ?_
        refine di_iald rfl hs34 as35 (by omega) (by omega) (fun x43 x43f x43a x43b x43v => ?_)
        have x43w : cv us27 a1 = x43 := cv_eq x43v x43a x43b
        have x43g : 0 ≤ x43 ∧ x43 ≤ 8 := x43f
        refine di_const rfl ?_
        refine di_isub rfl ?_
        refine di_istore (ls2 := [some (.ref 26), some (dI (a1)), some (dI (a2)), some (dI (a3)), some (dI (0)), some (dI ((x43 - 1))), none]) rfl rfl rfl ?_
        have L51 : ∀ (n : Nat) (i44 : Int) (i45 : Int) (h46 : dm_H) (τ47 : St), (i45 + 1).toNat < n → 0 ≤ i44 → i44 ≤ 8 → -1 ≤ i45 → i45 ≤ 7 → i45 < zF (τ47.1 a1) → i44 + i45 ≤ 7 → Inv kc km h46 → FrM h h46 → MSt km 0 τ47 h46 → sfP σ τ47 a1 (sfB σ a2 a3) (cv u25) (cv us27 a1) i45 i44 → rwP h46 a1 u25 w26 (i45 + 1) → dm_W (fun _ _ _ => True) (dm_P (QM9 kc km h (spSift σ a1 a2 a3)) 0 0) l 155 8 0 0 60 [some (.ref 26), some (dI (a1)), some (dI (a2)), some (dI (a3)), some (dI (i44)), some (dI (i45)), none] [] h46 0 0 := by
          intro n
          induction n with
          | zero => intro i44 i45 h46 τ47 hm; exact absurd hm (Nat.not_lt_zero _)
          | succ n ih =>
            intro i44 i45 h46 τ47 hm52 hb53 hb54 hb55 hb56 hx57 hx58 hI48 hF49 hM50 PL PRw
            have ihL51 := ih
            clear ih
            obtain ⟨r59, q60, u61, w62, us63, er64, eq65, hu66, hw67, au68, aw69, hs70, as71, hr72, sa73, sb74⟩ := MSt_bk hM50 (k := a1) (by omega) (by omega)
            have hz75 : zF (τ47.1 a1) = cv us63 a1 := zF_eq hr72
            have mr76 : isCR r59 := isCR_of er64 (by omega) (by omega)
            have mq77 : isNR q60 := isNR_of eq65 (by omega) (by omega)
            have po9 : τ47.1 a2 = σ.1 a2 := sf_o PL (by omega)
            have pz9 := PL.2.1
            have ru9 : ∀ j : Int, 0 ≤ j → j < i45 + 1 → cv u61 j = cv u25 j := fun j j0 j1 => (PRw r59 q60 u61 w62 er64 eq65 hu66 hw67 j j0 j1).1
            refine dr_iload rfl rfl ?_
            refine di_if_lt rfl rfl (by omega) (by omega) (fun c78 => ?_) (fun c78 => ?_)
            · skip
              refine dr_iload rfl rfl ?_
              exact dr_iret (ty := .int) rfl rfl rfl (by decide) (by decide) (QM_ok hI48 hF49 hM50 (by omega) (by omega) (by unfold spSift s0; rw [if_neg (by omega), if_neg (by omega), sf_e PL (by omega) hr36]))
            · skip
              refine di_aload_n rfl rfl ?_
              refine dr_iload_n rfl rfl ?_
              refine di_aload_n rfl rfl ?_
              obtain ⟨⟨ni79, ni79c, ni79a, ni79b⟩, -⟩ := id hM50
              have sr80 : sR τ47 := hM50.2.1
              have sr81 : -1 ≤ τ47.2.1.1 ∧ τ47.2.1.1 ≤ 2 := sr80.1
              have sr82 : -1 ≤ τ47.2.1.2.1 ∧ τ47.2.1.2.1 ≤ 99 := sr80.2.1
              have sr83 : -1 ≤ τ47.2.1.2.2 ∧ τ47.2.1.2.2 ≤ 99 := sr80.2.2.1
              have sr84 : -1 ≤ τ47.2.2.1 ∧ τ47.2.2.1 ≤ 2 := sr80.2.2.2.1
              have sr85 : 0 ≤ τ47.2.2.2.1 ∧ τ47.2.2.2.1 ≤ 1 := sr80.2.2.2.2.1
              have sr86 : -1 ≤ τ47.2.2.2.2.1 ∧ τ47.2.2.2.2.1 ≤ 9999 := sr80.2.2.2.2.2.1
              have sr87 : τ47.2.2.2.2.2.1 = -1 ∨ okC τ47.2.2.2.2.2.1 := sr80.2.2.2.2.2.2
              have hc88 : h46[26]? = some (10, [.ref 27, .ref 31, .ref 35, dI 0, dI ni79, dI km, dI τ47.2.1.1, dI τ47.2.1.2.1, dI τ47.2.1.2.2, dI τ47.2.2.1, dI τ47.2.2.2.1, dI τ47.2.2.2.2.1, dI τ47.2.2.2.2.2.1]) := ni79c
              refine dr_getf rfl hc88 rfl ?_
              refine dr_iload_n rfl rfl ?_
              have hc89 := I_mcs hI48
              refine paaE (k0 := 28) er64 rfl hc89 (by omega) (by omega) ?_
              refine dr_iload rfl rfl ?_
              refine di_iald rfl hu66 au68 (by omega) (by omega) (fun x90 x90f x90a x90b x90v => ?_)
              have x90w : cv u61 i45 = x90 := cv_eq x90v x90a x90b
              have x90g : 0 ≤ x90 ∧ x90 ≤ 9999 ∧ x90 % 100 ≤ x90 / 100 := x90f
              obtain ⟨r91, q92, u93, w94, us95, er96, eq97, hu98, hw99, au100, aw101, hs102, as103, hr104, sa105, sb106⟩ := MSt_bk hM50 (k := a2) (by omega) (by omega)
              have hz107 : zF (τ47.1 a2) = cv us95 a2 := zF_eq hr104
              have mr108 : isCR r91 := isCR_of er96 (by omega) (by omega)
              have mq109 : isNR q92 := isNR_of eq97 (by omega) (by omega)
              refine dr_virt rfl rfl rfl rfl hc88 (n_X8_at l hl hI48 hM50 (a1 := a2) (by omega) (by omega) (a2 := x90) (by omega) (by omega) er96 eq97 hu98 hw99 au100 aw101 hs102 as103 hr104 sa105 sb106) (by decide) (by decide) (by decide) (Nat.le_of_ble_eq_true rfl) kNP (kIP (fun y110 y110f y110a y110b => ?_))
              obtain ⟨y110c, y110d, y110k⟩ := y110f
              refine di_if_lt rfl rfl (by omega) (by omega) (fun c111 => ?_) (fun c111 => ?_)
              · skip
                have hFn112 := rkp_n y110k (by omega)
                refine di_const rfl ?_
                refine di_istore (ls2 := [some (.ref 26), some (dI (a1)), some (dI (a2)), some (dI (a3)), some (dI (i44)), some (dI (i45)), some (dI (0))]) rfl rfl rfl ?_
                refine dr_iload rfl rfl ?_
                refine dr_iload_n rfl rfl ?_
                refine di_icmp_ne rfl rfl (by omega) (by omega) (by omega) (by omega) (fun c113 => ?_) (fun c113 => ?_)
                · skip
                  refine di_aload_n rfl rfl ?_
                  refine dr_iload_n rfl rfl ?_
                  refine dr_iload rfl rfl ?_
                  have zd114 : zF (up (τ47.1 a1) x90 (-1)) = cv us63 a1 - 1 := zF_eq (by have q9 := Rep_del hr72 (r := i45) (by omega) (by omega); rw [x90w] at q9; exact q9)
                  have zq115 : zF ((stM τ47 a1 (up (τ47.1 a1) x90 (-1))).1 a1) = cv us63 a1 - 1 := by rw [stM_1]; exact zd114
                  refine dr_virt rfl rfl rfl rfl hc88 (nx_X8_go l hl hI48 hM50 (a1 := a1) (by omega) (by omega) (a2 := i45) (by omega) (by omega) er64 eq65 hu66 hw67 au68 aw69 hs70 as71 hr72 sa73 sb74 (c := x90) (by omega) x90w) (by decide) (by decide) (by decide) (Nat.le_of_ble_eq_true rfl) kNFVN (kNFV (fun h116 hI117 hF118 hM119 hX120 hT121 => ?_))
                  have hF122 := FrM_tr hF49 hF118
                  refine di_iinc (ls2 := [some (.ref 26), some (dI (a1)), some (dI (a2)), some (dI (a3)), some (dI ((i44 + 1))), some (dI (i45)), some (dI (0))]) rfl rfl rfl rfl ?_
                  refine di_iinc (ls2 := [some (.ref 26), some (dI (a1)), some (dI (a2)), some (dI (a3)), some (dI ((i44 + 1))), some (dI ((i45 + (-1)))), some (dI (0))]) rfl rfl rfl rfl ?_
                  refine dr_goto rfl rfl ?_
                  refine dm_wk (ls2 := [some (.ref 26), some (dI (a1)), some (dI (a2)), some (dI (a3)), some (dI ((i44 + 1))), some (dI ((i45 + (-1)))), none]) ⟨Or.inr rfl, Or.inr rfl, Or.inr rfl, Or.inr rfl, Or.inr rfl, Or.inr rfl, Or.inl rfl, trivial⟩ ?_
                  exact ihL51 ((i44 + 1)) ((i45 + (-1)))  h116 (stM τ47 a1 (up (τ47.1 a1) x90 (-1))) (by omega) (by omega) (by omega) (by omega) (by omega) (by omega) (by omega) hI117 hF122 hM119 (sf_r PL ((ru9 i45 (by omega) (by omega)).symm.trans x90w) (sfB_t po9 (by omega)) (by omega) (by omega) (by omega)) ((rw_go PRw (by omega) er64 eq65 hu66 hw67 hT121 : rwP _ _ _ _ i45) |> fun q9 => (by rw [show (i45 + (-1)) + 1 = i45 by omega]; exact q9))
                · skip
                  refine dr_goto rfl rfl ?_
                  refine di_iinc (ls2 := [some (.ref 26), some (dI (a1)), some (dI (a2)), some (dI (a3)), some (dI (i44)), some (dI ((i45 + (-1)))), some (dI (0))]) rfl rfl rfl rfl ?_
                  refine dr_goto rfl rfl ?_
                  refine dm_wk (ls2 := [some (.ref 26), some (dI (a1)), some (dI (a2)), some (dI (a3)), some (dI (i44)), some (dI ((i45 + (-1)))), none]) ⟨Or.inr rfl, Or.inr rfl, Or.inr rfl, Or.inr rfl, Or.inr rfl, Or.inr rfl, Or.inl rfl, trivial⟩ ?_
                  exact ihL51 (i44) ((i45 + (-1)))  h46 τ47 (by omega) (by omega) (by omega) (by omega) (by omega) (by omega) (by omega) hI48 hF49 hM50 (sf_k PL ((ru9 i45 (by omega) (by omega)).symm.trans x90w) (sfB_f po9 (by omega))) ((by rw [show (i45 + (-1)) + 1 = i45 by omega]; exact rw_kp PRw))
              · skip
                have hFy124 := rkp_y hr104 y110k (by omega)
                have hri123 := rkp_in y110k (by omega)
                refine di_const rfl ?_
                refine dr_goto rfl rfl ?_
                refine di_istore (ls2 := [some (.ref 26), some (dI (a1)), some (dI (a2)), some (dI (a3)), some (dI (i44)), some (dI (i45)), some (dI (1))]) rfl rfl rfl ?_
                refine dr_iload rfl rfl ?_
                refine dr_iload_n rfl rfl ?_
                refine di_icmp_ne rfl rfl (by omega) (by omega) (by omega) (by omega) (fun c125 => ?_) (fun c125 => ?_)
                · skip
                  refine di_aload_n rfl rfl ?_
                  refine dr_iload_n rfl rfl ?_
                  refine dr_iload rfl rfl ?_
                  have zd126 : zF (up (τ47.1 a1) x90 (-1)) = cv us63 a1 - 1 := zF_eq (by have q9 := Rep_del hr72 (r := i45) (by omega) (by omega); rw [x90w] at q9; exact q9)
                  have zq127 : zF ((stM τ47 a1 (up (τ47.1 a1) x90 (-1))).1 a1) = cv us63 a1 - 1 := by rw [stM_1]; exact zd126
                  refine dr_virt rfl rfl rfl rfl hc88 (nx_X8_go l hl hI48 hM50 (a1 := a1) (by omega) (by omega) (a2 := i45) (by omega) (by omega) er64 eq65 hu66 hw67 au68 aw69 hs70 as71 hr72 sa73 sb74 (c := x90) (by omega) x90w) (by decide) (by decide) (by decide) (Nat.le_of_ble_eq_true rfl) kNFVN (kNFV (fun h128 hI129 hF130 hM131 hX132 hT133 => ?_))
                  have hF134 := FrM_tr hF49 hF130
                  refine di_iinc (ls2 := [some (.ref 26), some (dI (a1)), some (dI (a2)), some (dI (a3)), some (dI ((i44 + 1))), some (dI (i45)), some (dI (1))]) rfl rfl rfl rfl ?_
                  refine di_iinc (ls2 := [some (.ref 26), some (dI (a1)), some (dI (a2)), some (dI (a3)), some (dI ((i44 + 1))), some (dI ((i45 + (-1)))), some (dI (1))]) rfl rfl rfl rfl ?_
                  refine dr_goto rfl rfl ?_
                  refine dm_wk (ls2 := [some (.ref 26), some (dI (a1)), some (dI (a2)), some (dI (a3)), some (dI ((i44 + 1))), some (dI ((i45 + (-1)))), none]) ⟨Or.inr rfl, Or.inr rfl, Or.inr rfl, Or.inr rfl, Or.inr rfl, Or.inr rfl, Or.inl rfl, trivial⟩ ?_
                  exact ihL51 ((i44 + 1)) ((i45 + (-1)))  h128 (stM τ47 a1 (up (τ47.1 a1) x90 (-1))) (by omega) (by omega) (by omega) (by omega) (by omega) (by omega) (by omega) hI129 hF134 hM131 (sf_r PL ((ru9 i45 (by omega) (by omega)).symm.trans x90w) (sfB_t po9 (by omega)) (by omega) (by omega) (by omega)) ((rw_go PRw (by omega) er64 eq65 hu66 hw67 hT133 : rwP _ _ _ _ i45) |> fun q9 => (by rw [show (i45 + (-1)) + 1 = i45 by omega]; exact q9))
                · skip
                  refine dr_goto rfl rfl ?_
                  refine di_iinc (ls2 := [some (.ref 26), some (dI (a1)), some (dI (a2)), some (dI (a3)), some (dI (i44)), some (dI ((i45 + (-1)))), some (dI (1))]) rfl rfl rfl rfl ?_
                  refine dr_goto rfl rfl ?_
                  refine dm_wk (ls2 := [some (.ref 26), some (dI (a1)), some (dI (a2)), some (dI (a3)), some (dI (i44)), some (dI ((i45 + (-1)))), none]) ⟨Or.inr rfl, Or.inr rfl, Or.inr rfl, Or.inr rfl, Or.inr rfl, Or.inr rfl, Or.inl rfl, trivial⟩ ?_
                  exact ihL51 (i44) ((i45 + (-1)))  h46 τ47 (by omega) (by omega) (by omega) (by omega) (by omega) (by omega) (by omega) hI48 hF49 hM50 (sf_k PL ((ru9 i45 (by omega) (by omega)).symm.trans x90w) (sfB_f po9 (by omega))) ((by rw [show (i45 + (-1)) + 1 = i45 by omega]; exact rw_kp PRw))
        exact L51 _ (0) ((x43 - 1))  h18 σ (Nat.lt_succ_self _) (by omega) (by omega) (by omega) (by omega) (by omega) (by omega) hI19 hF22 hM21 (by have q9 := sf_0 (bad := sfB σ a2 a3) (f := cv u25) (show zF (σ.1 a1) = cv us27 a1 by omega); rw [show cv us27 a1 - 1 = (x43 - 1) by omega] at q9; exact q9) (rw_0 er28 eq29 hu30 hw31)
      · skip
        refine di_const rfl ?_
        refine dr_goto rfl rfl ?_
        refine di_const rfl ?_
        obtain ⟨⟨ni135, ni135c, ni135a, ni135b⟩, -⟩ := id hM14
        refine dr_virt rfl rfl rfl rfl ni135c (f_X8_refuse1 l hl hI12 hM14 (a2 := 2) (by omega) (by omega)) (by decide) (by decide) (by decide) (Nat.le_of_ble_eq_true rfl) kNQN (kNQ (fun h136 hI137 hF138 hM139 => ?_))
        have hF140 := FrM_tr hF15 hF138
        refine di_if_eq rfl rfl (by omega) (by omega) (fun c9 => by exfalso; omega) (fun _ => ?_)
        refine di_const rfl ?_
        exact dr_iret (ty := .int) rfl rfl rfl (by decide) (by decide) (QM_no (x := 0) hI137 hF140 hM139 (by omega) (by omega) (by omega) (by unfold spSift; (repeat' split) <;> first | rfl | (exfalso; omega) | (apply Prod.ext <;> first | rfl | (dsimp only; omega) | (apply Prod.ext <;> first | rfl | (dsimp only; omega)))))
    · skip
      refine di_const rfl ?_
      refine dr_goto rfl rfl ?_
      refine di_const rfl ?_
      refine dr_virt rfl rfl rfl rfl c26 (f_X8_start1 l hl hI hM (a2 := 1) (by omega) (by omega)) (by decide) (by decide) (by decide) (Nat.le_of_ble_eq_true rfl) kNQN (kNQ (fun h141 hI142 hF143 hM144 => ?_))
      have hF145 := FrM_tr FrM_rf hF143
      refine di_if_ne rfl rfl (by omega) (by omega) (fun _ => ?_) (fun c9 => by exfalso; omega)
      refine di_const rfl ?_
      exact dr_iret (ty := .int) rfl rfl rfl (by decide) (by decide) (QM_no (x := 0) hI142 hF145 hM144 (by omega) (by omega) (by omega) (by unfold spSift; (repeat' split) <;> first | rfl | (exfalso; omega) | (apply Prod.ext <;> first | rfl | (dsimp only; omega) | (apply Prod.ext <;> first | rfl | (dsimp only; omega)))))
