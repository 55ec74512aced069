/-! ===== pour ===== -/
def mP (σ : St) (b : Int) : Int → Bool := fun c => decide (σ.1 b c = -1)
def poP (σ τ : St) (b : Int) (f g : Int → Int) (i : Int) : Prop := (∀ j : Int, 0 ≤ j → j < i → τ.1 b (f j) = g j) ∧ (∀ c : Int, (∀ j : Int, 0 ≤ j → j < i → f j ≠ c) → τ.1 b c = σ.1 b c) ∧ zF (τ.1 b) = zF (σ.1 b) + cnt f (mP σ b) i.toNat ∧ ((cnt f (mP σ b) i.toNat = 0 ∧ τ = stN σ b (τ.1 b)) ∨ (0 < cnt f (mP σ b) i.toNat ∧ τ = stM σ b (τ.1 b)))
theorem stN_1 {σ : St} {k : Int} {F : Int → Int} : (stN σ k F).1 k = F := if_pos rfl
theorem shN_N {σ τ : St} {b : Int} {F : Int → Int} (h : τ = stN σ b (τ.1 b)) : stN τ b F = stN σ b F := by rw [h]; exact stN_N
theorem shN_M {σ τ : St} {b : Int} {F : Int → Int} (h : τ = stM σ b (τ.1 b)) : stN τ b F = stM σ b F := by rw [h]; exact stN_M
theorem shM_N {σ τ : St} {b : Int} {F : Int → Int} (h : τ = stN σ b (τ.1 b)) : stM τ b F = stM σ b F := by rw [h]; exact stM_N
theorem shM_M {σ τ : St} {b : Int} {F : Int → Int} (h : τ = stM σ b (τ.1 b)) : stM τ b F = stM σ b F := by rw [h]; exact stM_M
section PO
variable {σ τ : St} {b o i s : Int} {f g : Int → Int}
theorem po_0 : poP σ σ b f g 0 := ⟨fun j a c => by omega, fun _ _ => rfl, by show _ = _ + 0; omega, Or.inl ⟨rfl, stN_id.symm⟩⟩
theorem po_nw (h : poP σ τ b f g i) (hr : Rep f g s (σ.1 o)) (h0 : 0 ≤ i) (h1 : i < s) : τ.1 b (f i) = σ.1 b (f i) := h.2.1 _ (fun j a c e => by
  have := Rep_inj hr a (by omega) h0 h1 e
  omega)
theorem po_st {σ' : St} {c x : Int} (h : poP σ τ b f g i) (hr : Rep f g s (σ.1 o)) (h0 : 0 ≤ i) (h1 : i < s) (ec : f i = c) (ex : g i = x) (e : σ'.1 b = up (τ.1 b) c x) : (∀ j : Int, 0 ≤ j → j < i + 1 → σ'.1 b (f j) = g j) ∧ (∀ c : Int, (∀ j : Int, 0 ≤ j → j < i + 1 → f j ≠ c) → σ'.1 b c = σ.1 b c) := by
  rw [e]
  refine ⟨fun j j0 j1 => ?_, fun c' hc => ?_⟩
  · by_cases q : j = i
    · rw [q, ec, up_s, ex]
    · rw [up_n (fun e2 => q (Rep_inj hr j0 (by omega) h0 h1 (e2.trans ec.symm)))]
      exact h.1 j j0 (by omega)
  · rw [up_n (fun e2 => hc i h0 (by omega) (ec.trans e2.symm))]
    exact h.2.1 c' (fun j j0 j1 => hc j j0 (by omega))
theorem po_s {c x : Int} {fb gb : Int → Int} {sb : Int} (h : poP σ τ b f g i) (hr : Rep f g s (σ.1 o)) (h0 : 0 ≤ i) (h1 : i < s) (ec : f i = c) (ex : g i = x) (hrb : Rep fb gb sb (τ.1 b)) (hroom : τ.1 b c = -1 → zF (τ.1 b) < 8) : poP σ (sPut τ b c x).2 b f g (i + 1) := by
  have hn := po_nw h hr h0 h1
  rw [ec] at hn
  have ha := Rep_at hr h0 h1
  rw [ec, ex] at ha
  obtain ⟨h3, h4⟩ := h.2.2
  have hzb := zF_eq hrb
  rcases sPut_cs τ b c x with ⟨q, e⟩ | ⟨q, q2, e⟩ | ⟨q, q2, e⟩
  · rw [e]
    have hp : mP σ b (f i) = false := by rw [ec]; exact decide_eq_false (by omega)
    have hc : cnt f (mP σ b) (i + 1).toNat = cnt f (mP σ b) i.toNat := by rw [cnt_st h0, hp, if_neg (by decide)]; omega
    obtain ⟨j, j0, j1, je⟩ := Rep_ex hrb q
    have hz2 : zF (up (τ.1 b) c x) = sb := by rw [← je]; exact zF_eq (Rep_note hrb j0 j1 ha.2.1.1 ha.2.1.2)
    obtain ⟨p1, p2⟩ := po_st (σ' := stN τ b (up (τ.1 b) c x)) h hr h0 h1 ec ex stN_1
    refine ⟨p1, p2, ?_, ?_⟩
    · show zF ((stN τ b (up (τ.1 b) c x)).1 b) = _
      rw [stN_1, hc, hz2]; omega
    · rw [hc]
      show (_ ∧ stN τ b (up (τ.1 b) c x) = stN σ b ((stN τ b (up (τ.1 b) c x)).1 b)) ∨ (_ ∧ stN τ b (up (τ.1 b) c x) = stM σ b ((stN τ b (up (τ.1 b) c x)).1 b))
      rw [stN_1]
      exact h4.elim (fun q => Or.inl ⟨q.1, shN_N q.2⟩) (fun q => Or.inr ⟨q.1, shN_M q.2⟩)
  · rw [e]
    have hp : mP σ b (f i) = true := by rw [ec]; exact decide_eq_true (by omega)
    have hb := (cnt_b f (mP σ b) i.toNat).1
    have hc : cnt f (mP σ b) (i + 1).toNat = cnt f (mP σ b) i.toNat + 1 := by rw [cnt_st h0, hp, if_pos rfl]
    have hz2 : zF (up (τ.1 b) c x) = sb + 1 := zF_eq (Rep_ins hrb (r := sb) (Rep_s0 hrb) (Int.le_refl _) q ha.1.1 ha.1.2 ha.2.1.1 ha.2.1.2)
    obtain ⟨p1, p2⟩ := po_st (σ' := stM τ b (up (τ.1 b) c x)) h hr h0 h1 ec ex stM_1
    refine ⟨p1, p2, ?_, ?_⟩
    · show zF ((stM τ b (up (τ.1 b) c x)).1 b) = _
      rw [stM_1, hc, hz2]; omega
    · rw [hc]
      show (_ ∧ stM τ b (up (τ.1 b) c x) = stN σ b ((stM τ b (up (τ.1 b) c x)).1 b)) ∨ (_ ∧ stM τ b (up (τ.1 b) c x) = stM σ b ((stM τ b (up (τ.1 b) c x)).1 b))
      rw [stM_1]
      exact h4.elim (fun q => Or.inr ⟨by omega, shM_N q.2⟩) (fun q => Or.inr ⟨by omega, shM_M q.2⟩)
  · exact absurd (hroom q) q2
theorem po_r {c : Int} (h : poP σ τ b f g i) (hr : Rep f g s (σ.1 o)) (h0 : 0 ≤ i) (h1 : i < s) (ec : f i = c) (hN : zF (σ.1 b) + cnt f (mP σ b) s.toNat ≤ 8) (q : τ.1 b c = -1) : zF (τ.1 b) < 8 := by
  have hn := po_nw h hr h0 h1
  rw [ec] at hn
  have hp : mP σ b (f i) = true := by rw [ec]; exact decide_eq_true (by omega)
  have hc : cnt f (mP σ b) (i + 1).toNat = cnt f (mP σ b) i.toNat + 1 := by rw [cnt_st h0, hp, if_pos rfl]
  have hl := cnt_le2 (f := f) (P := mP σ b) (i := i + 1) (s := s) (by omega) (by omega)
  have := h.2.2.1
  omega
theorem po_z (h : poP σ τ b f g i) (hr : Rep f g s (σ.1 o)) (h1 : i ≤ s) : zF (τ.1 o) = s := by
  by_cases e : o = b
  · subst e
    have hz := zF_eq hr
    have : cnt f (mP σ o) i.toNat = 0 := cnt_no _ (fun j j0 j1 => decide_eq_false (Rep_yes hr (j := j) j0 (by omega) rfl).2.1)
    rw [h.2.2.1, hz, this]; omega
  · have : τ.1 o = σ.1 o := by
      rcases h.2.2.2 with ⟨-, q⟩ | ⟨-, q⟩
      · rw [q]; exact stN_o e
      · rw [q]; exact stM_o e
    rw [this]; exact zF_eq hr
theorem po_e {n : Int} (h : poP σ τ b f g i) (hr : Rep f g s (σ.1 o)) (hi : i = s) (hn : n = cnt f (mP σ b) s.toNat) (h8 : ¬ 8 < zF (σ.1 b) + n) : sPour σ b o n = (n, τ) := by
  subst hi
  obtain ⟨h1, h2, -, h4⟩ := h
  have e : τ.1 b = mrg (σ.1 o) (σ.1 b) := funext fun c => by
    unfold mrg
    by_cases q : σ.1 o c ≠ -1
    · rw [if_pos q]
      obtain ⟨j, j0, j1, je⟩ := Rep_ex hr q
      rw [← je, h1 j j0 j1, (Rep_at hr j0 j1).2.2]
    · rw [if_neg q]
      exact h2 c (fun j j0 j1 je => q (Rep_yes hr j0 j1 je).2.1)
  unfold sPour
  rw [if_neg h8, ← e]
  rcases h4 with ⟨q1, q2⟩ | ⟨q1, q2⟩
  · rw [if_pos (by omega), ← q2]
    rw [show n = 0 by omega]
  · rw [if_neg (by omega), ← q2]
end PO
theorem rw_put {h h' : dm_H} {o b i : Int} {u w u1 w1 : List Value} {rb qb : Nat} (h0 : rwP h o u w i) (o0 : 0 ≤ o) (o2 : o ≤ 2) (b0 : 0 ≤ b) (b2 : b ≤ 2) (er : (rb : Int) = (28 : Nat) + b) (eq : (qb : Int) = (32 : Nat) + b) (hu : h[rb]? = some (20, u1)) (hw : h[qb]? = some (20, w1)) (f : FrX rb qb h h') (hg : o = b → h'[rb]? = some (20, u1) ∧ ∃ w' : List Value, h'[qb]? = some (20, w') ∧ ∀ j : Int, 0 ≤ j → cv w' j = cv w1 j) : rwP h' o u w i := by
  by_cases e : o = b
  · subst e
    obtain ⟨g1, w9, g2, g3⟩ := hg rfl
    exact rw_go h0 (Int.le_refl _) er eq hu hw ⟨u1, w9, g1, g2, fun j j0 _ => ⟨rfl, g3 j j0⟩⟩
  · exact rw_fr h0 o0 o2 b0 b2 er eq e f

set_option maxHeartbeats 4000000 in
set_option maxRecDepth 100000 in
/-- EarlyendsModel.pour -/
theorem n_X8_pour (l : Launch) (hl : l.stackTraces = false) {kc km : Int} {h : dm_H} (hI : Inv kc km h) {th : Int} {σ : St} (hM : MSt km th σ h) {a1 : Int} (h1a : -2147483648 ≤ a1) (h1b : a1 ≤ 2147483647) {a2 : Int} (h2a : -2147483648 ≤ a2) (h2b : a2 ≤ 2147483647) : dm_M l 153 8 0 0 [.ref 26, dI (a1), dI (a2)] h (QM9 kc km h (spPour σ a1 a2)) := by
  obtain ⟨⟨ni, c26, ni0, ni1⟩, ⟨⟨R1, R2⟩, ⟨R3, R4⟩, ⟨R5, R6⟩, ⟨R7, R8⟩, ⟨R9, R10⟩, ⟨R11, R12⟩, R13⟩, ⟨th0, th1⟩, -⟩ := id hM
  clear R13
  refine dm_M_of dk_153 hl rfl (Nat.le_of_ble_eq_true rfl) ?_
  show dm_W (fun _ _ _ => True) (dm_P (QM9 kc km h (spPour σ a1 a2)) 0 0) l 153 8 0 0 0 [some (.ref 26), some (dI (a1)), some (dI (a2)), none, none] [] h 0 0
  refine di_aload_n rfl rfl ?_
  refine dr_iload_n rfl rfl ?_
  refine dr_stat rfl rfl rfl rfl (f_X8_isNoBook l hl hI (a0 := a1) (by omega) (by omega)) (by decide) (by decide) (by decide) (Nat.le_of_ble_eq_true rfl) kNP (kIP (fun y1 y1f y1a y1b => ?_))
  have y1g : 0 ≤ y1 ∧ y1 ≤ 1 ∧ (y1 = 0 → 0 ≤ a1 ∧ a1 ≤ 2) ∧ (y1 = 1 → a1 < 0 ∨ 2 < a1) := y1f
  clear y1f
  refine di_if_ne rfl rfl (by omega) (by omega) (fun c2 => ?_) (fun c2 => ?_)
  · skip
    refine di_const rfl ?_
    refine dr_goto rfl rfl ?_
    refine di_const rfl ?_
    refine dr_virt rfl rfl rfl rfl c26 (f_X8_start1 l hl hI hM (a2 := 1) (by omega) (by omega)) (by decide) (by decide) (by decide) (Nat.le_of_ble_eq_true rfl) kNQN (kNQ (fun h3 hI4 hF5 hM6 => ?_))
    have hF7 := FrM_tr FrM_rf hF5
    refine di_if_eq rfl rfl (by omega) (by omega) (fun c9 => by exfalso; omega) (fun _ => ?_)
    refine di_const rfl ?_
    exact dr_iret (ty := .int) rfl rfl rfl (by decide) (by decide) (QM_no (x := 0) hI4 hF7 hM6 (by omega) (by omega) (by omega) (by unfold spPour; (repeat' split) <;> first | rfl | (exfalso; omega) | (apply Prod.ext <;> first | rfl | (dsimp only; omega) | (apply Prod.ext <;> first | rfl | (dsimp only; omega)))))
  · skip
    refine dr_iload_n rfl rfl ?_
    refine dr_stat rfl rfl rfl rfl (f_X8_isNoBook l hl hI (a0 := a2) (by omega) (by omega)) (by decide) (by decide) (by decide) (Nat.le_of_ble_eq_true rfl) kNP (kIP (fun y8 y8f y8a y8b => ?_))
    have y8g : 0 ≤ y8 ∧ y8 ≤ 1 ∧ (y8 = 0 → 0 ≤ a2 ∧ a2 ≤ 2) ∧ (y8 = 1 → a2 < 0 ∨ 2 < a2) := y8f
    clear y8f
    refine di_if_eq rfl rfl (by omega) (by omega) (fun c10 => ?_) (fun c10 => ?_)
    · skip
      refine di_const rfl ?_
      refine di_const rfl ?_
      refine dr_virt rfl rfl rfl rfl c26 (f_X8_start0 l hl hI hM (a2 := 1) (by omega) (by omega)) (by decide) (by decide) (by decide) (Nat.le_of_ble_eq_true rfl) kNQN (kNQ (fun h11 hI12 hF13 hM14 => ?_))
      have hF15 := FrM_tr FrM_rf hF13
      refine di_if_eq rfl rfl (by omega) (by omega) (fun _ => ?_) (fun c9 => by exfalso; omega)
      have qb1 : 0 ≤ a1 ∧ a1 ≤ 2 := by omega
      have qb2 : 0 ≤ a2 ∧ a2 ≤ 2 := by omega
      clear y1g y8g c2 c10 h1a h1b h2a h2b
      have h1a : -2147483648 ≤ a1 := by omega
      have h1b : a1 ≤ 2147483647 := by omega
      have h2a : -2147483648 ≤ a2 := by omega
      have h2b : a2 ≤ 2147483647 := by omega
      obtain ⟨r16, q17, u18, w19, us20, er21, eq22, hu23, hw24, au25, aw26, hs27, as28, hr29, sa30, sb31⟩ := MSt_bk hM14 (k := a1) (by omega) (by omega)
      have hz32 : zF (σ.1 a1) = cv us20 a1 := zF_eq hr29
      have mr33 : isCR r16 := isCR_of er21 (by omega) (by omega)
      have mq34 : isNR q17 := isNR_of eq22 (by omega) (by omega)
      obtain ⟨r35, q36, u37, w38, us39, er40, eq41, hu42, hw43, au44, aw45, hs46, as47, hr48, sa49, sb50⟩ := MSt_bk hM14 (k := a2) (by omega) (by omega)
      have es51 := some20 hs27 hs46
      subst es51
      have hz52 : zF (σ.1 a2) = cv us20 a2 := zF_eq hr48
      have mr53 : isCR r35 := isCR_of er40 (by omega) (by omega)
      have mq54 : isNR q36 := isNR_of eq41 (by omega) (by omega)
      refine di_const rfl ?_
      refine di_istore_n (ls2 := [some (.ref 26), some (dI (a1)), some (dI (a2)), some (dI (0)), none]) rfl rfl rfl ?_
      refine di_const rfl ?_
      refine di_istore (ls2 := [some (.ref 26), some (dI (a1)), some (dI (a2)), some (dI (0)), some (dI (0))]) rfl rfl rfl ?_
      have L57 : ∀ (n : Nat) (i55 : Int) (i56 : Int), (8 - i56).toNat < n → 0 ≤ i55 → i55 ≤ 8 → 0 ≤ i56 → i56 ≤ 8 → i56 ≤ cv us20 a2 → i55 ≤ i56 → cnP i55 (cv u37) (mP σ a1) i56 → dm_W (fun _ _ _ => True) (dm_P (QM9 kc km h (spPour σ a1 a2)) 0 0) l 153 8 0 0 34 [some (.ref 26), some (dI (a1)), some (dI (a2)), some (dI (i55)), some (dI (i56))] [] h11 0 0 := by
        intro n
        induction n with
        | zero => intro i55 i56 hm; exact absurd hm (Nat.not_lt_zero _)
        | succ n ih =>
          intro i55 i56 hm64 hb58 hb59 hb60 hb61 hx62 hx63 PC
          have ihL57 := ih
          clear ih
          refine dr_iload rfl rfl ?_
          refine di_aload_n rfl rfl ?_
          obtain ⟨⟨ni65, ni65c, ni65a, ni65b⟩, -⟩ := id hM14
          refine dr_getf rfl ni65c rfl ?_
          refine dr_iload_n rfl rfl ?_
          refine di_iald rfl hs46 as47 (by omega) (by omega) (fun x66 x66f x66a x66b x66v => ?_)
          have x66w : cv us20 a2 = x66 := cv_eq x66v x66a x66b
          have x66g : 0 ≤ x66 ∧ x66 ≤ 8 := x66f
          refine di_icmp_ge rfl rfl (by omega) (by omega) (by omega) (by omega) (fun c67 => ?_) (fun c67 => ?_)
          · skip
            have hn9 : i55 = cnt (cv u37) (mP σ a1) (cv us20 a2).toNat := by have q9 : i55 = cnt (cv u37) (mP σ a1) (i56).toNat := PC; rw [show i56 = cv us20 a2 by omega] at q9; exact q9
            have hm9 : nF (σ.1 a2) (fun c => decide (σ.1 a1 c = -1)) = i55 := (nF_eq _ hr48).trans hn9.symm
            refine di_aload_n rfl rfl ?_
            refine dr_getf rfl ni65c rfl ?_
            refine dr_iload_n rfl rfl ?_
            refine di_iald rfl hs46 as47 (by omega) (by omega) (fun x68 x68f x68a x68b x68v => ?_)
            have x68w : cv us20 a1 = x68 := cv_eq x68v x68a x68b
            have x68g : 0 ≤ x68 ∧ x68 ≤ 8 := x68f
            refine dr_iload_n rfl rfl ?_
            refine di_iadd rfl ?_
            refine di_bipush rfl (by decide) ?_
            refine di_icmp_le rfl rfl (by omega) (by omega) (by omega) (by omega) (fun c69 => ?_) (fun c69 => ?_)
            · skip
              refine di_const rfl ?_
              refine di_istore (ls2 := [some (.ref 26), some (dI (a1)), some (dI (a2)), some (dI (i55)), some (dI (0))]) rfl rfl rfl ?_
              have L76 : ∀ (n : Nat) (i70 : Int) (h71 : dm_H) (τ72 : St), (8 - i70).toNat < n → 0 ≤ i70 → i70 ≤ 8 → i70 ≤ cv us20 a2 → Inv kc km h71 → FrM h h71 → MSt km 0 τ72 h71 → poP σ τ72 a1 (cv u37) (cv w38) i70 → rwP h71 a2 u37 w38 (cv us20 a2) → dm_W (fun _ _ _ => True) (dm_P (QM9 kc km h (spPour σ a1 a2)) 0 0) l 153 8 0 0 92 [some (.ref 26), some (dI (a1)), some (dI (a2)), some (dI (i55)), some (dI (i70))] [] h71 0 0 := by
                intro n
                induction n with
                | zero => intro i70 h71 τ72 hm; exact absurd hm (Nat.not_lt_zero _)
                | succ n ih =>
                  intro i70 h71 τ72 hm77 hb78 hb79 hx80 hI73 hF74 hM75 PL PRw
                  have ihL76 := ih
                  clear ih
                  obtain ⟨r81, q82, u83, w84, us85, er86, eq87, hu88, hw89, au90, aw91, hs92, as93, hr94, sa95, sb96⟩ := MSt_bk hM75 (k := a2) (by omega) (by omega)
                  have hz97 : zF (τ72.1 a2) = cv us85 a2 := zF_eq hr94
                  have mr98 : isCR r81 := isCR_of er86 (by omega) (by omega)
                  have mq99 : isNR q82 := isNR_of eq87 (by omega) (by omega)
                  obtain ⟨r100, q101, u102, w103, us104, er105, eq106, hu107, hw108, au109, aw110, hs111, as112, hr113, sa114, sb115⟩ := MSt_bk hM75 (k := a1) (by omega) (by omega)
                  have es116 := some20 hs92 hs111
                  subst es116
                  have hz117 : zF (τ72.1 a1) = cv us85 a1 := zF_eq hr113
                  have mr118 : isCR r100 := isCR_of er105 (by omega) (by omega)
                  have mq119 : isNR q101 := isNR_of eq106 (by omega) (by omega)
                  have pz9 : zF (τ72.1 a2) = cv us20 a2 := po_z PL hr48 (by omega)
                  have ru9 : ∀ j : Int, 0 ≤ j → j < cv us20 a2 → cv u83 j = cv u37 j ∧ cv w84 j = cv w38 j := fun j j0 j1 => PRw r81 q82 u83 w84 er86 eq87 hu88 hw89 j j0 j1
                  refine dr_iload rfl rfl ?_
                  refine di_aload_n rfl rfl ?_
                  obtain ⟨⟨ni120, ni120c, ni120a, ni120b⟩, -⟩ := id hM75
                  have sr121 : sR τ72 := hM75.2.1
                  have sr122 : -1 ≤ τ72.2.1.1 ∧ τ72.2.1.1 ≤ 2 := sr121.1
                  have sr123 : -1 ≤ τ72.2.1.2.1 ∧ τ72.2.1.2.1 ≤ 99 := sr121.2.1
                  have sr124 : -1 ≤ τ72.2.1.2.2 ∧ τ72.2.1.2.2 ≤ 99 := sr121.2.2.1
                  have sr125 : -1 ≤ τ72.2.2.1 ∧ τ72.2.2.1 ≤ 2 := sr121.2.2.2.1
                  have sr126 : 0 ≤ τ72.2.2.2.1 ∧ τ72.2.2.2.1 ≤ 1 := sr121.2.2.2.2.1
                  have sr127 : -1 ≤ τ72.2.2.2.2.1 ∧ τ72.2.2.2.2.1 ≤ 9999 := sr121.2.2.2.2.2.1
                  skip
                  have hc129 : h71[26]? = some (10, [.ref 27, .ref 31, .ref 35, dI 0, dI ni120, dI km, dI τ72.2.1.1, dI τ72.2.1.2.1, dI τ72.2.1.2.2, dI τ72.2.2.1, dI τ72.2.2.2.1, dI τ72.2.2.2.2.1, dI τ72.2.2.2.2.2.1]) := ni120c
                  refine dr_getf rfl hc129 rfl ?_
                  refine dr_iload_n rfl rfl ?_
                  refine di_iald rfl hs111 as112 (by omega) (by omega) (fun x130 x130f x130a x130b x130v => ?_)
                  have x130w : cv us85 a2 = x130 := cv_eq x130v x130a x130b
                  have x130g : 0 ≤ x130 ∧ x130 ≤ 8 := x130f
                  refine di_icmp_ge rfl rfl (by omega) (by omega) (by omega) (by omega) (fun c131 => ?_) (fun c131 => ?_)
                  · skip
                    refine dr_iload_n rfl rfl ?_
                    exact dr_iret (ty := .int) rfl rfl rfl (by decide) (by decide) (QM_ok hI73 hF74 hM75 (by omega) (by omega) (by unfold spPour s0; rw [if_neg (by omega), hm9, po_e PL hr48 (by omega) hn9 (by omega)]))
                  · skip
                    refine di_aload_n rfl rfl ?_
                    refine dr_iload_n rfl rfl ?_
                    refine di_aload_n rfl rfl ?_
                    refine dr_getf rfl hc129 rfl ?_
                    refine dr_iload_n rfl rfl ?_
                    have hc132 := I_mcs hI73
                    refine paaE (k0 := 28) er86 rfl hc132 (by omega) (by omega) ?_
                    refine dr_iload rfl rfl ?_
                    refine di_iald rfl hu88 au90 (by omega) (by omega) (fun x133 x133f x133a x133b x133v => ?_)
                    have x133w : cv u83 i70 = x133 := cv_eq x133v x133a x133b
                    have x133g : 0 ≤ x133 ∧ x133 ≤ 9999 ∧ x133 % 100 ≤ x133 / 100 := x133f
                    refine di_aload_n rfl rfl ?_
                    refine dr_getf rfl hc129 rfl ?_
                    refine dr_iload_n rfl rfl ?_
                    have hc134 := I_mns hI73
                    refine paaE (k0 := 32) eq87 rfl hc134 (by omega) (by omega) ?_
                    refine dr_iload rfl rfl ?_
                    refine di_iald rfl hw89 aw91 (by omega) (by omega) (fun x135 x135f x135a x135b x135v => ?_)
                    have x135w : cv w84 i70 = x135 := cv_eq x135v x135a x135b
                    have xb9 := (Rep_at hr94 (j := i70) (by omega) (by omega)).2.1
                    have ce9 : cv u37 i70 = x133 := (ru9 i70 (by omega) (by omega)).1.symm.trans x133w
                    have xe9 : cv w38 i70 = x135 := (ru9 i70 (by omega) (by omega)).2.symm.trans x135w
                    have ro9 : τ72.1 a1 x133 = -1 → zF (τ72.1 a1) < 8 := fun q => po_r PL hr48 (by omega) (by omega) ce9 (by omega) q
                    have rn9 : τ72.1 a1 x133 ≠ -1 ∨ cv us85 a1 ≤ 7 := (Classical.em (τ72.1 a1 x133 = -1)).elim (fun q => Or.inr (by have q9 := ro9 q; omega)) Or.inl
                    have hy9 : τ72.1 a2 x133 = x135 := ((Rep_yes hr94 (j := i70) (by omega) (by omega) x133w).1).trans x135w
                    have ps9 := po_s PL hr48 (by omega) (by omega) ce9 xe9 hr113 ro9
                    refine dr_virt rfl rfl rfl rfl hc129 (nx_X8_putIn l hl hI73 hM75 (a1 := a1) (by omega) (by omega) (a2 := x133) (by omega) (by omega) (a3 := x135) (by omega) (by omega) er105 eq106 hu107 hw108 au109 aw110 hs111 as112 hr113 sa114 sb115 (by omega) rn9) (by decide) (by decide) (by decide) (Nat.le_of_ble_eq_true rfl) kNFN (kNF (fun h136 hI137 hF138 hM139 hX140 hT141 => ?_))
                    have hF142 := FrM_tr hF74 hF138
                    have rw9 := rw_put PRw (by omega) (by omega) (by omega) (by omega) er105 eq106 hu107 hw108 hX140 (fun e => hT141 (by rw [← e]; exact hy9) (by omega))
                    refine dr_pop rfl rfl ?_
                    refine di_iinc (ls2 := [some (.ref 26), some (dI (a1)), some (dI (a2)), some (dI (i55)), some (dI ((i70 + 1)))]) rfl rfl rfl rfl ?_
                    refine dr_goto rfl rfl ?_
                    exact ihL76 ((i70 + 1))  h136 (sPut τ72 a1 x133 x135).2 (by omega) (by omega) (by omega) (by omega) hI137 hF142 hM139 ps9 rw9
              exact L76 _ (0)  h11 σ (Nat.lt_succ_self _) (by omega) (by omega) (by omega) hI12 hF15 hM14 po_0 (rw_0 er40 eq41 hu42 hw43)
            · skip
              refine di_aload_n rfl rfl ?_
              refine dr_virt rfl rfl rfl rfl ni65c (n_X8_nine l hl hI12 hM14) (by decide) (by decide) (by decide) (Nat.le_of_ble_eq_true rfl) kNQN (kNQ (fun h143 hI144 hF145 hM146 => ?_))
              have hF147 := FrM_tr hF15 hF145
              exact dr_iret (ty := .int) rfl rfl rfl (by decide) (by decide) (QM_ok hI144 hF147 hM146 (by omega) (by omega) (by unfold spPour s0; rw [if_neg (by omega), hm9]; unfold sPour; rw [if_pos (by omega)]))
          · skip
            refine di_aload_n rfl rfl ?_
            refine dr_iload_n rfl rfl ?_
            refine di_aload_n rfl rfl ?_
            refine dr_getf rfl ni65c rfl ?_
            refine dr_iload_n rfl rfl ?_
            have hc148 := I_mcs hI12
            refine paaE (k0 := 28) er40 rfl hc148 (by omega) (by omega) ?_
            refine dr_iload rfl rfl ?_
            refine di_iald rfl hu42 au44 (by omega) (by omega) (fun x149 x149f x149a x149b x149v => ?_)
            have x149w : cv u37 i56 = x149 := cv_eq x149v x149a x149b
            have x149g : 0 ≤ x149 ∧ x149 ≤ 9999 ∧ x149 % 100 ≤ x149 / 100 := x149f
            refine dr_virt rfl rfl rfl rfl ni65c (n_X8_at l hl hI12 hM14 (a1 := a1) (by omega) (by omega) (a2 := x149) (by omega) (by omega) er21 eq22 hu23 hw24 au25 aw26 hs27 as28 hr29 sa30 sb31) (by decide) (by decide) (by decide) (Nat.le_of_ble_eq_true rfl) kNP (kIP (fun y150 y150f y150a y150b => ?_))
            obtain ⟨y150c, y150d, y150k⟩ := y150f
            refine di_if_ge rfl rfl (by omega) (by omega) (fun c151 => ?_) (fun c151 => ?_)
            · skip
              have hFy153 := rkp_y hr29 y150k (by omega)
              have hri152 := rkp_in y150k (by omega)
              refine di_iinc (ls2 := [some (.ref 26), some (dI (a1)), some (dI (a2)), some (dI (i55)), some (dI ((i56 + 1)))]) rfl rfl rfl rfl ?_
              refine dr_goto rfl rfl ?_
              exact ihL57 (i55) ((i56 + 1)) (by omega) (by omega) (by omega) (by omega) (by omega) (by omega) (by omega)  (cn_n PC (by omega) x149w (decide_eq_false (by omega)))
            · skip
              have hFn154 := rkp_n y150k (by omega)
              refine di_iinc (ls2 := [some (.ref 26), some (dI (a1)), some (dI (a2)), some (dI ((i55 + 1))), some (dI (i56))]) rfl rfl rfl rfl ?_
              refine di_iinc (ls2 := [some (.ref 26), some (dI (a1)), some (dI (a2)), some (dI ((i55 + 1))), some (dI ((i56 + 1)))]) rfl rfl rfl rfl ?_
              refine dr_goto rfl rfl ?_
              exact ihL57 ((i55 + 1)) ((i56 + 1)) (by omega) (by omega) (by omega) (by omega) (by omega) (by omega) (by omega)  (cn_y PC (by omega) x149w (decide_eq_true (by omega)))
      exact L57 _ (0) (0) (Nat.lt_succ_self _) (by omega) (by omega) (by omega) (by omega) (by omega) (by omega)  cn_0
    · skip
      refine di_const rfl ?_
      refine dr_goto rfl rfl ?_
      refine di_const rfl ?_
      refine dr_virt rfl rfl rfl rfl c26 (f_X8_start1 l hl hI hM (a2 := 1) (by omega) (by omega)) (by decide) (by decide) (by decide) (Nat.le_of_ble_eq_true rfl) kNQN (kNQ (fun h155 hI156 hF157 hM158 => ?_))
      have hF159 := FrM_tr FrM_rf hF157
      refine di_if_eq rfl rfl (by omega) (by omega) (fun c9 => by exfalso; omega) (fun _ => ?_)
      refine di_const rfl ?_
      exact dr_iret (ty := .int) rfl rfl rfl (by decide) (by decide) (QM_no (x := 0) hI156 hF159 hM158 (by omega) (by omega) (by omega) (by unfold spPour; (repeat' split) <;> first | rfl | (exfalso; omega) | (apply Prod.ext <;> first | rfl | (dsimp only; omega) | (apply Prod.ext <;> first | rfl | (dsimp only; omega)))))
