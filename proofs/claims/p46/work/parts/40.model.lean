/-! ===== the model's state, told by what it means ===== -/
def MRow (k : Int) (u w : List Value) (h : dm_H) : Prop := ∀ r q : Nat, (r : Int) = 28 + k → (q : Int) = 32 + k → h[r]? = some (20, u) ∧ h[q]? = some (20, w) ∧ arr 8 okC u ∧ arr 8 anyI w
def mdF (km th ni : Int) (σ : St) : List Value := [.ref 27, .ref 31, .ref 35, dI th, dI ni, dI km, dI σ.2.1.1, dI σ.2.1.2.1, dI σ.2.1.2.2, dI σ.2.2.1, dI σ.2.2.2.1, dI σ.2.2.2.2.1, dI σ.2.2.2.2.2.1]
def sR (σ : St) : Prop := (-1 ≤ σ.2.1.1 ∧ σ.2.1.1 ≤ 2) ∧ (-1 ≤ σ.2.1.2.1 ∧ σ.2.1.2.1 ≤ 99) ∧ (-1 ≤ σ.2.1.2.2 ∧ σ.2.1.2.2 ≤ 99) ∧ (-1 ≤ σ.2.2.1 ∧ σ.2.2.1 ≤ 2) ∧ (0 ≤ σ.2.2.2.1 ∧ σ.2.2.2.1 ≤ 1) ∧ (-1 ≤ σ.2.2.2.2.1 ∧ σ.2.2.2.2.1 ≤ 9999) ∧ (σ.2.2.2.2.2.1 = -1 ∨ okC σ.2.2.2.2.2.1)
def MSt (km th : Int) (σ : St) (h : dm_H) : Prop := (∃ ni : Int, h[26]? = some (10, mdF km th ni σ) ∧ -2147483648 ≤ ni ∧ ni < 2147483648 ∧ dI ni = dI σ.2.2.2.2.2.2) ∧ sR σ ∧ (0 ≤ th ∧ th ≤ 2) ∧ ∃ us : List Value, h[35]? = some (20, us) ∧ arr 3 okS us ∧ ∀ k : Int, 0 ≤ k → k ≤ 2 → ∃ u w : List Value, MRow k u w h ∧ Rep (cv u) (cv w) (cv us k) (σ.1 k)
/-- all but the class's things and the law's own -/
def FrM (h h1 : dm_H) : Prop := h1.length = h.length ∧ ∀ j : Nat, j < 26 ∨ 36 ≤ j → h1[j]? = h[j]?
theorem FrM_rf {h : dm_H} : FrM h h := ⟨rfl, fun _ _ => rfl⟩
theorem FrM_tr {h h1 h2 : dm_H} (a : FrM h h1) (c : FrM h1 h2) : FrM h h2 := ⟨c.1.trans a.1, fun j x => (c.2 j x).trans (a.2 j x)⟩
theorem FrM_I {i : Nat} {h h1 : dm_H} (a : FrI i h h1) (hi : 26 ≤ i) (hj : i < 36) : FrM h h1 := ⟨a.1, fun j x => a.2 j (by omega)⟩
/-- all but one book's rows, the sizes, the model itself -/
def FrX (r q : Nat) (h h1 : dm_H) : Prop := ∀ j : Nat, j ≠ 26 → j ≠ 35 → j ≠ r → j ≠ q → h1[j]? = h[j]?
theorem FrX_rf {r q : Nat} {h : dm_H} : FrX r q h h := fun _ _ _ _ _ => rfl
theorem FrX_tr {r q : Nat} {h h1 h2 : dm_H} (a : FrX r q h h1) (c : FrX r q h1 h2) : FrX r q h h2 := fun j x1 x2 x3 x4 => (c j x1 x2 x3 x4).trans (a j x1 x2 x3 x4)
theorem FrX_I {r q i : Nat} {h h1 : dm_H} (a : FrI i h h1) (hi : i = 26 ∨ i = 35 ∨ i = r ∨ i = q) : FrX r q h h1 := fun j x1 x2 x3 x4 => a.2 j (by omega)
def FrA (r q : Nat) (h h1 : dm_H) : Prop := FrM h h1 ∧ FrX r q h h1
theorem FrA_rf {r q : Nat} {h : dm_H} : FrA r q h h := ⟨FrM_rf, FrX_rf⟩
theorem FrA_tr {r q : Nat} {h h1 h2 : dm_H} (a : FrA r q h h1) (c : FrA r q h1 h2) : FrA r q h h2 := ⟨FrM_tr a.1 c.1, FrX_tr a.2 c.2⟩
theorem FrA_I {r q i : Nat} {h h1 : dm_H} (a : FrI i h h1) (hi : 26 ≤ i) (hj : i < 36) (hk : i = 26 ∨ i = 35 ∨ i = r ∨ i = q) : FrA r q h h1 := ⟨FrM_I a hi hj, FrX_I a hk⟩
def stT (σ : St) (k : Int) : St := (σ.1, σ.2.1, (σ.2.2.1, if σ.2.2.1 = k then 1 else σ.2.2.2.1, σ.2.2.2.2.1, σ.2.2.2.2.2.1, σ.2.2.2.2.2.2))
section MS
variable {km th : Int} {σ : St} {h h' : dm_H}
/-- a book opened -/
theorem MSt_bk (hM : MSt km th σ h) {k : Int} (k0 : 0 ≤ k) (k1 : k ≤ 2) : ∃ (r q : Nat) (u w us : List Value), (r : Int) = (28 : Nat) + k ∧ (q : Int) = (32 : Nat) + k ∧ h[r]? = some (20, u) ∧ h[q]? = some (20, w) ∧ arr 8 okC u ∧ arr 8 anyI w ∧ h[35]? = some (20, us) ∧ arr 3 okS us ∧ Rep (cv u) (cv w) (cv us k) (σ.1 k) ∧ 0 ≤ cv us k ∧ cv us k ≤ 8 := by
  obtain ⟨-, -, -, us, h1, h2, h3⟩ := hM
  obtain ⟨u, w, hR, hr⟩ := h3 k k0 k1
  have e1 : ((28 + k).toNat : Int) = 28 + k := by omega
  have e2 : ((32 + k).toNat : Int) = 32 + k := by omega
  obtain ⟨a1, a2, a3, a4⟩ := hR (28 + k).toNat (32 + k).toNat e1 e2
  have hs := arr_cv h2 k0 (by omega)
  exact ⟨(28 + k).toNat, (32 + k).toNat, u, w, us, e1, e2, a1, a2, a3, a4, h1, h2, hr, hs.1, hs.2⟩
theorem MSt_md (hM : MSt km th σ h) (f : FrI 26 h h') {th' ni' : Int} {σ' : St} (hc : h'[26]? = some (10, mdF km th' ni' σ')) (hs : σ'.1 = σ.1) (hR : sR σ') (ht : 0 ≤ th' ∧ th' ≤ 2) (hn : -2147483648 ≤ ni' ∧ ni' < 2147483648 ∧ dI ni' = dI σ'.2.2.2.2.2.2) : MSt km th' σ' h' := by
  obtain ⟨-, -, -, us, h1, h2, h3⟩ := hM
  refine ⟨⟨ni', hc, hn⟩, hR, ht, us, (f.2 35 (by decide)).trans h1, h2, fun k k0 k1 => ?_⟩
  obtain ⟨u, w, hr, hp⟩ := h3 k k0 k1
  refine ⟨u, w, fun r q er eq => ?_, by rw [hs]; exact hp⟩
  obtain ⟨a1, a2, a3⟩ := hr r q er eq
  exact ⟨(f.2 r (by omega)).trans a1, (f.2 q (by omega)).trans a2, a3⟩
/-- one book's rows told anew -/
theorem MSt_rows (hM : MSt km th σ h) {k : Int} (k0 : 0 ≤ k) (k1 : k ≤ 2) {r q : Nat} (er : (r : Int) = (28 : Nat) + k) (eq : (q : Int) = (32 : Nat) + k) (f : FrX r q h h') {ni' : Int} (hc : h'[26]? = some (10, mdF km th ni' σ)) (hn : -2147483648 ≤ ni' ∧ ni' < 2147483648 ∧ dI ni' = dI σ.2.2.2.2.2.2) {us us' u' w' : List Value} (h35 : h[35]? = some (20, us)) (h35' : h'[35]? = some (20, us')) (hu : h'[r]? = some (20, u')) (hw : h'[q]? = some (20, w')) (au : arr 8 okC u') (aw : arr 8 anyI w') (as : arr 3 okS us') (ho : ∀ i : Int, 0 ≤ i → i ≤ 2 → i ≠ k → cv us' i = cv us i) {F : Int → Int} (hr : Rep (cv u') (cv w') (cv us' k) F) : MSt km th (stN σ k F) h' := by
  obtain ⟨-, hR, ht, us0, h1, h2, h3⟩ := hM
  have e0 : us0 = us := by
    have := h1.symm.trans h35
    simp only [Option.some.injEq, Prod.mk.injEq, true_and] at this
    exact this
  subst e0
  refine ⟨⟨ni', hc, hn⟩, hR, ht, us', h35', as, fun i i0 i1 => ?_⟩
  by_cases e : i = k
  · refine ⟨u', w', fun r9 q9 er9 eq9 => ?_, ?_⟩
    · have e1 : r9 = r := by omega
      have e2 : q9 = q := by omega
      rw [e1, e2]
      exact ⟨hu, hw, au, aw⟩
    · show Rep _ _ _ (if i = k then F else σ.1 i)
      rw [if_pos e, e]; exact hr
  · obtain ⟨u, w, hr9, hp⟩ := h3 i i0 i1
    refine ⟨u, w, fun r9 q9 er9 eq9 => ?_, ?_⟩
    · obtain ⟨a1, a2, a3⟩ := hr9 r9 q9 er9 eq9
      exact ⟨(f r9 (by omega) (by omega) (by omega) (by omega)).trans a1, (f q9 (by omega) (by omega) (by omega) (by omega)).trans a2, a3⟩
    · show Rep _ _ _ (if i = k then F else σ.1 i)
      rw [if_neg e, ho i i0 i1 e]; exact hp
theorem MSt_same (hM : MSt km th σ h) (hk : ∀ j : Nat, 26 ≤ j → j ≤ 35 → h'[j]? = h[j]?) : MSt km th σ h' := by
  obtain ⟨⟨ni, c1, c2⟩, hR, ht, us, h1, h2, h3⟩ := hM
  refine ⟨⟨ni, (hk 26 (by decide) (by decide)).trans c1, c2⟩, hR, ht, us, (hk 35 (by decide) (by decide)).trans h1, h2, fun k k0 k1 => ?_⟩
  obtain ⟨u, w, hr, hp⟩ := h3 k k0 k1
  refine ⟨u, w, fun r q er eq => ?_, hp⟩
  obtain ⟨a1, a2, a3⟩ := hr r q er eq
  exact ⟨(hk r (by omega) (by omega)).trans a1, (hk q (by omega) (by omega)).trans a2, a3⟩
end MS
def QN (kc km : Int) (h : dm_H) (th a : Int) (σ : St) : dm_Rs := fun r h' => Inv kc km h' ∧ FrM h h' ∧ MSt km th σ h' ∧ r = .inl (some (dI a))
def QNV (kc km : Int) (h : dm_H) (th : Int) (σ : St) : dm_Rs := fun r h' => Inv kc km h' ∧ FrM h h' ∧ MSt km th σ h' ∧ r = .inl none
/-- a call of the model: what it threw, the state, and, where it threw nothing, the answer -/
def QM9 (kc km : Int) (h : dm_H) (q : Int × Int × St) : dm_Rs := fun r h' => Inv kc km h' ∧ FrM h h' ∧ MSt km q.1 q.2.2 h' ∧ ∃ a : Int, r = .inl (some (dI a)) ∧ -2147483648 ≤ a ∧ a < 2147483648 ∧ (q.1 = 0 → a = q.2.1)
section QNR
variable {E : dm_Ex} {P : dm_Po} {l : Launch} {z d MC MS pc ce sl : Nat} {ls : List (Option Value)} {st : List Value} {h h' : dm_H} {kc km th a : Int} {σ : St}
theorem kNQ (kk : ∀ h1 : dm_H, Inv kc km h1 → FrM h h1 → MSt km th σ h1 → dm_W E P l z d MC MS pc ls (dI a :: st) h1 ce sl) : ∀ (v : Option Value) (h1 : dm_H), QN kc km h th a σ (.inl v) h1 → dm_W E P l z d MC MS pc ls (v.toList ++ st) h1 ce sl := by
  rintro v h1 ⟨x, y, z, e⟩
  cases e
  exact kk h1 x y z
theorem kNQV (kk : ∀ h1 : dm_H, Inv kc km h1 → FrM h h1 → MSt km th σ h1 → dm_W E P l z d MC MS pc ls st h1 ce sl) : ∀ (v : Option Value) (h1 : dm_H), QNV kc km h th σ (.inl v) h1 → dm_W E P l z d MC MS pc ls (v.toList ++ st) h1 ce sl := by
  rintro v h1 ⟨x, y, z, e⟩
  cases e
  exact kk h1 x y z
theorem kNQN : ∀ (Y : String) (h1 : dm_H), QN kc km h th a σ (.inr Y) h1 → dm_T9 E P l z d MC MS Y pc ls h1 ce sl := fun _ _ q => by cases q.2.2.2
theorem kNQVN : ∀ (Y : String) (h1 : dm_H), QNV kc km h th σ (.inr Y) h1 → dm_T9 E P l z d MC MS Y pc ls h1 ce sl := fun _ _ q => by cases q.2.2.2
theorem QM_ok {q : Int × Int × St} (hI : Inv kc km h') (hF : FrM h h') (hM : MSt km th σ h') (b0 : -2147483648 ≤ a) (b1 : a < 2147483648) (e : q = (th, a, σ)) : QM9 kc km h q (.inl (some (dI a))) h' := by
  subst e; exact ⟨hI, hF, hM, a, rfl, b0, b1, fun _ => rfl⟩
theorem QM_no {q : Int × Int × St} {x : Int} (hI : Inv kc km h') (hF : FrM h h') (hM : MSt km th σ h') (ht : th ≠ 0) (b0 : -2147483648 ≤ a) (b1 : a < 2147483648) (e : q = (th, x, σ)) : QM9 kc km h q (.inl (some (dI a))) h' := by
  subst e; exact ⟨hI, hF, hM, a, rfl, b0, b1, fun e => absurd e ht⟩
theorem QN_ok {th' a' : Int} {σ' : St} (hI : Inv kc km h') (hF : FrM h h') (hM : MSt km th' σ' h') (et : th = th') (ea : a = a') (es : σ = σ') : QN kc km h th a σ (.inl (some (dI a'))) h' := by
  subst et; subst ea; subst es; exact ⟨hI, hF, hM, rfl⟩
theorem QNV_ok {th' : Int} {σ' : St} (hI : Inv kc km h') (hF : FrM h h') (hM : MSt km th' σ' h') (et : th = th') (es : σ = σ') : QNV kc km h th σ (.inl none) h' := by
  subst et; subst es; exact ⟨hI, hF, hM, rfl⟩
end QNR
