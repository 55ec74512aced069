/-! ===== what each call does to the state: the answer's kind (0: it answers; 1, 2: which refusal), the answer, the state ===== -/
def inP (lo hi c : Int) : Bool := decide ((lo = -1 ∨ lo ≤ c / 100) ∧ (hi = -1 ∨ c / 100 ≤ hi))
noncomputable def sPut (σ : St) (k c x : Int) : Int × St := if σ.1 k c ≠ -1 then (σ.1 k c, stN σ k (up (σ.1 k) c x)) else if zF (σ.1 k) < 8 then (-1, stM σ k (up (σ.1 k) c x)) else (-9, rf σ)
noncomputable def sMore (σ : St) (k c x : Int) : Int × St := if σ.1 k c ≠ -1 then ((σ.1 k c + x) % 100, stN σ k (up (σ.1 k) c ((σ.1 k c + x) % 100))) else if zF (σ.1 k) < 8 then (x, stM σ k (up (σ.1 k) c x)) else (-9, rf σ)
def sTake (σ : St) (k c : Int) : Int × St := if σ.1 k c ≠ -1 then (σ.1 k c, stM σ k (up (σ.1 k) c (-1))) else (-1, σ)
noncomputable def sDraw (σ : St) (k : Int) (P : Int → Bool) (z : Int) : Int × St := if z = 1 then (if grt (σ.1 k) P = -1 then (-1, σ) else (grt (σ.1 k) P, stM σ k (up (σ.1 k) (grt (σ.1 k) P) (-1)))) else (if lst (σ.1 k) P = -1 then (-1, σ) else (lst (σ.1 k) P, stM σ k (up (σ.1 k) (lst (σ.1 k) P) (-1))))
/-- many go at once, or none -/
noncomputable def sWipe (σ : St) (k : Int) (F : Int → Int) (n : Int) : Int × St := if n = 0 then (0, σ) else (n, stM σ k F)
def s0 (r : Int × St) : Int × Int × St := (0, r.1, r.2)
noncomputable def spPut (σ : St) (b f t x : Int) : Int × Int × St := if b < 0 ∨ 2 < b then (1, 0, σ) else if (f < 0 ∨ t < f ∨ 99 < t) ∨ (x < 0 ∨ 99 < x) then (2, 0, σ) else s0 (sPut σ b (100 * t + f) x)
noncomputable def spAdd (σ : St) (b f t x : Int) : Int × Int × St := if b < 0 ∨ 2 < b then (1, 0, σ) else if (f < 0 ∨ t < f ∨ 99 < t) ∨ (x < 0 ∨ 99 < x) then (2, 0, σ) else if σ.1 b (100 * t + f) ≠ -1 then (0, σ.1 b (100 * t + f), σ) else s0 (sPut σ b (100 * t + f) x)
noncomputable def spMore (σ : St) (b f t x : Int) : Int × Int × St := if b < 0 ∨ 2 < b then (1, 0, σ) else if (f < 0 ∨ t < f ∨ 99 < t) ∨ (x < 0 ∨ 99 < x) then (2, 0, σ) else s0 (sMore σ b (100 * t + f) x)
noncomputable def spChange (σ : St) (b f t x : Int) : Int × Int × St := if b < 0 ∨ 2 < b then (1, 0, σ) else if (f < 0 ∨ t < f ∨ 99 < t) ∨ (x < 0 ∨ 99 < x) then (2, 0, σ) else if σ.1 b (100 * t + f) ≠ -1 then (0, σ.1 b (100 * t + f), stN σ b (up (σ.1 b) (100 * t + f) x)) else (0, -1, σ)
noncomputable def spChangeIf (σ : St) (b f t o x : Int) : Int × Int × St := if b < 0 ∨ 2 < b then (1, 0, σ) else if (f < 0 ∨ t < f ∨ 99 < t) ∨ (o < 0 ∨ 99 < o) ∨ (x < 0 ∨ 99 < x) then (2, 0, σ) else if σ.1 b (100 * t + f) = o then (0, 1, stN σ b (up (σ.1 b) (100 * t + f) x)) else (0, 0, σ)
noncomputable def spTake (σ : St) (b f t : Int) : Int × Int × St := if b < 0 ∨ 2 < b then (1, 0, σ) else if f < 0 ∨ t < f ∨ 99 < t then (2, 0, σ) else s0 (sTake σ b (100 * t + f))
noncomputable def spTakeIf (σ : St) (b f t x : Int) : Int × Int × St := if b < 0 ∨ 2 < b then (1, 0, σ) else if (f < 0 ∨ t < f ∨ 99 < t) ∨ (x < 0 ∨ 99 < x) then (2, 0, σ) else if σ.1 b (100 * t + f) = x then (0, 1, stM σ b (up (σ.1 b) (100 * t + f) (-1))) else (0, 0, σ)
noncomputable def spTakeNote (σ : St) (b x : Int) : Int × Int × St := if b < 0 ∨ 2 < b then (1, 0, σ) else if x < 0 ∨ 99 < x then (2, 0, σ) else if lst (σ.1 b) (fun c => decide (σ.1 b c = x)) = -1 then (0, 0, σ) else (0, 1, stM σ b (up (σ.1 b) (lst (σ.1 b) (fun c => decide (σ.1 b c = x))) (-1)))
noncomputable def spDraw (σ : St) (b z : Int) : Int × Int × St := if b < 0 ∨ 2 < b then (1, 0, σ) else s0 (sDraw σ b (fun _ => true) z)
noncomputable def spClear (σ : St) (b : Int) : Int × Int × St := if b < 0 ∨ 2 < b then (1, 0, σ) else s0 (sWipe σ b (fun _ => -1) (zF (σ.1 b)))
def mrg (G F : Int → Int) : Int → Int := fun c => if G c ≠ -1 then G c else F c
noncomputable def sPour (σ : St) (b o : Int) (n : Int) : Int × St := if 8 < zF (σ.1 b) + n then (-9, rf σ) else if n = 0 then (0, stN σ b (mrg (σ.1 o) (σ.1 b))) else (n, stM σ b (mrg (σ.1 o) (σ.1 b)))
noncomputable def spPour (σ : St) (b o : Int) : Int × Int × St := if (b < 0 ∨ 2 < b) ∨ (o < 0 ∨ 2 < o) then (1, 0, σ) else s0 (sPour σ b o (nF (σ.1 o) (fun c => decide (σ.1 b c = -1))))
def stP (σ : St) (p lo hi : Int) : St := (σ.1, (p, lo, hi), σ.2.2)
def stH (σ : St) (b lost re he : Int) : St := (σ.1, σ.2.1, (b, lost, re, he, σ.2.2.2.2.2.2))
noncomputable def spCopy (σ : St) (b o : Int) : Int × Int × St := if (b < 0 ∨ 2 < b) ∨ (o < 0 ∨ 2 < o) then (1, 0, σ) else (0, zF (σ.1 o), stP (stM σ b (σ.1 o)) (if σ.2.1.1 = b then -1 else σ.2.1.1) σ.2.1.2.1 σ.2.1.2.2)
def sif (G F : Int → Int) (z : Int) : Int → Int := fun c => if (decide (G c ≠ -1)) = decide (z = 1) then F c else -1
noncomputable def spSift (σ : St) (b o z : Int) : Int × Int × St := if (b < 0 ∨ 2 < b) ∨ (o < 0 ∨ 2 < o) then (1, 0, σ) else if b = o then (2, 0, σ) else s0 (sWipe σ b (sif (σ.1 o) (σ.1 b) z) (zF (σ.1 b) - zF (sif (σ.1 o) (σ.1 b) z)))
noncomputable def nP (σ : St) : Int := nF (σ.1 σ.2.1.1) (inP σ.2.1.2.1 σ.2.1.2.2)
noncomputable def spPart (σ : St) (b lo hi : Int) : Int × Int × St := if b < 0 ∨ 2 < b then (1, 0, σ) else if (lo < -1 ∨ 99 < lo) ∨ (hi < -1 ∨ 99 < hi) ∨ (0 ≤ lo ∧ 0 ≤ hi ∧ hi < lo) then (2, 0, σ) else (0, nP (stP σ b lo hi), stP σ b lo hi)
noncomputable def spNarrow (σ : St) (lo hi : Int) : Int × Int × St := if lo < 0 ∨ hi < lo ∨ 99 < hi then (1, 0, σ) else if σ.2.1.1 = -1 then (2, 0, σ) else if (σ.2.1.2.1 = -1 ∨ σ.2.1.2.1 ≤ lo) ∧ (σ.2.1.2.2 = -1 ∨ hi ≤ σ.2.1.2.2) then (0, nP (stP σ σ.2.1.1 lo hi), stP σ σ.2.1.1 lo hi) else (0, -9, rf σ)
noncomputable def spPartPut (σ : St) (f t x : Int) : Int × Int × St := if (f < 0 ∨ t < f ∨ 99 < t) ∨ (x < 0 ∨ 99 < x) then (1, 0, σ) else if σ.2.1.1 = -1 then (2, 0, σ) else if (σ.2.1.2.1 = -1 ∨ σ.2.1.2.1 ≤ t) ∧ (σ.2.1.2.2 = -1 ∨ t ≤ σ.2.1.2.2) then s0 (sPut σ σ.2.1.1 (100 * t + f) x) else (0, -9, rf σ)
noncomputable def spPartTake (σ : St) (f t : Int) : Int × Int × St := if f < 0 ∨ t < f ∨ 99 < t then (1, 0, σ) else if σ.2.1.1 = -1 then (2, 0, σ) else if (σ.2.1.2.1 = -1 ∨ σ.2.1.2.1 ≤ t) ∧ (σ.2.1.2.2 = -1 ∨ t ≤ σ.2.1.2.2) then s0 (sTake σ σ.2.1.1 (100 * t + f)) else (0, -1, σ)
noncomputable def spPartDraw (σ : St) (z : Int) : Int × Int × St := if σ.2.1.1 = -1 then (1, 0, σ) else s0 (sDraw σ σ.2.1.1 (inP σ.2.1.2.1 σ.2.1.2.2) z)
noncomputable def spPartClear (σ : St) : Int × Int × St := if σ.2.1.1 = -1 then (1, 0, σ) else s0 (sWipe σ σ.2.1.1 (fun c => if inP σ.2.1.2.1 σ.2.1.2.2 c = true then -1 else σ.1 σ.2.1.1 c) (nP σ))
noncomputable def spHand (σ : St) (b : Int) : Int × Int × St := if b < 0 ∨ 2 < b then (1, 0, σ) else (0, zF (σ.1 b), stH σ b 0 (-1) (-1))
noncomputable def sNext (σ : St) : Int := lst (σ.1 σ.2.2.1) (fun c => decide (σ.2.2.2.2.1 < c))
noncomputable def spNext (σ : St) : Int × Int × St := if σ.2.2.1 = -1 then (1, 0, σ) else if σ.2.2.2.1 = 1 then (0, -9, rf σ) else if sNext σ = -1 then (0, -1, σ) else (0, sNext σ, stH σ σ.2.2.1 σ.2.2.2.1 (sNext σ) (sNext σ))
noncomputable def spRenote (σ : St) (x : Int) : Int × Int × St := if x < 0 ∨ 99 < x then (1, 0, σ) else if σ.2.2.1 = -1 then (2, 0, σ) else if σ.2.2.2.1 = 1 ∨ σ.2.2.2.2.2.1 = -1 then (0, -9, rf σ) else (0, σ.1 σ.2.2.1 σ.2.2.2.2.2.1, stN σ σ.2.2.1 (up (σ.1 σ.2.2.1) σ.2.2.2.2.2.1 x))
noncomputable def spTakeOut (σ : St) : Int × Int × St := if σ.2.2.1 = -1 then (1, 0, σ) else if σ.2.2.2.1 = 1 ∨ σ.2.2.2.2.2.1 = -1 then (0, -9, rf σ) else (0, zF (up (σ.1 σ.2.2.1) σ.2.2.2.2.2.1 (-1)), stH (stM σ σ.2.2.1 (up (σ.1 σ.2.2.1) σ.2.2.2.2.2.1 (-1))) σ.2.2.1 0 σ.2.2.2.2.1 (-1))
/-! contracts over the class's state -/
def FrC (h h1 : dm_H) : Prop := h1.length = h.length ∧ ∀ j : Nat, 26 ≤ j → h1[j]? = h[j]?
theorem FrC_rf {h : dm_H} : FrC h h := ⟨rfl, fun _ _ => rfl⟩
theorem FrC_tr {h h1 h2 : dm_H} (a : FrC h h1) (c : FrC h1 h2) : FrC h h2 := ⟨c.1.trans a.1, fun j x => (c.2 j x).trans (a.2 j x)⟩
theorem FrC_B {b : Nat} {h h1 : dm_H} (a : FrB b h h1) (hb : isBk b) : FrC h h1 := ⟨a.1, fun j x => by
  rcases hb with rfl | rfl | rfl <;> exact a.2 j (by omega) (by omega) (by omega)⟩
theorem FrC_I {i : Nat} {h h1 : dm_H} (a : FrI i h h1) (hi : i < 26) : FrC h h1 := ⟨a.1, fun j x => a.2 j (by omega)⟩
def QPX (h : dm_H) (R : Option Value → Prop) (X : String) (C : Prop) : dm_Rs := fun r h' => h' = h ∧ match r with
  | .inl v => R v
  | .inr e => e = X ∧ C
def QC (kc km : Int) (h : dm_H) (B a : Int) (σ : St) : dm_Rs := fun r h' => Inv kc km h' ∧ FrC h h' ∧ CSt B σ h' ∧ r = .inl (some (dI a))
def QCV (kc km : Int) (h : dm_H) (B : Int) (σ : St) : dm_Rs := fun r h' => Inv kc km h' ∧ FrC h h' ∧ CSt B σ h' ∧ r = .inl none
def QX (kc km : Int) (h : dm_H) (B : Int) (X1 X2 : String) (q : Int × Int × St) : dm_Rs := fun r h' => Inv kc km h' ∧ FrC h h' ∧ CSt B q.2.2 h' ∧ ((q.1 = 0 ∧ r = .inl (some (dI q.2.1))) ∨ (q.1 = 1 ∧ r = .inr X1) ∨ (q.1 = 2 ∧ r = .inr X2))
section QCR
variable {E : dm_Ex} {P : dm_Po} {l : Launch} {z d MC MS pc ce sl : Nat} {ls : List (Option Value)} {st : List Value} {h h' : dm_H} {kc km B B' a : Int} {σ : St} {X1 X2 : String} {q : Int × Int × St}
theorem QX_ok (hI : Inv kc km h') (hF : FrC h h') (hS : CSt B σ h') (hB : B ≤ B') (e : q = (0, a, σ)) : QX kc km h B' X1 X2 q (.inl (some (dI a))) h' := by
  subst e; exact ⟨hI, hF, CSt_up hS hB, Or.inl ⟨rfl, rfl⟩⟩
theorem QX_1 (hI : Inv kc km h') (hF : FrC h h') (hS : CSt B σ h') (hB : B ≤ B') (e : q = (1, a, σ)) : QX kc km h B' X1 X2 q (.inr X1) h' := by
  subst e; exact ⟨hI, hF, CSt_up hS hB, Or.inr (Or.inl ⟨rfl, rfl⟩)⟩
theorem QX_2 (hI : Inv kc km h') (hF : FrC h h') (hS : CSt B σ h') (hB : B ≤ B') (e : q = (2, a, σ)) : QX kc km h B' X1 X2 q (.inr X2) h' := by
  subst e; exact ⟨hI, hF, CSt_up hS hB, Or.inr (Or.inr ⟨rfl, rfl⟩)⟩
theorem kQC (kk : ∀ h1 : dm_H, Inv kc km h1 → FrC h h1 → CSt B σ h1 → dm_W E P l z d MC MS pc ls (dI a :: st) h1 ce sl) : ∀ (v : Option Value) (h1 : dm_H), QC kc km h B a σ (.inl v) h1 → dm_W E P l z d MC MS pc ls (v.toList ++ st) h1 ce sl := by
  rintro v h1 ⟨x, y, z, e⟩
  cases e
  exact kk h1 x y z
theorem kQCV (kk : ∀ h1 : dm_H, Inv kc km h1 → FrC h h1 → CSt B σ h1 → dm_W E P l z d MC MS pc ls st h1 ce sl) : ∀ (v : Option Value) (h1 : dm_H), QCV kc km h B σ (.inl v) h1 → dm_W E P l z d MC MS pc ls (v.toList ++ st) h1 ce sl := by
  rintro v h1 ⟨x, y, z, e⟩
  cases e
  exact kk h1 x y z
theorem kQCN : ∀ (Y : String) (h1 : dm_H), QC kc km h B a σ (.inr Y) h1 → dm_T9 E P l z d MC MS Y pc ls h1 ce sl := fun _ _ q => by cases q.2.2.2
theorem kQCVN : ∀ (Y : String) (h1 : dm_H), QCV kc km h B σ (.inr Y) h1 → dm_T9 E P l z d MC MS Y pc ls h1 ce sl := fun _ _ q => by cases q.2.2.2
theorem kPXV {C R : Prop} {X : String} (kk : R → dm_W E P l z d MC MS pc ls st h ce sl) : ∀ (v : Option Value) (h1 : dm_H), QPX h (fun v => v = none ∧ R) X C (.inl v) h1 → dm_W E P l z d MC MS pc ls (v.toList ++ st) h1 ce sl := by
  rintro v h1 ⟨rfl, rfl, r⟩
  exact kk r
theorem kPXI {C : Prop} {R : Int → Prop} {X : String} (kk : ∀ x : Int, R x → dm_W E P l z d MC MS pc ls (dI x :: st) h ce sl) : ∀ (v : Option Value) (h1 : dm_H), QPX h (fun v => ∃ x : Int, v = some (dI x) ∧ R x) X C (.inl v) h1 → dm_W E P l z d MC MS pc ls (v.toList ++ st) h1 ce sl := by
  rintro v h1 ⟨rfl, x, rfl, r⟩
  exact kk x r
theorem kPXR {C : Prop} {R : Nat → Prop} {X : String} (kk : ∀ x : Nat, R x → dm_W E P l z d MC MS pc ls (.ref x :: st) h ce sl) : ∀ (v : Option Value) (h1 : dm_H), QPX h (fun v => ∃ x : Nat, v = some (.ref x) ∧ R x) X C (.inl v) h1 → dm_W E P l z d MC MS pc ls (v.toList ++ st) h1 ce sl := by
  rintro v h1 ⟨rfl, x, rfl, r⟩
  exact kk x r
end QCR
/-! the books' steps over the state -/
section CB
variable {l : Launch} {kc km B : Int} {h : dm_H} {σ : St} {k : Int} {b : Nat} {s m : Int} {u w : List Value}
theorem Rep_nt {f g F : Int → Int} {s : Int} {w w' : List Value} {r x : Int} (hR : Rep f (cv w) s F) (h0 : 0 ≤ r) (h1 : r < s) (x0 : 0 ≤ x) (x1 : x ≤ 99) (hs : stt w w' r x) : Rep f (cv w') s (up F (f r) x) :=
  Rep_cg (Rep_note hR h0 h1 x0 x1) (fun _ _ _ => rfl) (fun j j0 _ => hs j j0)
theorem c_swap (hl : l.stackTraces = false) (hI : Inv kc km h) (hS : CSt B σ h) (k0 : 0 ≤ k) (k1 : k ≤ 2) (kb : (b : Int) = 17 + 3 * k) (hb : isBk b) (hc : CA b s m u w h) (hR : Rep (cv u) (cv w) s (σ.1 k)) {r c x : Int} (r0 : 0 ≤ r) (r1 : r < s) (e : cv u r = c) (x0 : 0 ≤ x) (x1 : x ≤ 99) : dm_M l 10 0 0 0 [.ref b, dI r, dI x] h (QC kc km h B (σ.1 k c) (stN σ k (up (σ.1 k) c x))) := by
  have hs8 := hc.2.2.2.2.2.2.1
  refine dm_M_imp (f_X0_swapNote l hl hI hb hc (a1 := r) (by omega) (by omega) (a2 := x) (by omega) (by omega)) (fun q h' hq => ?_)
  obtain ⟨a1, a2, a3⟩ := hq
  cases q with
  | inr e9 => exact a3.elim
  | inl v =>
    obtain ⟨s', m', u', w', a4, a5, a6, a7, a8⟩ := a3
    subst a5; subst a6; subst a7
    rcases a8 with ⟨-, -, a9, a10⟩ | ⟨a9, -⟩
    · have hy := Rep_yes hR r0 r1 e
      refine ⟨a1, FrC_B a2 hb, ?_, by rw [a10, hy.1]⟩
      have := Rep_nt (g := cv w) hR r0 r1 x0 x1 a9
      rw [e] at this
      exact CSt_N hS k0 k1 kb hc a2 a4 this
    · omega
theorem c_swap_no (hl : l.stackTraces = false) (hI : Inv kc km h) (hS : CSt B σ h) (k0 : 0 ≤ k) (k1 : k ≤ 2) (kb : (b : Int) = 17 + 3 * k) (hb : isBk b) (hc : CA b s m u w h) (hR : Rep (cv u) (cv w) s (σ.1 k)) {x : Int} (x0 : 0 ≤ x) (x1 : x ≤ 99) : dm_M l 10 0 0 0 [.ref b, dI (-1), dI x] h (QC kc km h B (-1) σ) := by
  refine dm_M_imp (f_X0_swapNote l hl hI hb hc (a1 := -1) (by omega) (by omega) (a2 := x) (by omega) (by omega)) (fun q h' hq => ?_)
  obtain ⟨a1, a2, a3⟩ := hq
  cases q with
  | inr e9 => exact a3.elim
  | inl v =>
    obtain ⟨s', m', u', w', a4, a5, a6, a7, a8⟩ := a3
    subst a5; subst a6; subst a7
    rcases a8 with ⟨a9, -⟩ | ⟨-, a9, a10⟩
    · omega
    · subst a9
      have e1 := CSt_N hS k0 k1 kb hc a2 a4 hR
      have e2 : stN σ k (σ.1 k) = σ := by
        unfold stN
        have : (fun i => if i = k then σ.1 k else σ.1 i) = σ.1 := funext fun i => by
          by_cases q : i = k
          · rw [if_pos q, q]
          · rw [if_neg q]
        rw [this]
      rw [e2] at e1
      exact ⟨a1, FrC_B a2 hb, e1, by rw [a10]⟩
theorem c_ins (hl : l.stackTraces = false) (hI : Inv kc km h) (hS : CSt B σ h) (hB : B ≤ 100000) (k0 : 0 ≤ k) (k1 : k ≤ 2) (kb : (b : Int) = 17 + 3 * k) (hb : isBk b) (hc : CA b s m u w h) (hR : Rep (cv u) (cv w) s (σ.1 k)) (hT : Srt (cv u) s) (hm : m ≤ B) {c x : Int} (hs : s ≤ 7) (hF : σ.1 k c = -1) (c0 : 0 ≤ c) (c1 : c ≤ 9999) (c2 : c % 100 ≤ c / 100) (x0 : 0 ≤ x) (x1 : x ≤ 99) : dm_M l 11 1 0 0 [.ref b, dI c, dI x] h (QCV kc km h (B + 1) (stM σ k (up (σ.1 k) c x))) := by
  refine dm_M_imp (f_X0_insert l hl hI hb hc (a1 := c) (by omega) (by omega) (a2 := x) (by omega) (by omega) c2 hs (by omega)) (fun q h' hq => ?_)
  obtain ⟨a1, a2, a3⟩ := hq
  cases q with
  | inr e9 => exact a3.elim
  | inl v =>
    obtain ⟨s', m', u', w', a4, r, a5, a6, a7, a8, a9, a10⟩ := a3
    subst a6; subst a7
    refine ⟨a1, FrC_B a2 hb, ?_, by rw [a10]⟩
    refine CSt_M hS (by omega) k0 k1 kb hc a2 a4 (by omega) (by omega) (Rep_cg (Rep_ins hR a5.1 a5.2.1 hF c0 c1 x0 x1) a8 a9) (Srt_cg (Srt_ins hT hR a5 hF) a8)
theorem c_rem (hl : l.stackTraces = false) (hI : Inv kc km h) (hS : CSt B σ h) (hB : B ≤ 100000) (k0 : 0 ≤ k) (k1 : k ≤ 2) (kb : (b : Int) = 17 + 3 * k) (hb : isBk b) (hc : CA b s m u w h) (hR : Rep (cv u) (cv w) s (σ.1 k)) (hT : Srt (cv u) s) (hm : m ≤ B) {r c : Int} (r0 : 0 ≤ r) (r1 : r < s) (e : cv u r = c) : dm_M l 12 0 0 0 [.ref b, dI r] h (QCV kc km h (B + 1) (stM σ k (up (σ.1 k) c (-1)))) := by
  have hs8 := hc.2.2.2.2.2.2.1
  refine dm_M_imp (f_X0_removeAt l hl hI hb hc (a1 := r) (by omega) (by omega) (by omega)) (fun q h' hq => ?_)
  obtain ⟨a1, a2, a3⟩ := hq
  cases q with
  | inr e9 => exact a3.elim
  | inl v =>
    obtain ⟨s', m', u', w', a4, a5, a10⟩ := a3
    rcases a5 with ⟨-, -, a6, a7, a8, a9⟩ | ⟨a6, -⟩
    · subst a6; subst a7
      refine ⟨a1, FrC_B a2 hb, ?_, by rw [a10]⟩
      have hd := Rep_del hR r0 r1
      rw [e] at hd
      exact CSt_M hS (by omega) k0 k1 kb hc a2 a4 (by omega) (by omega) (Rep_cg hd a8 a9) (Srt_cg (Srt_del hT r0 r1) a8)
    · omega
theorem c_rem_no (hl : l.stackTraces = false) (hI : Inv kc km h) (hS : CSt B σ h) (hB : B ≤ 100000) (k0 : 0 ≤ k) (k1 : k ≤ 2) (kb : (b : Int) = 17 + 3 * k) (hb : isBk b) (hc : CA b s m u w h) (hR : Rep (cv u) (cv w) s (σ.1 k)) (hm : m ≤ B) : dm_M l 12 0 0 0 [.ref b, dI (-1)] h (QCV kc km h B σ) := by
  refine dm_M_imp (f_X0_removeAt l hl hI hb hc (a1 := -1) (by omega) (by omega) (by omega)) (fun q h' hq => ?_)
  obtain ⟨a1, a2, a3⟩ := hq
  cases q with
  | inr e9 => exact a3.elim
  | inl v =>
    obtain ⟨s', m', u', w', a4, a5, a10⟩ := a3
    rcases a5 with ⟨a6, -⟩ | ⟨-, a6, a7, a8, a9⟩
    · omega
    · subst a6; subst a7; subst a8; subst a9
      have e1 := CSt_N hS k0 k1 kb hc a2 a4 hR
      have e2 : stN σ k (σ.1 k) = σ := by
        unfold stN
        have : (fun i => if i = k then σ.1 k else σ.1 i) = σ.1 := funext fun i => by
          by_cases q : i = k
          · rw [if_pos q, q]
          · rw [if_neg q]
        rw [this]
      rw [e2] at e1
      exact ⟨a1, FrC_B a2 hb, e1, by rw [a10]⟩
theorem c_cpy {k2 : Int} {b2 : Nat} {s2 m2 : Int} {u2 w2 : List Value} (hl : l.stackTraces = false) (hI : Inv kc km h) (hS : CSt B σ h) (hB : B ≤ 100000) (k0 : 0 ≤ k) (k1 : k ≤ 2) (kb : (b : Int) = 17 + 3 * k) (hb : isBk b) (hc : CA b s m u w h) (hm : m ≤ B) (kb2 : (b2 : Int) = 17 + 3 * k2) (hb2 : isBk b2) (hc2 : CA b2 s2 m2 u2 w2 h) (hR2 : Rep (cv u2) (cv w2) s2 (σ.1 k2)) (hT2 : Srt (cv u2) s2) : dm_M l 14 0 0 0 [.ref b, .ref b2] h (QCV kc km h (B + 1) (stM σ k (σ.1 k2))) := by
  by_cases hbb : b = b2
  · subst hbb
    have ek : k2 = k := by omega
    subst ek
    obtain ⟨e1, e2, e3, e4⟩ := CA_uq hc hc2
    subst e1; subst e2; subst e3; subst e4
    refine dm_M_imp (f_X0_becomeAs_s l hl hI hb hc (by omega)) (fun q h' hq => ?_)
    obtain ⟨a1, a2, a3⟩ := hq
    cases q with
    | inr e9 => exact a3.elim
    | inl v =>
      obtain ⟨s', m', u', w', a4, a5, a6, a7, a8, a9⟩ := a3
      subst a5; subst a6
      exact ⟨a1, FrC_B a2 hb, CSt_M hS (by omega) k0 k1 kb hc a2 a4 (by omega) (by omega) (Rep_cg hR2 a7 a8) (Srt_cg hT2 a7), by rw [a9]⟩
  · refine dm_M_imp (f_X0_becomeAs l hl hI hb hc hb2 hc2 hbb (by omega)) (fun q h' hq => ?_)
    obtain ⟨a1, a2, a3⟩ := hq
    cases q with
    | inr e9 => exact a3.elim
    | inl v =>
      obtain ⟨s', m', u', w', a4, a5, a6, a7, a8, a9⟩ := a3
      subst a5; subst a6
      exact ⟨a1, FrC_B a2 hb, CSt_M hS (by omega) k0 k1 kb hc a2 a4 (by omega) (by omega) (Rep_cg hR2 a7 a8) (Srt_cg hT2 a7), by rw [a9]⟩
end CB
