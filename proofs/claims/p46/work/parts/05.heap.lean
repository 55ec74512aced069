/-! ===== the step over the heap: fields, arrays, new ===== -/
section DMF
variable {E : dm_Ex} {P : dm_Po} {l : Launch} {z d MC MS pc ce sl : Nat} {ls : List (Option Value)} {st : List Value} {h : dm_H}
theorem dm_vwlt {ci : Nat} {q : vw_C} (h : vwCl[ci]? = some q) : ci < 11 := (List.getElem?_eq_some_iff.mp h).1
/-- the thing at a place, an object -/
theorem dm_obj {g : Nat → Nat} {tys : List (ClassId × FieldType)} {L : List Nat} {h : dm_H} {ws : va_W} (hh : dm_h g tys L h ws) {i ci : Nat} {vs : List Value} (hi : h[i]? = some (ci, vs)) (hc : ci < 20) :
    ∃ a fs, L[i]? = some a ∧ ws[i]? = some (a, .inr (ci, fs)) ∧ fs.length = vs.length ∧ ∀ (j : Nat) (v : Value), vs[j]? = some v → ∃ x, fs[j]? = some x ∧ dm_v g L v x := by
  obtain ⟨a, c, h1, h2, h3⟩ := hh.2.2 i _ hi
  rcases c with ⟨c, n, X⟩ | ⟨ci', fs⟩
  · obtain ⟨-, -, h3⟩ := h3
    rcases h3 with ⟨a1, -⟩ | ⟨a1, -⟩ | ⟨a1, -⟩ | ⟨a1, -⟩ <;> (have a1 : ci = _ := a1; omega)
  · obtain ⟨h4, -, h5, h6⟩ := h3
    have h4 : ci = ci' := h4
    subst h4
    exact ⟨a, fs, h1, h2, h5, h6⟩
theorem dm_arrI {g : Nat → Nat} {tys : List (ClassId × FieldType)} {L : List Nat} {h : dm_H} {ws : va_W} (hh : dm_h g tys L h ws) {i : Nat} {vs : List Value} (hi : h[i]? = some (20, vs)) :
    ∃ a c f, L[i]? = some a ∧ ws[i]? = some (a, .inl (c, vs.length, .inl f)) ∧ vs.length < 2 ^ 31 ∧ (c, FieldType.int) ∈ tys ∧ ∀ (j : Nat) (v : Value), vs[j]? = some v → v = .int (f j) := by
  obtain ⟨a, c, h1, h2, h3⟩ := hh.2.2 i _ hi
  rcases c with ⟨c, n, X⟩ | ⟨ci', fs⟩
  · obtain ⟨b1, b2, h3⟩ := h3
    rcases h3 with ⟨a1, a2, f, a3, a4⟩ | ⟨a1, -⟩ | ⟨a1, -⟩ | ⟨a1, -⟩
    · have b1 : n = vs.length := b1
      subst b1; subst a3
      exact ⟨a, c, f, h1, h2, b2, a2, a4⟩
    all_goals (have a1 : 20 = _ := a1; omega)
  · obtain ⟨h4, h5, -⟩ := h3
    have h4 : 20 = ci' := h4
    omega
theorem dm_arrB {g : Nat → Nat} {tys : List (ClassId × FieldType)} {L : List Nat} {h : dm_H} {ws : va_W} (hh : dm_h g tys L h ws) {i : Nat} {vs : List Value} (hi : h[i]? = some (21, vs)) :
    ∃ a c f, L[i]? = some a ∧ ws[i]? = some (a, .inl (c, vs.length, .inl f)) ∧ vs.length < 2 ^ 31 ∧ (c, FieldType.byte) ∈ tys ∧ ∀ (j : Nat) (v : Value), vs[j]? = some v → v = .int (f j) ∧ fits .byte (.int (f j)) = true := by
  obtain ⟨a, c, h1, h2, h3⟩ := hh.2.2 i _ hi
  rcases c with ⟨c, n, X⟩ | ⟨ci', fs⟩
  · obtain ⟨b1, b2, h3⟩ := h3
    rcases h3 with ⟨a1, -⟩ | ⟨a1, a2, f, a3, a4⟩ | ⟨a1, -⟩ | ⟨a1, -⟩
    · have a1 : 21 = _ := a1
      omega
    · have b1 : n = vs.length := b1
      subst b1; subst a3
      exact ⟨a, c, f, h1, h2, b2, a2, a4⟩
    all_goals (have a1 : 21 = _ := a1; omega)
  · obtain ⟨h4, h5, -⟩ := h3
    have h4 : 21 = ci' := h4
    omega
theorem dm_arrR {g : Nat → Nat} {tys : List (ClassId × FieldType)} {L : List Nat} {h : dm_H} {ws : va_W} (hh : dm_h g tys L h ws) {i k : Nat} {vs : List Value} (hi : h[i]? = some (k, vs)) (hk : k = 22 ∨ k = 23) :
    ∃ a c f, L[i]? = some a ∧ ws[i]? = some (a, .inl (c, vs.length, .inr (.inr (.inr (.inr f))))) ∧ vs.length < 2 ^ 31 ∧ (c, if k = 22 then FieldType.object "Earlyends$Book" else FieldType.array .int) ∈ tys ∧ ∀ (j : Nat) (v : Value), vs[j]? = some v → dm_v g L v (va_rf (f j)) := by
  obtain ⟨a, c, h1, h2, h3⟩ := hh.2.2 i _ hi
  rcases c with ⟨c, n, X⟩ | ⟨ci', fs⟩
  · obtain ⟨b1, b2, h3⟩ := h3
    have b1 : n = vs.length := b1
    rcases h3 with ⟨a1, -⟩ | ⟨a1, -⟩ | ⟨a1, a2, f, a3, a4⟩ | ⟨a1, a2, f, a3, a4⟩
    · have a1 : k = 20 := a1
      omega
    · have a1 : k = 21 := a1
      omega
    · have a1 : k = 22 := a1
      subst b1; subst a3; subst a1
      exact ⟨a, c, f, h1, h2, b2, a2, a4⟩
    · have a1 : k = 23 := a1
      subst b1; subst a3; subst a1
      exact ⟨a, c, f, h1, h2, b2, a2, a4⟩
  · obtain ⟨h4, h5, -⟩ := h3
    have h4 : k = ci' := h4
    omega
/-- a field read -/
theorem dr_getf {idx ci k md t i : Nat} {vs : List Value} {v : Value} (hi : dm_at z pc = some (.getfield idx, 3, [ci, k, md, t])) (hh : h[i]? = some (ci, vs)) (hv : vs[k]? = some v) (kk : dm_W E P l z d MC MS (pc + 3) ls (v :: st) h ce sl) : dm_W E P l z d MC MS pc ls (.ref i :: st) h ce sl := by
  intro p e s m args below meth c D g tys L0 L ws A H locs lsC stC hK hw hls hst
  obtain ⟨hok, hst9, hx, hb, hr, hml, hown, hts, hS9, hlk, htb, hnm, hA, hE⟩ := id hK
  obtain ⟨hle, hKK, hP, hD, hS, hh0⟩ := id hw
  obtain ⟨hd, hR⟩ := dm_ok_at hok hi
  obtain ⟨y9, sc, rfl, ⟨a, ha, rfl⟩, hs1⟩ := dm_st_cons hst
  have hR : dm_okF (dm_m z).1.cls idx ci k md t = true := hR
  unfold dm_okF at hR
  split at hR
  · rename_i q hq
    simp only [Bool.and_eq_true, decide_eq_true_eq] at hR
    obtain ⟨hk, hR⟩ := hR
    obtain ⟨a', fs, h1, h2, h3, h4⟩ := dm_obj hh0 hh (Nat.lt_of_lt_of_le (dm_vwlt hq) (by decide))
    cases ha.symm.trans h1
    obtain ⟨x, h5, h6⟩ := h4 k v hv
    split at hR
    · exact va_get (C := q.1) (T := q.2.1) (N := q.2.2) hx hb hts (dm_clw ci q hq) hown hKK hP i h2 hq k hk (hts _ (dm_g_mem hR)) (fun _ e => e) h5 hd (kk _ _ _ _ _ _ _ _ _ _ _ _ _ _ _ _ _ _ _ hK hw hls ⟨h6, hs1⟩)
    · unfold dm_okN at hR
      split at hR
      · rename_i o i9 r n d9 host hT
        simp only [decide_eq_true_eq] at hR
        obtain ⟨rfl, rfl, rfl, rfl, rfl⟩ := hR
        have hN := hS9.1 _ (List.mem_filter.mpr ⟨dm_T_mem hT, rfl⟩)
        exact va_getN (C := q.1) (T := q.2.1) (N := q.2.2) hx hb hts (dm_clw ci q hq) hown hKK hP i h2 hq k hk (va_Nw.use rfl hN) (fun _ e => e) h5 hd (kk _ _ _ _ _ _ _ _ _ _ _ _ _ _ _ _ _ _ _ hK hw hls ⟨h6, hs1⟩)
      · cases hR
  · cases hR
/-- what may be stored in a field -/
def dm_fit (ty : FieldType) (v : Value) : Bool := match ty, v with
  | .int, .int _ => true
  | .long, .long _ => true
  | .boolean, .int x => decide (x = 0 ∨ x = 1)
  | .byte, .int x => decide (x.toInt8.toInt32 = x) && fits .byte (.int x)
  | .object _, .ref _ => true
  | .object _, .float _ => true
  | .array _, .ref _ => true
  | _, _ => false
theorem dm_fit_ok {g : Nat → Nat} {L : List Nat} {ty : FieldType} {v x : Value} (h : dm_fit ty v = true) (hv : dm_v g L v x) : narrow ty x = x ∧ fits ty x = true := by
  cases ty <;> cases v <;> simp only [dm_fit, Bool.false_eq_true, decide_eq_true_eq, Bool.and_eq_true] at h
  · have hv : x = _ := hv
    subst hv
    exact ⟨congrArg Value.int h.1, h.2⟩
  · have hv : x = _ := hv
    subst hv
    exact ⟨rfl, rfl⟩
  · have hv : x = _ := hv
    subst hv
    exact ⟨rfl, rfl⟩
  · have hv : x = _ := hv
    subst hv
    rcases h with rfl | rfl <;> exact ⟨rfl, rfl⟩
  all_goals first
    | (obtain ⟨a, -, rfl⟩ := hv; exact ⟨rfl, rfl⟩)
    | (obtain ⟨a, rfl⟩ := hv; exact ⟨rfl, rfl⟩)
theorem dm_e_put {g : Nat → Nat} {tys : List (ClassId × FieldType)} {L : List Nat} {ci k : Nat} {vs fs : List Value} {v x : Value} (hc : ci < 20) (h3 : fs.length = vs.length) (h4 : ∀ (j : Nat) (v : Value), vs[j]? = some v → ∃ x, fs[j]? = some x ∧ dm_v g L v x) (hv : dm_v g L v x) :
    dm_e g tys L (ci, vs.set k v) (.inr (ci, fs.set k x)) := by
  refine ⟨rfl, hc, by rw [List.length_set]; show fs.length = (vs.set k v).length; rw [List.length_set]; exact h3, fun j u hj => ?_⟩
  have hj : (vs.set k v)[j]? = some u := hj
  rw [List.getElem?_set] at hj
  by_cases e : k = j
  · subst e
    rw [if_pos rfl] at hj
    split at hj
    · rename_i hl
      cases hj
      exact ⟨x, by rw [List.getElem?_set, if_pos rfl, if_pos (by omega)], hv⟩
    · cases hj
  · rw [if_neg e] at hj
    obtain ⟨y, h5, h6⟩ := h4 j u hj
    exact ⟨y, by rw [List.getElem?_set, if_neg e]; exact h5, h6⟩
theorem dr_putf {idx ci k md t i : Nat} {vs : List Value} {v : Value} (hi : dm_at z pc = some (.putfield idx, 3, [ci, k, md, t])) (hh : h[i]? = some (ci, vs)) (hk : k < vs.length) (hf : dm_fit (dm_ty ci k) v = true) (kk : dm_W E P l z d MC MS (pc + 3) ls st (h.set i (ci, vs.set k v)) ce sl) : dm_W E P l z d MC MS pc ls (v :: .ref i :: st) h ce sl := by
  intro p e s m args below meth c D g tys L0 L ws A H locs lsC stC hK hw hls hst
  obtain ⟨hok, hst9, hx, hb, hr, hml, hown, hts, hS9, hlk, htb, hnm, hA, hE⟩ := id hK
  obtain ⟨hle, hKK, hP, hD, hS, hh0⟩ := id hw
  obtain ⟨hd, hR⟩ := dm_ok_at hok hi
  obtain ⟨x, sc, rfl, hv, hs1⟩ := dm_st_cons hst
  obtain ⟨y9, sc, rfl, ⟨a, ha, rfl⟩, hs2⟩ := dm_st_cons hs1
  obtain ⟨hn, hft⟩ := dm_fit_ok hf hv
  have hR : (dm_okF (dm_m z).1.cls idx ci k md t && dm_okP z ci k md) = true := hR
  simp only [Bool.and_eq_true] at hR
  obtain ⟨hR, hR2⟩ := hR
  unfold dm_okF at hR
  split at hR
  · rename_i q hq
    simp only [Bool.and_eq_true, decide_eq_true_eq] at hR
    obtain ⟨hkN, hR⟩ := hR
    have hci : ci < 20 := Nat.lt_of_lt_of_le (dm_vwlt hq) (by decide)
    obtain ⟨a', fs, h1, h2, h3, h4⟩ := dm_obj hh0 hh hci
    cases ha.symm.trans h1
    have hgo : ∀ (H1 : Heap) (locs1 : List Loc), va_P D vwCl (ws.set i (a, .inr (ci, fs.set k x))) H1 → va_D A (ws.set i (a, .inr (ci, fs.set k x))) → va_S A s.heap H1 locs1 →
        W p l e (dm_R d MC MS) s m args below meth c H1 locs1 ce sl (P D g L0 A below args s) (F0 m (pc + 3) lsC sc) := fun H1 locs1 hP1 hD1 hS1 =>
      kk _ _ _ _ _ _ _ _ _ _ _ _ _ _ _ _ _ _ _ hK ⟨hle, hKK, hP1, hD1, hS1, dm_h_set hh0 h1 (dm_e_put hci h3 h4 hv)⟩ hls hs2
    unfold dm_okP at hR2
    rw [hq] at hR2
    dsimp only at hR2
    split at hR
    · split at hR2
      · simp only [decide_eq_true_eq] at hR2
        exact va_putF (C := q.1) (T := q.2.1) (N := q.2.2) hx hb hts (dm_clw ci q hq) (dm_ty ci) (dm_tyk ci q hq) (dm_nmk ci q hq) hown hKK hP hD hS i h2 hq k hkN (hts _ (dm_g_mem hR)) (fun _ e => e) hR2.1 (hnm.trans hR2.2.1) hR2.2.2 (dm_tyk ci q hq k hkN) hn hft (by omega) hd hgo
      · simp only [decide_eq_true_eq] at hR2
        exact va_put (C := q.1) (T := q.2.1) (N := q.2.2) hx hb hts (dm_clw ci q hq) (dm_ty ci) (dm_tyk ci q hq) (dm_nmk ci q hq) hown hKK hP hD hS i h2 hq k hkN (hts _ (dm_g_mem hR)) (fun _ e => e) hR2 (dm_tyk ci q hq k hkN) hn hft (by omega) hd hgo
    · rename_i hmd
      rw [if_neg (fun e => hmd (Or.inr e))] at hR2
      simp only [decide_eq_true_eq] at hR2
      unfold dm_okN at hR
      split at hR
      · rename_i o i9 r n d9 host hT
        simp only [decide_eq_true_eq] at hR
        obtain ⟨rfl, rfl, rfl, rfl, rfl⟩ := hR
        have hN := hS9.1 _ (List.mem_filter.mpr ⟨dm_T_mem hT, rfl⟩)
        exact va_putN (C := q.1) (T := q.2.1) (N := q.2.2) hx hb hts (dm_clw ci q hq) (dm_ty ci) (dm_tyk ci q hq) (dm_nmk ci q hq) hown hKK hP hD hS i h2 hq k hkN (va_Nw.use rfl hN) (fun _ e => e) hR2 (dm_tyk ci q hq k hkN) hn hft (by omega) hd hgo
      · cases hR
  · cases hR
theorem dm_vpin {k n : Nat} (hk : k < n) (hn : n < 2 ^ 31) : vp_in (nI k) n := vp_in_nI hk hn
theorem dm_ltl {vs : List Value} {k : Nat} {v : Value} (h : vs[k]? = some v) : k < vs.length := (List.getElem?_eq_some_iff.mp h).1
/-- int arrays -/
theorem dr_iald {i k : Nat} {vs : List Value} {x j : Int32} (hi : dm_at z pc = some (.iaload, 1, [])) (hh : h[i]? = some (20, vs)) (hj : j = nI k) (hv : vs[k]? = some (.int x)) (kk : dm_W E P l z d MC MS (pc + 1) ls (.int x :: st) h ce sl) : dm_W E P l z d MC MS pc ls (.int j :: .ref i :: st) h ce sl := by
  intro p e s m args below meth c D g tys L0 L ws A H locs lsC stC hK hw hls hst
  obtain ⟨hok, hst9, hx, hb, -⟩ := id hK
  obtain ⟨hle, hKK, hP, hD, hS, hh0⟩ := id hw
  obtain ⟨hd, -⟩ := dm_ok_at hok hi
  obtain ⟨y, sc, rfl, hj2, hs1⟩ := dm_st_cons hst
  have hj2 : y = .int j := hj2
  subst hj2
  obtain ⟨y9, sc, rfl, ⟨a, ha, rfl⟩, hs2⟩ := dm_st_cons hs1
  obtain ⟨a', cA, f, h1, h2, h3, h4, h5⟩ := dm_arrI hh0 hh
  cases ha.symm.trans h1
  obtain ⟨t0, ht⟩ := List.getElem?_of_mem h4
  have hlt := dm_ltl hv
  have e1 : (nI k).toNatClampNeg = k := nI_clamp (by omega)
  subst hj
  have e2 : x = f k := by cases h5 k _ hv; rfl
  subst e2
  refine va_iald hx hb hKK hP i t0 h2 ht (dm_vpin hlt h3) hd ?_
  rw [e1]
  exact kk _ _ _ _ _ _ _ _ _ _ _ _ _ _ _ _ _ _ _ hK hw hls ⟨rfl, hs2⟩
theorem dm_e_ast {g : Nat → Nat} {tys : List (ClassId × FieldType)} {L : List Nat} {k : Nat} {vs : List Value} {x : Int32} {c : ClassId} {f : Nat → Int32} (hn : vs.length < 2 ^ 31) (ht : (c, FieldType.int) ∈ tys) (hv : ∀ (j : Nat) (v : Value), vs[j]? = some v → v = .int (f j)) :
    dm_e g tys L (20, vs.set k (.int x)) (.inl (c, vs.length, .inl (upd f k x))) := by
  refine ⟨by show vs.length = (vs.set k _).length; rw [List.length_set], hn, Or.inl ⟨rfl, ht, _, rfl, fun j u hj => ?_⟩⟩
  have hj : (vs.set k (.int x))[j]? = some u := hj
  rw [List.getElem?_set] at hj
  by_cases e : k = j
  · subst e
    rw [if_pos rfl] at hj
    split at hj
    · cases hj
      rw [upd, if_pos rfl]
    · cases hj
  · rw [if_neg e] at hj
    rw [hv j u hj, upd, if_neg (fun q => e q.symm)]
theorem dr_iast {i k : Nat} {vs : List Value} {x j : Int32} (hi : dm_at z pc = some (.iastore, 1, [])) (hh : h[i]? = some (20, vs)) (hj : j = nI k) (hk : k < vs.length) (kk : dm_W E P l z d MC MS (pc + 1) ls st (h.set i (20, vs.set k (.int x))) ce sl) : dm_W E P l z d MC MS pc ls (.int x :: .int j :: .ref i :: st) h ce sl := by
  intro p e s m args below meth c D g tys L0 L ws A H locs lsC stC hK hw hls hst
  obtain ⟨hok, hst9, hx, hb, -⟩ := id hK
  obtain ⟨hle, hKK, hP, hD, hS, hh0⟩ := id hw
  obtain ⟨hd, -⟩ := dm_ok_at hok hi
  obtain ⟨y, sc, rfl, hx2, hs1⟩ := dm_st_cons hst
  have hx2 : y = .int x := hx2
  subst hx2
  obtain ⟨y, sc, rfl, hj2, hs2⟩ := dm_st_cons hs1
  have hj2 : y = .int j := hj2
  subst hj2
  obtain ⟨y9, sc, rfl, ⟨a, ha, rfl⟩, hs3⟩ := dm_st_cons hs2
  obtain ⟨a', cA, f, h1, h2, h3, h4, h5⟩ := dm_arrI hh0 hh
  cases ha.symm.trans h1
  obtain ⟨t0, ht⟩ := List.getElem?_of_mem h4
  have e1 : (nI k).toNatClampNeg = k := nI_clamp (by omega)
  subst hj
  refine va_iast hx hb hKK hP hD hS i t0 h2 ht (dm_vpin hk h3) hd (fun H1 locs1 hP1 hD1 hS1 => ?_)
  rw [e1] at hP1 hD1
  exact kk _ _ _ _ _ _ _ _ _ _ _ _ _ _ _ _ _ _ _ hK ⟨hle, hKK, hP1, hD1, hS1, dm_h_set hh0 h1 (dm_e_ast h3 h4 h5)⟩ hls hs3
/-- the length of any array -/
theorem dr_alen {i k : Nat} {vs : List Value} {n : Int32} (hi : dm_at z pc = some (.arraylength, 1, [])) (hh : h[i]? = some (k, vs)) (hk : k = 20 ∨ k = 21 ∨ k = 22 ∨ k = 23) (hn : nI vs.length = n) (kk : dm_W E P l z d MC MS (pc + 1) ls (.int n :: st) h ce sl) : dm_W E P l z d MC MS pc ls (.ref i :: st) h ce sl := by
  intro p e s m args below meth c D g tys L0 L ws A H locs lsC stC hK hw hls hst
  obtain ⟨hok, hst9, hx, hb, -⟩ := id hK
  obtain ⟨hle, hKK, hP, hD, hS, hh0⟩ := id hw
  obtain ⟨hd, -⟩ := dm_ok_at hok hi
  obtain ⟨y9, sc, rfl, ⟨a, ha, rfl⟩, hs2⟩ := dm_st_cons hst
  have hh1 : ∃ (cA : ClassId) (X : vp_A) (ty : FieldType), ws[i]? = some (a, .inl (cA, X)) ∧ X.1 = vs.length ∧ (cA, ty) ∈ tys := by
    rcases hk with rfl | rfl | hk
    · obtain ⟨a', cA, f, h1, h2, h3, h4, h5⟩ := dm_arrI hh0 hh
      cases ha.symm.trans h1
      exact ⟨cA, _, _, h2, rfl, h4⟩
    · obtain ⟨a', cA, f, h1, h2, h3, h4, h5⟩ := dm_arrB hh0 hh
      cases ha.symm.trans h1
      exact ⟨cA, _, _, h2, rfl, h4⟩
    · obtain ⟨a', cA, f, h1, h2, h3, h4, h5⟩ := dm_arrR hh0 hh hk
      cases ha.symm.trans h1
      exact ⟨cA, _, _, h2, rfl, h4⟩
  obtain ⟨cA, X, ty, h2, h3, h4⟩ := hh1
  obtain ⟨t0, ht⟩ := List.getElem?_of_mem h4
  exact va_alen hx hb hKK hP i t0 h2 ht (by rw [h3]; exact hn) hd (kk _ _ _ _ _ _ _ _ _ _ _ _ _ _ _ _ _ _ _ hK hw hls ⟨rfl, hs2⟩)
/-- arrays of references -/
theorem dr_aald {i k kd : Nat} {vs : List Value} {v : Value} {j : Int32} (hi : dm_at z pc = some (.aaload, 1, [])) (hh : h[i]? = some (kd, vs)) (hkd : kd = 22 ∨ kd = 23) (hj : j = nI k) (hv : vs[k]? = some v) (kk : dm_W E P l z d MC MS (pc + 1) ls (v :: st) h ce sl) : dm_W E P l z d MC MS pc ls (.int j :: .ref i :: st) h ce sl := by
  intro p e s m args below meth c D g tys L0 L ws A H locs lsC stC hK hw hls hst
  obtain ⟨hok, hst9, hx, hb, -⟩ := id hK
  obtain ⟨hle, hKK, hP, hD, hS, hh0⟩ := id hw
  obtain ⟨hd, -⟩ := dm_ok_at hok hi
  obtain ⟨y, sc, rfl, hj2, hs1⟩ := dm_st_cons hst
  have hj2 : y = .int j := hj2
  subst hj2
  obtain ⟨y9, sc, rfl, ⟨a, ha, rfl⟩, hs2⟩ := dm_st_cons hs1
  obtain ⟨a', cA, f, h1, h2, h3, h4, h5⟩ := dm_arrR hh0 hh hkd
  cases ha.symm.trans h1
  obtain ⟨t0, ht⟩ := List.getElem?_of_mem h4
  have hlt := dm_ltl hv
  have e1 : (nI k).toNatClampNeg = k := nI_clamp (by omega)
  subst hj
  refine W.aald (v := va_rf (f k)) (ty := if kd = 22 then FieldType.object "Earlyends$Book" else FieldType.array .int) hx hb (hP i _ h2) ((hKK.2 t0 _ ht).1 _ (fun j => va_rf (f j))) (by split <;> rfl) (fun q => by cases q)
    (by show ¬ (_ ∨ (arrV _ _ _).slots.size ≤ _); rw [arrV_size]; exact dm_vpin hlt h3) (by show (arrV _ _ _).slots[_]? = _; rw [e1, arrV_read _ _ hlt]) rfl rfl hd ?_
  exact kk _ _ _ _ _ _ _ _ _ _ _ _ _ _ _ _ _ _ _ hK hw hls ⟨h5 k v hv, hs2⟩
theorem dr_aast {i k i2 : Nat} {vs us : List Value} {j : Int32} (hi : dm_at z pc = some (.aastore, 1, [])) (hh : h[i]? = some (22, vs)) (hh2 : h[i2]? = some (2, us)) (hj : j = nI k) (hk : k < vs.length) (kk : dm_W E P l z d MC MS (pc + 1) ls st (h.set i (22, vs.set k (.ref i2))) ce sl) : dm_W E P l z d MC MS pc ls (.ref i2 :: .int j :: .ref i :: st) h ce sl := by
  intro p e s m args below meth c D g tys L0 L ws A H locs lsC stC hK hw hls hst
  obtain ⟨hok, hst9, hx, hb, -⟩ := id hK
  obtain ⟨hle, hKK, hP, hD, hS, hh0⟩ := id hw
  obtain ⟨hd, -⟩ := dm_ok_at hok hi
  obtain ⟨y, sc, rfl, ⟨b, hb2, rfl⟩, hs1⟩ := dm_st_cons hst
  obtain ⟨y, sc, rfl, hj2, hs2⟩ := dm_st_cons hs1
  have hj2 : y = .int j := hj2
  subst hj2
  obtain ⟨y9, sc, rfl, ⟨a, ha, rfl⟩, hs3⟩ := dm_st_cons hs2
  obtain ⟨a', cA, f, h1, h2, h3, h4, h5⟩ := dm_arrR hh0 hh (Or.inl rfl)
  cases ha.symm.trans h1
  obtain ⟨b', fs, g1, g2, g3, g4⟩ := dm_obj hh0 hh2 (by decide)
  cases hb2.symm.trans g1
  rw [if_pos rfl] at h4
  obtain ⟨t0, ht⟩ := List.getElem?_of_mem h4
  have e1 : (nI k).toNatClampNeg = k := nI_clamp (by omega)
  subst hj
  refine va_astq (r := (RX0, TX0, 4)) hx hb hKK hP hD hS i t0 i2 2 h2 ht g2 rfl (dm_vpin hk h3) hd (fun H1 locs1 hP1 hD1 hS1 => ?_)
  rw [e1] at hP1 hD1
  refine kk _ _ _ _ _ _ _ _ _ _ _ _ _ _ _ _ _ _ _ hK ⟨hle, hKK, hP1, hD1, hS1, dm_h_set hh0 h1 ⟨by show vs.length = (vs.set k _).length; rw [List.length_set], h3, Or.inr (Or.inr (Or.inl ⟨rfl, h4, _, rfl, fun j u hj => ?_⟩))⟩⟩ hls hs3
  have hj3 : (vs.set k (.ref i2))[j]? = some u := hj
  rw [List.getElem?_set] at hj3
  by_cases e : k = j
  · subst e
    rw [if_pos rfl, if_pos hk] at hj3
    cases hj3
    rw [va_up, if_pos rfl]
    exact ⟨b, hb2, rfl⟩
  · rw [if_neg e] at hj3
    rw [va_up, if_neg (fun q => e q.symm)]
    exact h5 j u hj3
/-- new arrays -/
theorem dr_newi {w N : Nat} {n : Int32} (hi : dm_at z pc = some (.newarray .int, 2, [20, w])) (hn : n = nI N) (hN : N ≤ 10000) (hc : ce + 1 ≤ MC) (hs : sl + N ≤ MS) (kk : dm_W E P l z d MC MS (pc + 2) ls (.ref h.length :: st) (h ++ [(20, List.replicate N (.int 0))]) (ce + 1) (sl + N)) : dm_W E P l z d MC MS pc ls (.int n :: st) h ce sl := by
  intro p e s m args below meth c D g tys L0 L ws A H locs lsC stC hK hw hls hst
  obtain ⟨hok, hst9, hx, hb, hr, hml, hown, hts, hS9, hlk, htb, hnm, hA, hE⟩ := id hK
  obtain ⟨hle, hKK, hP, hD, hS, hh0⟩ := id hw
  obtain ⟨hd, hR⟩ := dm_ok_at hok hi
  have hR : dm_g w (.arrayClass .int) = true := hR
  obtain ⟨y, sc, rfl, hj2, hs1⟩ := dm_st_cons hst
  have hj2 : y = .int n := hj2
  subst hj2
  subst hn
  have e1 : (nI N).toNatClampNeg = N := nI_clamp (by omega)
  refine va_newa (atype := .int) (a0 := (N, .inl (fun _ => 0))) hx hb (hts _ (dm_g_mem hR)) rfl hKK hP hD hS hA (fun _ => rfl) (nI_pos (by omega)) e1 (by show N * 4 ≤ _; omega) hc hs hd (fun q cA H1 hK1 hP1 hD1 hS1 => ?_)
  have hT : ∀ t ∈ tys, t ∈ tys ++ [(cA, FieldType.int)] := fun t ht => List.mem_append_left _ ht
  refine kk _ _ _ _ _ _ _ _ _ _ _ (L0 := L0) (L ++ [q]) _ _ _ _ _ _ hK ⟨dm_le_tr hle (dm_le_app _ _), hK1, hP1, hD1, hS1, dm_h_push hh0 hT ⟨(List.length_replicate).symm, by omega, Or.inl ⟨rfl, List.mem_append_right _ List.mem_cons_self, _, rfl, fun j u hj => ?_⟩⟩⟩ (dm_ls_up (dm_le_app _ _) hls) ⟨⟨q, ?_, rfl⟩, dm_st_up (dm_le_app _ _) hs1⟩
  · have hj : (List.replicate N (Value.int 0))[j]? = some u := hj
    rw [List.getElem?_replicate] at hj
    split at hj <;> cases hj
    rfl
  · rw [← hh0.1, List.getElem?_append_right (Nat.le_refl _), Nat.sub_self]; rfl
theorem dr_newb {w N : Nat} {n : Int32} (hi : dm_at z pc = some (.newarray .byte, 2, [21, w])) (hn : n = nI N) (hN : N ≤ 10000) (hc : ce + 1 ≤ MC) (hs : sl + N ≤ MS) (kk : dm_W E P l z d MC MS (pc + 2) ls (.ref h.length :: st) (h ++ [(21, List.replicate N (.int 0))]) (ce + 1) (sl + N)) : dm_W E P l z d MC MS pc ls (.int n :: st) h ce sl := by
  intro p e s m args below meth c D g tys L0 L ws A H locs lsC stC hK hw hls hst
  obtain ⟨hok, hst9, hx, hb, hr, hml, hown, hts, hS9, hlk, htb, hnm, hA, hE⟩ := id hK
  obtain ⟨hle, hKK, hP, hD, hS, hh0⟩ := id hw
  obtain ⟨hd, hR⟩ := dm_ok_at hok hi
  have hR : dm_g w (.arrayClass .byte) = true := hR
  obtain ⟨y, sc, rfl, hj2, hs1⟩ := dm_st_cons hst
  have hj2 : y = .int n := hj2
  subst hj2
  subst hn
  have e1 : (nI N).toNatClampNeg = N := nI_clamp (by omega)
  refine va_newa (atype := .byte) (a0 := (N, .inl (fun _ => 0))) hx hb (hts _ (dm_g_mem hR)) rfl hKK hP hD hS hA (fun _ => rfl) (nI_pos (by omega)) e1 (by show N * 1 ≤ _; omega) hc hs hd (fun q cA H1 hK1 hP1 hD1 hS1 => ?_)
  have hT : ∀ t ∈ tys, t ∈ tys ++ [(cA, FieldType.byte)] := fun t ht => List.mem_append_left _ ht
  refine kk _ _ _ _ _ _ _ _ _ _ _ (L0 := L0) (L ++ [q]) _ _ _ _ _ _ hK ⟨dm_le_tr hle (dm_le_app _ _), hK1, hP1, hD1, hS1, dm_h_push hh0 hT ⟨(List.length_replicate).symm, by omega, Or.inr (Or.inl ⟨rfl, List.mem_append_right _ List.mem_cons_self, _, rfl, fun j u hj => ?_⟩)⟩⟩ (dm_ls_up (dm_le_app _ _) hls) ⟨⟨q, ?_, rfl⟩, dm_st_up (dm_le_app _ _) hs1⟩
  · have hj : (List.replicate N (Value.int 0))[j]? = some u := hj
    rw [List.getElem?_replicate] at hj
    split at hj <;> cases hj
    exact ⟨rfl, rfl⟩
  · rw [← hh0.1, List.getElem?_append_right (Nat.le_refl _), Nat.sub_self]; rfl
theorem dr_newq {idx w N : Nat} {n : Int32} (hi : dm_at z pc = some (.anewarray idx, 3, [22, w])) (hn : n = nI N) (hN : N ≤ 10000) (hc : ce + 1 ≤ MC) (hs : sl + N ≤ MS) (kk : dm_W E P l z d MC MS (pc + 3) ls (.ref h.length :: st) (h ++ [(22, List.replicate N .null)]) (ce + 1) (sl + N)) : dm_W E P l z d MC MS pc ls (.int n :: st) h ce sl := by
  intro p e s m args below meth c D g tys L0 L ws A H locs lsC stC hK hw hls hst
  obtain ⟨hok, hst9, hx, hb, hr, hml, hown, hts, hS9, hlk, htb, hnm, hA, hE⟩ := id hK
  obtain ⟨hle, hKK, hP, hD, hS, hh0⟩ := id hw
  obtain ⟨hd, hR⟩ := dm_ok_at hok hi
  have hR : dm_g w (.classLink (dm_m z).1.cls idx "Earlyends$Book") = true := hR
  obtain ⟨y, sc, rfl, hj2, hs1⟩ := dm_st_cons hst
  have hj2 : y = .int n := hj2
  subst hj2
  subst hn
  have e1 : (nI N).toNatClampNeg = N := nI_clamp (by omega)
  refine va_newq hx hb hown (hts _ (dm_g_mem hR)) hS9.2.1 hKK hP hD hS hA (nI_pos (by omega)) e1 (by omega) hc hs hd (fun q cA H1 hK1 hP1 hD1 hS1 => ?_)
  have hT : ∀ t ∈ tys, t ∈ tys ++ [(cA, FieldType.object "Earlyends$Book")] := fun t ht => List.mem_append_left _ ht
  refine kk _ _ _ _ _ _ _ _ _ _ _ (L0 := L0) (L ++ [q]) _ _ _ _ _ _ hK ⟨dm_le_tr hle (dm_le_app _ _), hK1, hP1, hD1, hS1, dm_h_push hh0 hT ⟨(List.length_replicate).symm, by omega, Or.inr (Or.inr (Or.inl ⟨rfl, List.mem_append_right _ List.mem_cons_self, _, rfl, fun j u hj => ?_⟩))⟩⟩ (dm_ls_up (dm_le_app _ _) hls) ⟨⟨q, ?_, rfl⟩, dm_st_up (dm_le_app _ _) hs1⟩
  · have hj : (List.replicate N Value.null)[j]? = some u := hj
    rw [List.getElem?_replicate] at hj
    split at hj <;> cases hj
    rfl
  · rw [← hh0.1, List.getElem?_append_right (Nat.le_refl _), Nat.sub_self]; rfl
/-- new objects -/
def dm_new (ci : Nat) : List Value := match vwCl[ci]? with
  | some q => (List.range q.2.2).map (fun j => defaultValue (dm_ty ci j))
  | none => []
def dm_smp (v : Value) : Bool := match v with
  | .int _ => true
  | .long _ => true
  | .null => true
  | _ => false
theorem dm_smp_v {g : Nat → Nat} {L : List Nat} {v : Value} (h : dm_smp v = true) : dm_v g L v v := by
  cases v <;> first | rfl | (simp [dm_smp] at h)
theorem dm_new_ok : (List.range 11).all (fun ci => (dm_new ci).all dm_smp) = true := by decide +kernel
theorem dr_new {idx ci w1 w2 w3 : Nat} {fs : List Value} (hi : dm_at z pc = some (.new idx, 3, [ci, w1, w2, w3])) (hfs : dm_new ci = fs) (hc : ce + 1 ≤ MC) (hs : sl + fs.length ≤ MS) (kk : dm_W E P l z d MC MS (pc + 3) ls (.ref h.length :: st) (h ++ [(ci, fs)]) (ce + 1) (sl + fs.length)) : dm_W E P l z d MC MS pc ls st h ce sl := by
  intro p e s m args below meth c D g tys L0 L ws A H locs lsC stC hK hw hls hst
  obtain ⟨hok, hst9, hx, hb, hr, hml, hown, hts, hS9, hlk, htb, hnm, hA, hE⟩ := id hK
  obtain ⟨hle, hKK, hP, hD, hS, hh0⟩ := id hw
  obtain ⟨hd, hR⟩ := dm_ok_at hok hi
  have hR : (match vwCl[ci]? with
    | some q => dm_g w1 (.classLink (dm_m z).1.cls idx q.1) && dm_g w2 (.instantiable q.1 q.2.2) && dm_g w3 (.initialized q.1)
    | none => false) = true := hR
  split at hR
  · rename_i q hq
    simp only [Bool.and_eq_true] at hR
    obtain ⟨⟨r1, r2⟩, r3⟩ := hR
    have hlt := dm_vwlt hq
    have hfl : fs = (List.range q.2.2).map (fun j => defaultValue (dm_ty ci j)) := by rw [← hfs, dm_new, hq]
    have hN : fs.length = q.2.2 := by rw [hfl]; simp
    have hsm : ∀ v ∈ fs, dm_smp v = true := by
      rw [← hfs]
      exact List.all_eq_true.mp (List.all_eq_true.mp dm_new_ok ci (List.mem_range.mpr hlt))
    refine va_new (C := q.1) (T := q.2.1) (N := q.2.2) (fs := fs) hx hb hts (dm_clw ci q hq) (dm_ty ci) (dm_tyk ci q hq) hown (hts _ (dm_g_mem r1)) (hts _ (dm_g_mem r2)) (hts _ (dm_g_mem r3)) hKK hP hD hS hA hq (fun j hj => ?_) hc (by rw [← hN]; exact hs) hd (fun q9 H1 hP1 hD1 hS1 => ?_)
    · rw [vp_V, hfl, List.getD_eq_getElem?_getD, List.getElem?_map, List.getElem?_range hj]; rfl
    · rw [← hN]
      refine kk _ _ _ _ _ _ _ _ _ _ _ (L0 := L0) (L ++ [q9]) _ _ _ _ _ _ hK ⟨dm_le_tr hle (dm_le_app _ _), hKK, hP1, hD1, hS1, dm_h_push hh0 (fun _ t => t) ⟨rfl, by show ci < 20; omega, rfl, fun j u hj => ?_⟩⟩ (dm_ls_up (dm_le_app _ _) hls) ⟨⟨q9, ?_, rfl⟩, dm_st_up (dm_le_app _ _) hst⟩
      · exact ⟨u, hj, dm_smp_v (hsm u (List.mem_of_getElem? hj))⟩
      · rw [← hh0.1, List.getElem?_append_right (Nat.le_refl _), Nat.sub_self]; rfl
  · cases hR
end DMF
