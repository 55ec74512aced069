/-! ===== the law's own walk ===== -/
/-- the script: it lies outside and stays; all that is new is the walk's own -/
def lw_E (L : Nat) (xs : Nat → Int32) : dm_Ex := fun g A s => va_X (g 2) L xs s s.heap ∧ g 2 < s.heap.size ∧ ∀ q, A q → s.heap.size ≤ q
def lw_PL : dm_Po := fun _ _ _ _ below args s => lw_Z below args s
def lw_K (l : Launch) (L : Nat) (xs : Nat → Int32) (i : Int) (ce sl : Nat) : Prop := ∀ (kc : Int) (h : dm_H) (B : Int) (σ : St) (th : Int), Inv kc kc h → CSt B σ h → MSt kc th σ h → 6 * B ≤ 20 * (i + 6) → dm_W (lw_E L xs) lw_PL l 329 420 1200128 5501098 2380 [some (.retAddr 2), some (.ref 0), some (.ref 26), some (.ref 36), some (dI i), none, none] [] h ce sl
/-- the script's number at a place -/
noncomputable def sv (xs : Nat → Int32) (u : Int) : Int := (bd_of (xs u.toNat)).choose
theorem sv_b {xs : Nat → Int32} {u : Int} : -2147483648 ≤ sv xs u ∧ sv xs u < 2147483648 := (bd_of (xs u.toNat)).choose_spec.1
theorem sv_e {xs : Nat → Int32} {u : Int} : xs u.toNat = Int32.ofInt (sv xs u) := (bd_of (xs u.toNat)).choose_spec.2
section LWR
variable {P : dm_Po} {l : Launch} {z d MC MS pc ce sl : Nat} {ls : List (Option Value)} {st : List Value} {h : dm_H} {L : Nat} {xs : Nat → Int32}
theorem dr_xlen (hi : dm_at z pc = some (.arraylength, 1, [])) (kk : dm_W (lw_E L xs) P l z d MC MS (pc + 1) ls (dI (L : Int) :: st) h ce sl) : dm_W (lw_E L xs) P l z d MC MS pc ls (.retAddr 2 :: st) h ce sl := by
  intro p e s m args below meth c D g tys L0 L9 ws A H locs lsC stC hK hw hls hst
  obtain ⟨hok, hst9, hx, hb, hre, hml, hown, hts, hS9, hlk, htb, hnm, hA, hE⟩ := id hK
  obtain ⟨hle, hKK, hP, hD, hS, hh0⟩ := id hw
  obtain ⟨hd, -⟩ := dm_ok_at hok hi
  obtain ⟨y, sc, rfl, hj, hs1⟩ := dm_st_cons hst
  have hj : y = .ref (g 2) := hj
  subst hj
  refine va_slen hx hb hE.1 hE.2.1 (fun q => Nat.not_le.mpr hE.2.1 (hE.2.2 _ q)) hS hd ?_
  rw [show Value.int (Int32.ofNat L) = dI (L : Int) from (congrArg Value.int (dI_nI L)).symm]
  exact kk _ _ _ _ _ _ _ _ _ _ _ _ _ _ _ _ _ _ _ hK hw hls ⟨rfl, hs1⟩
theorem dr_xld {u : Int} (hi : dm_at z pc = some (.iaload, 1, [])) (h0 : 0 ≤ u) (h1 : u < L) (hL : L ≤ 384) (kk : ∀ x : Int, -2147483648 ≤ x → x < 2147483648 → dm_W (lw_E L xs) P l z d MC MS (pc + 1) ls (dI x :: st) h ce sl) : dm_W (lw_E L xs) P l z d MC MS pc ls (dI u :: .retAddr 2 :: st) h ce sl := by
  intro p e s m args below meth c D g tys L0 L9 ws A H locs lsC stC hK hw hls hst
  obtain ⟨hok, hst9, hx, hb, hre, hml, hown, hts, hS9, hlk, htb, hnm, hA, hE⟩ := id hK
  obtain ⟨hle, hKK, hP, hD, hS, hh0⟩ := id hw
  obtain ⟨hd, -⟩ := dm_ok_at hok hi
  obtain ⟨y, sc, rfl, hj, hs1⟩ := dm_st_cons hst
  have hj : y = dI u := hj
  subst hj
  obtain ⟨y, sc, rfl, hj, hs2⟩ := dm_st_cons hs1
  have hj : y = .ref (g 2) := hj
  subst hj
  obtain ⟨n, rfl⟩ := Int.eq_ofNat_of_zero_le h0
  have e1 : (nI n).toNatClampNeg = n := nI_clamp (by omega)
  obtain ⟨q, hq, hq2⟩ := bd_of (xs n)
  have e2 : dI (n : Int) = .int (nI n) := congrArg Value.int (dI_nI n)
  rw [e2]
  refine va_sld hx hb hE.1 hE.2.1 (fun q => Nat.not_le.mpr hE.2.1 (hE.2.2 _ q)) hS (i := nI n) (dm_vpin (by omega) (by omega)) hd ?_
  rw [e1, show Value.int (xs n) = dI q from congrArg Value.int hq2]
  exact kk q hq.1 hq.2 _ _ _ _ _ _ _ _ _ _ _ _ _ _ _ _ _ _ _ hK hw hls ⟨rfl, hs2⟩
theorem dr_astoreU {E : dm_Ex} {k : Nat} {v : Value} (hi : dm_at z pc = some (.astore k, 2, [])) (hf : dm_fr ls (k : Nat) = true) (hv : (∃ i, v = .ref i) ∨ ∃ i, v = .float i) (kk : dm_W E P l z d MC MS (pc + 2) (ls.set (k : Nat) (some v)) st h ce sl) : dm_W E P l z d MC MS pc ls (v :: st) h ce sl := by
  rcases hv with ⟨i, rfl⟩ | ⟨i, rfl⟩
  · exact dr_astore hi hf (Or.inl rfl) kk
  · exact dr_astore hi hf (Or.inr (Or.inl ⟨i, rfl⟩)) kk
theorem lw_retA {p : Program} {l : Launch} {e : Env} {s : State} {m : MethodId} {args : Array Value} {below : List Frame} {meth : Method} {c : Code} (hx : p.tables.exec = Jvm.exec) (hb : c.code = code) (hr : meth.sig.returnType = ret) (hlocks : meth.locks = false) {pc : Nat} {H : Heap} {ls : Array Slot} (hdg : decode code pc = .ok (.ireturn, 1)) : W p l e room_1 s m args below meth c H [] 1200128 5501098 (lw_Z below args s) (F0 m pc ls [.int 1]) := by
  intro T hT X
  obtain ⟨fs, hret, hrun, hended, hW, hframe⟩ := X.leave (v := some (.int 1)) (hlocks := hlocks) (fun h => by rw [hr] at h; cases h)
  have hmeth' : T.vm.method? m = some meth := X.method'
  refine ⟨T.setFrames fs, ?_, .returned (some (.int 1)), hrun, hended, rfl, ⟨_, rfl⟩, hW, hframe⟩
  jvm_step X.here [X.here.top, hx, hb, hdg, hmeth', hr, ret, narrow_b1]
  (try refine ⟨rfl, ?_⟩); (try refine ⟨rfl, ?_⟩)
  first | (intro acts; rw [hret _ acts rfl rfl rfl]) | rw [hret _ _ rfl rfl rfl]
  exact Steps.refl _
theorem lw_end (hi : dm_at 329 pc = some (.ireturn, 1, [])) (hc : ce ≤ 1200128) (hs : sl ≤ 5501098) : dm_W (lw_E L xs) lw_PL l 329 420 1200128 5501098 pc ls [dI 1] h ce sl := by
  intro p e s m args below meth c D g tys L0 L9 ws A H locs lsC stC hK hw hls hst
  obtain ⟨hok, hst9, hx, hb, hre, hml, hown, hts, hS9, hlk, htb, hnm, hA, hE⟩ := id hK
  obtain ⟨hle, hKK, hP, hD, hS, hh0⟩ := id hw
  obtain ⟨hd, -⟩ := dm_ok_at hok hi
  obtain ⟨y, sc, rfl, hj, hs1⟩ := dm_st_cons hst
  have hj : y = .int 1 := hj
  subst hj
  rw [dm_st_nil hs1]
  have hb2 : c.code = code := hb.trans lw_bytes
  have hd2 : decode code pc = .ok (.ireturn, 1) := by rw [← lw_bytes]; exact hd
  exact va_forget (fun q hq => hE.2.2 _ (hS.2.2 q hq)) (W.widen hc hs (lw_retA hx hb2 (hre.trans rfl) hlk hd2))
theorem dr_lcmpE {E : dm_Ex} {x y : Int64} (hi : dm_at z pc = some (.lcmp, 1, [])) (he : x = y) (kk : dm_W E P l z d MC MS (pc + 1) ls (dI 0 :: st) h ce sl) : dm_W E P l z d MC MS pc ls (.long y :: .long x :: st) h ce sl := by
  intro p e s m args below meth c D g tys L0 L ws A H locs lsC stC hK hw hls hst
  obtain ⟨y9, sc, rfl, hv, hs1⟩ := dm_st_cons hst
  have hv : y9 = .long y := hv
  subst hv
  obtain ⟨y8, sc, rfl, hv2, hs2⟩ := dm_st_cons hs1
  have hv2 : y8 = .long x := hv2
  subst hv2
  subst he
  refine W.lcmp hK.2.2.1 hK.2.2.2.1 (dm_ok_at hK.1 hi).1 ?_
  have e0 : lg_cmp x x = 0 := by simp [lg_cmp]
  rw [e0]
  exact kk _ _ _ _ _ _ _ _ _ _ _ _ _ _ _ _ _ _ _ hK hw hls ⟨rfl, hs2⟩
theorem dr_xldE {u x : Int} (hi : dm_at z pc = some (.iaload, 1, [])) (h0 : 0 ≤ u) (h1 : u < L) (hL : L ≤ 384) (e : sv xs u = x) (kk : dm_W (lw_E L xs) P l z d MC MS (pc + 1) ls (dI x :: st) h ce sl) : dm_W (lw_E L xs) P l z d MC MS pc ls (dI u :: .retAddr 2 :: st) h ce sl := by
  intro p e9 s m args below meth c D g tys L0 L9 ws A H locs lsC stC hK hw hls hst
  obtain ⟨hok, hst9, hx, hb, hre, hml, hown, hts, hS9, hlk, htb, hnm, hA, hE⟩ := id hK
  obtain ⟨hle, hKK, hP, hD, hS, hh0⟩ := id hw
  obtain ⟨hd, -⟩ := dm_ok_at hok hi
  obtain ⟨y, sc, rfl, hj, hs1⟩ := dm_st_cons hst
  have hj : y = dI u := hj
  subst hj
  obtain ⟨y, sc, rfl, hj, hs2⟩ := dm_st_cons hs1
  have hj : y = .ref (g 2) := hj
  subst hj
  obtain ⟨n, rfl⟩ := Int.eq_ofNat_of_zero_le h0
  have e1 : (nI n).toNatClampNeg = n := nI_clamp (by omega)
  have e2 : dI (n : Int) = .int (nI n) := congrArg Value.int (dI_nI n)
  have e3 : xs n = Int32.ofInt x := by
    rw [← e]
    exact sv_e (xs := xs) (u := (n : Int))
  rw [e2]
  refine va_sld hx hb hE.1 hE.2.1 (fun q => Nat.not_le.mpr hE.2.1 (hE.2.2 _ q)) hS (i := nI n) (dm_vpin (by omega) (by omega)) hd ?_
  rw [e1, show Value.int (xs n) = dI x from congrArg Value.int e3]
  exact kk _ _ _ _ _ _ _ _ _ _ _ _ _ _ _ _ _ _ _ hK hw hls ⟨rfl, hs2⟩
end LWR
section S1R
variable {E : dm_Ex} {P : dm_Po} {l : Launch} {z d MC MS pc ce sl : Nat} {ls : List (Option Value)} {st : List Value} {h : dm_H} {kc km : Int}
theorem kS1 (kk : ∀ h1 : dm_H, Inv kc km h1 → FrT h h1 → dm_W E P l z d MC MS pc ls (dI 1 :: st) h1 ce sl) : ∀ (v : Option Value) (h1 : dm_H), QS1 kc km h (.inl v) h1 → dm_W E P l z d MC MS pc ls (v.toList ++ st) h1 ce sl := by
  rintro v h1 ⟨x, y, e⟩
  cases e
  exact kk h1 x y
theorem kS1N : ∀ (Y : String) (h1 : dm_H), QS1 kc km h (.inr Y) h1 → dm_T9 E P l z d MC MS Y pc ls h1 ce sl := fun _ _ q => by cases q.2.2
end S1R
theorem sv_x (xs : Nat → Int32) (u : Int) : ∃ x : Int, -2147483648 ≤ x ∧ x < 2147483648 ∧ sv xs u = x := ⟨_, sv_b.1, sv_b.2, rfl⟩
theorem CSt_FrM2 {B : Int} {σ : St} {h h' : dm_H} (hS : CSt B σ h) (f : FrM h h') : CSt B σ h' := CSt_same hS (fun j j0 j1 j2 => f.2 j (by omega))
set_option maxHeartbeats 4000000 in
set_option maxRecDepth 100000 in
theorem lw_c0 (l : Launch) (hl : l.stackTraces = false) {L : Nat} {xs : Nat → Int32} (hL : L ≤ 384) {kc : Int} {h : dm_H} {B : Int} {σ : St} {th : Int} (hI : Inv kc kc h) (hS : CSt B σ h) (hM : MSt kc th σ h) {i : Int} (hi0 : 0 ≤ i) (hi6 : i + 6 ≤ L) (hB : 6 * B ≤ 20 * i) {ce sl : Nat} (hce : ce + 2000 ≤ 1200128) (hsl : sl + 60000 ≤ 5501098) (K : lw_K l L xs i (ce + 2000) (sl + 60000)) : dm_W (lw_E L xs) lw_PL l 329 420 1200128 5501098 252 [some (.retAddr 2), some (.ref 0), some (.ref 26), some (.ref 36), some (dI i), none, none] [] h ce sl := by
  obtain ⟨x1, x1a, x1b, x1e⟩ := sv_x xs (i + 1)
  obtain ⟨x2, x2a, x2b, x2e⟩ := sv_x xs (i + 2)
  obtain ⟨x3, x3a, x3b, x3e⟩ := sv_x xs (i + 3)
  obtain ⟨x4, x4a, x4b, x4e⟩ := sv_x xs (i + 4)
  refine di_aload_n la_252 rfl ?_
  refine dr_aload_n la_253 rfl (Or.inr (Or.inr ⟨_, rfl⟩)) ?_
  refine dr_iload la_254 rfl ?_
  refine di_const la_256 ?_
  refine di_iadd la_257 ?_
  refine dr_xldE la_258 (by omega) (by omega) hL x1e ?_
  refine dr_aload_n la_259 rfl (Or.inr (Or.inr ⟨_, rfl⟩)) ?_
  refine dr_iload la_260 rfl ?_
  refine di_const la_262 ?_
  refine di_iadd la_263 ?_
  refine dr_xldE la_264 (by omega) (by omega) hL x2e ?_
  refine dr_aload_n la_265 rfl (Or.inr (Or.inr ⟨_, rfl⟩)) ?_
  refine dr_iload la_266 rfl ?_
  refine di_const la_268 ?_
  refine di_iadd la_269 ?_
  refine dr_xldE la_270 (by omega) (by omega) hL x3e ?_
  refine dr_aload_n la_271 rfl (Or.inr (Or.inr ⟨_, rfl⟩)) ?_
  refine dr_iload la_272 rfl ?_
  refine di_const la_274 ?_
  refine di_iadd la_275 ?_
  refine dr_xldE la_276 (by omega) (by omega) hL x4e ?_
  refine di_aload_n la_277 rfl ?_
  refine dr_statH la_278 rfl (by decide +kernel) rfl (t_L_put l hl hI hS (by omega) (a1 := x1) (by omega) (by omega) (a2 := x2) (by omega) (by omega) (a3 := x3) (by omega) (by omega) (a4 := x4) (by omega) (by omega)) (by decide) (by omega) (by omega) (Nat.le_of_ble_eq_true rfl) kQLN (kQL (fun h11 hI12 hF13 hS14 hq16 ho17 => ?_))
  have hM15 := MSt_FL hM hF13
  refine di_istore (ls2 := [some (.retAddr 2), some (.ref 0), some (.ref 26), some (.ref 36), some (dI i), some (dI (spPut σ x1 x2 x3 x4).1), none]) la_281 rfl rfl ?_
  refine di_aload_n la_283 rfl ?_
  refine dr_aload_n la_284 rfl (Or.inr (Or.inr ⟨_, rfl⟩)) ?_
  refine dr_iload la_285 rfl ?_
  refine di_const la_287 ?_
  refine di_iadd la_288 ?_
  refine dr_xldE la_289 (by omega) (by omega) hL x1e ?_
  refine dr_aload_n la_290 rfl (Or.inr (Or.inr ⟨_, rfl⟩)) ?_
  refine dr_iload la_291 rfl ?_
  refine di_const la_293 ?_
  refine di_iadd la_294 ?_
  refine dr_xldE la_295 (by omega) (by omega) hL x2e ?_
  refine dr_aload_n la_296 rfl (Or.inr (Or.inr ⟨_, rfl⟩)) ?_
  refine dr_iload la_297 rfl ?_
  refine di_const la_299 ?_
  refine di_iadd la_300 ?_
  refine dr_xldE la_301 (by omega) (by omega) hL x3e ?_
  refine dr_aload_n la_302 rfl (Or.inr (Or.inr ⟨_, rfl⟩)) ?_
  refine dr_iload la_303 rfl ?_
  refine di_const la_305 ?_
  refine di_iadd la_306 ?_
  refine dr_xldE la_307 (by omega) (by omega) hL x4e ?_
  obtain ⟨nic23, c23, -⟩ := hM15.1
  refine dr_virt la_308 rfl rfl rfl c23 (n_X8_put l hl hI12 hM15 (a1 := x1) (by omega) (by omega) (a2 := x2) (by omega) (by omega) (a3 := x3) (by omega) (by omega) (a4 := x4) (by omega) (by omega) ) (by decide) (by omega) (by omega) (Nat.le_of_ble_eq_true rfl) kQM9N (kQM9 (fun a24 h18 hI19 hF20 hM22 a24a a24b a24e => ?_))
  have hS21 := CSt_FrM2 hS14 hF20
  refine di_istore (ls2 := [some (.retAddr 2), some (.ref 0), some (.ref 26), some (.ref 36), some (dI i), some (dI (spPut σ x1 x2 x3 x4).1), some (dI a24)]) la_311 rfl rfl ?_
  refine dr_goto la_313 rfl ?_
  refine dm_wk (ls2 := [some (.retAddr 2), some (.ref 0), some (.ref 26), some (.ref 36), some (dI i), none, none]) ⟨Or.inr rfl, Or.inr rfl, Or.inr rfl, Or.inr rfl, Or.inr rfl, Or.inl rfl, Or.inl rfl, trivial⟩ ?_
  refine dm_cew (ce2 := ce + 2000) (sl2 := sl + 60000) (by omega) (by omega) ?_
  exact K _ _ _ _ _ hI19 hS21 hM22 (by omega)
set_option maxHeartbeats 4000000 in
set_option maxRecDepth 100000 in
theorem lw_c1 (l : Launch) (hl : l.stackTraces = false) {L : Nat} {xs : Nat → Int32} (hL : L ≤ 384) {kc : Int} {h : dm_H} {B : Int} {σ : St} {th : Int} (hI : Inv kc kc h) (hS : CSt B σ h) (hM : MSt kc th σ h) {i : Int} (hi0 : 0 ≤ i) (hi6 : i + 6 ≤ L) (hB : 6 * B ≤ 20 * i) {ce sl : Nat} (hce : ce + 2000 ≤ 1200128) (hsl : sl + 60000 ≤ 5501098) (K : lw_K l L xs i (ce + 2000) (sl + 60000)) : dm_W (lw_E L xs) lw_PL l 329 420 1200128 5501098 316 [some (.retAddr 2), some (.ref 0), some (.ref 26), some (.ref 36), some (dI i), none, none] [] h ce sl := by
  obtain ⟨x1, x1a, x1b, x1e⟩ := sv_x xs (i + 1)
  obtain ⟨x2, x2a, x2b, x2e⟩ := sv_x xs (i + 2)
  obtain ⟨x3, x3a, x3b, x3e⟩ := sv_x xs (i + 3)
  obtain ⟨x4, x4a, x4b, x4e⟩ := sv_x xs (i + 4)
  refine di_aload_n la_316 rfl ?_
  refine dr_aload_n la_317 rfl (Or.inr (Or.inr ⟨_, rfl⟩)) ?_
  refine dr_iload la_318 rfl ?_
  refine di_const la_320 ?_
  refine di_iadd la_321 ?_
  refine dr_xldE la_322 (by omega) (by omega) hL x1e ?_
  refine dr_aload_n la_323 rfl (Or.inr (Or.inr ⟨_, rfl⟩)) ?_
  refine dr_iload la_324 rfl ?_
  refine di_const la_326 ?_
  refine di_iadd la_327 ?_
  refine dr_xldE la_328 (by omega) (by omega) hL x2e ?_
  refine dr_aload_n la_329 rfl (Or.inr (Or.inr ⟨_, rfl⟩)) ?_
  refine dr_iload la_330 rfl ?_
  refine di_const la_332 ?_
  refine di_iadd la_333 ?_
  refine dr_xldE la_334 (by omega) (by omega) hL x3e ?_
  refine dr_aload_n la_335 rfl (Or.inr (Or.inr ⟨_, rfl⟩)) ?_
  refine dr_iload la_336 rfl ?_
  refine di_const la_338 ?_
  refine di_iadd la_339 ?_
  refine dr_xldE la_340 (by omega) (by omega) hL x4e ?_
  refine di_aload_n la_341 rfl ?_
  refine dr_statH la_342 rfl (by decide +kernel) rfl (t_L_add l hl hI hS (by omega) (a1 := x1) (by omega) (by omega) (a2 := x2) (by omega) (by omega) (a3 := x3) (by omega) (by omega) (a4 := x4) (by omega) (by omega)) (by decide) (by omega) (by omega) (Nat.le_of_ble_eq_true rfl) kQLN (kQL (fun h11 hI12 hF13 hS14 hq16 ho17 => ?_))
  have hM15 := MSt_FL hM hF13
  refine di_istore (ls2 := [some (.retAddr 2), some (.ref 0), some (.ref 26), some (.ref 36), some (dI i), some (dI (spAdd σ x1 x2 x3 x4).1), none]) la_345 rfl rfl ?_
  refine di_aload_n la_347 rfl ?_
  refine dr_aload_n la_348 rfl (Or.inr (Or.inr ⟨_, rfl⟩)) ?_
  refine dr_iload la_349 rfl ?_
  refine di_const la_351 ?_
  refine di_iadd la_352 ?_
  refine dr_xldE la_353 (by omega) (by omega) hL x1e ?_
  refine dr_aload_n la_354 rfl (Or.inr (Or.inr ⟨_, rfl⟩)) ?_
  refine dr_iload la_355 rfl ?_
  refine di_const la_357 ?_
  refine di_iadd la_358 ?_
  refine dr_xldE la_359 (by omega) (by omega) hL x2e ?_
  refine dr_aload_n la_360 rfl (Or.inr (Or.inr ⟨_, rfl⟩)) ?_
  refine dr_iload la_361 rfl ?_
  refine di_const la_363 ?_
  refine di_iadd la_364 ?_
  refine dr_xldE la_365 (by omega) (by omega) hL x3e ?_
  refine dr_aload_n la_366 rfl (Or.inr (Or.inr ⟨_, rfl⟩)) ?_
  refine dr_iload la_367 rfl ?_
  refine di_const la_369 ?_
  refine di_iadd la_370 ?_
  refine dr_xldE la_371 (by omega) (by omega) hL x4e ?_
  obtain ⟨nic23, c23, -⟩ := hM15.1
  refine dr_virt la_372 rfl rfl rfl c23 (n_X8_add l hl hI12 hM15 (a1 := x1) (by omega) (by omega) (a2 := x2) (by omega) (by omega) (a3 := x3) (by omega) (by omega) (a4 := x4) (by omega) (by omega) ) (by decide) (by omega) (by omega) (Nat.le_of_ble_eq_true rfl) kQM9N (kQM9 (fun a24 h18 hI19 hF20 hM22 a24a a24b a24e => ?_))
  have hS21 := CSt_FrM2 hS14 hF20
  refine di_istore (ls2 := [some (.retAddr 2), some (.ref 0), some (.ref 26), some (.ref 36), some (dI i), some (dI (spAdd σ x1 x2 x3 x4).1), some (dI a24)]) la_375 rfl rfl ?_
  refine dr_goto la_377 rfl ?_
  refine dm_wk (ls2 := [some (.retAddr 2), some (.ref 0), some (.ref 26), some (.ref 36), some (dI i), none, none]) ⟨Or.inr rfl, Or.inr rfl, Or.inr rfl, Or.inr rfl, Or.inr rfl, Or.inl rfl, Or.inl rfl, trivial⟩ ?_
  refine dm_cew (ce2 := ce + 2000) (sl2 := sl + 60000) (by omega) (by omega) ?_
  exact K _ _ _ _ _ hI19 hS21 hM22 (by omega)
set_option maxHeartbeats 4000000 in
set_option maxRecDepth 100000 in
theorem lw_c2 (l : Launch) (hl : l.stackTraces = false) {L : Nat} {xs : Nat → Int32} (hL : L ≤ 384) {kc : Int} {h : dm_H} {B : Int} {σ : St} {th : Int} (hI : Inv kc kc h) (hS : CSt B σ h) (hM : MSt kc th σ h) {i : Int} (hi0 : 0 ≤ i) (hi6 : i + 6 ≤ L) (hB : 6 * B ≤ 20 * i) {ce sl : Nat} (hce : ce + 2000 ≤ 1200128) (hsl : sl + 60000 ≤ 5501098) (K : lw_K l L xs i (ce + 2000) (sl + 60000)) : dm_W (lw_E L xs) lw_PL l 329 420 1200128 5501098 380 [some (.retAddr 2), some (.ref 0), some (.ref 26), some (.ref 36), some (dI i), none, none] [] h ce sl := by
  obtain ⟨x1, x1a, x1b, x1e⟩ := sv_x xs (i + 1)
  obtain ⟨x2, x2a, x2b, x2e⟩ := sv_x xs (i + 2)
  obtain ⟨x3, x3a, x3b, x3e⟩ := sv_x xs (i + 3)
  obtain ⟨x4, x4a, x4b, x4e⟩ := sv_x xs (i + 4)
  refine di_aload_n la_380 rfl ?_
  refine dr_aload_n la_381 rfl (Or.inr (Or.inr ⟨_, rfl⟩)) ?_
  refine dr_iload la_382 rfl ?_
  refine di_const la_384 ?_
  refine di_iadd la_385 ?_
  refine dr_xldE la_386 (by omega) (by omega) hL x1e ?_
  refine dr_aload_n la_387 rfl (Or.inr (Or.inr ⟨_, rfl⟩)) ?_
  refine dr_iload la_388 rfl ?_
  refine di_const la_390 ?_
  refine di_iadd la_391 ?_
  refine dr_xldE la_392 (by omega) (by omega) hL x2e ?_
  refine dr_aload_n la_393 rfl (Or.inr (Or.inr ⟨_, rfl⟩)) ?_
  refine dr_iload la_394 rfl ?_
  refine di_const la_396 ?_
  refine di_iadd la_397 ?_
  refine dr_xldE la_398 (by omega) (by omega) hL x3e ?_
  refine dr_aload_n la_399 rfl (Or.inr (Or.inr ⟨_, rfl⟩)) ?_
  refine dr_iload la_400 rfl ?_
  refine di_const la_402 ?_
  refine di_iadd la_403 ?_
  refine dr_xldE la_404 (by omega) (by omega) hL x4e ?_
  refine di_aload_n la_405 rfl ?_
  refine dr_statH la_406 rfl (by decide +kernel) rfl (t_L_more l hl hI hS (by omega) (a1 := x1) (by omega) (by omega) (a2 := x2) (by omega) (by omega) (a3 := x3) (by omega) (by omega) (a4 := x4) (by omega) (by omega)) (by decide) (by omega) (by omega) (Nat.le_of_ble_eq_true rfl) kQLN (kQL (fun h11 hI12 hF13 hS14 hq16 ho17 => ?_))
  have hM15 := MSt_FL hM hF13
  refine di_istore (ls2 := [some (.retAddr 2), some (.ref 0), some (.ref 26), some (.ref 36), some (dI i), some (dI (spMore σ x1 x2 x3 x4).1), none]) la_409 rfl rfl ?_
  refine di_aload_n la_411 rfl ?_
  refine dr_aload_n la_412 rfl (Or.inr (Or.inr ⟨_, rfl⟩)) ?_
  refine dr_iload la_413 rfl ?_
  refine di_const la_415 ?_
  refine di_iadd la_416 ?_
  refine dr_xldE la_417 (by omega) (by omega) hL x1e ?_
  refine dr_aload_n la_418 rfl (Or.inr (Or.inr ⟨_, rfl⟩)) ?_
  refine dr_iload la_419 rfl ?_
  refine di_const la_421 ?_
  refine di_iadd la_422 ?_
  refine dr_xldE la_423 (by omega) (by omega) hL x2e ?_
  refine dr_aload_n la_424 rfl (Or.inr (Or.inr ⟨_, rfl⟩)) ?_
  refine dr_iload la_425 rfl ?_
  refine di_const la_427 ?_
  refine di_iadd la_428 ?_
  refine dr_xldE la_429 (by omega) (by omega) hL x3e ?_
  refine dr_aload_n la_430 rfl (Or.inr (Or.inr ⟨_, rfl⟩)) ?_
  refine dr_iload la_431 rfl ?_
  refine di_const la_433 ?_
  refine di_iadd la_434 ?_
  refine dr_xldE la_435 (by omega) (by omega) hL x4e ?_
  obtain ⟨nic23, c23, -⟩ := hM15.1
  refine dr_virt la_436 rfl rfl rfl c23 (n_X8_more l hl hI12 hM15 (a1 := x1) (by omega) (by omega) (a2 := x2) (by omega) (by omega) (a3 := x3) (by omega) (by omega) (a4 := x4) (by omega) (by omega) ) (by decide) (by omega) (by omega) (Nat.le_of_ble_eq_true rfl) kQM9N (kQM9 (fun a24 h18 hI19 hF20 hM22 a24a a24b a24e => ?_))
  have hS21 := CSt_FrM2 hS14 hF20
  refine di_istore (ls2 := [some (.retAddr 2), some (.ref 0), some (.ref 26), some (.ref 36), some (dI i), some (dI (spMore σ x1 x2 x3 x4).1), some (dI a24)]) la_439 rfl rfl ?_
  refine dr_goto la_441 rfl ?_
  refine dm_wk (ls2 := [some (.retAddr 2), some (.ref 0), some (.ref 26), some (.ref 36), some (dI i), none, none]) ⟨Or.inr rfl, Or.inr rfl, Or.inr rfl, Or.inr rfl, Or.inr rfl, Or.inl rfl, Or.inl rfl, trivial⟩ ?_
  refine dm_cew (ce2 := ce + 2000) (sl2 := sl + 60000) (by omega) (by omega) ?_
  exact K _ _ _ _ _ hI19 hS21 hM22 (by omega)
set_option maxHeartbeats 4000000 in
set_option maxRecDepth 100000 in
theorem lw_c3 (l : Launch) (hl : l.stackTraces = false) {L : Nat} {xs : Nat → Int32} (hL : L ≤ 384) {kc : Int} {h : dm_H} {B : Int} {σ : St} {th : Int} (hI : Inv kc kc h) (hS : CSt B σ h) (hM : MSt kc th σ h) {i : Int} (hi0 : 0 ≤ i) (hi6 : i + 6 ≤ L) (hB : 6 * B ≤ 20 * i) {ce sl : Nat} (hce : ce + 2000 ≤ 1200128) (hsl : sl + 60000 ≤ 5501098) (K : lw_K l L xs i (ce + 2000) (sl + 60000)) : dm_W (lw_E L xs) lw_PL l 329 420 1200128 5501098 444 [some (.retAddr 2), some (.ref 0), some (.ref 26), some (.ref 36), some (dI i), none, none] [] h ce sl := by
  obtain ⟨x1, x1a, x1b, x1e⟩ := sv_x xs (i + 1)
  obtain ⟨x2, x2a, x2b, x2e⟩ := sv_x xs (i + 2)
  obtain ⟨x3, x3a, x3b, x3e⟩ := sv_x xs (i + 3)
  obtain ⟨x4, x4a, x4b, x4e⟩ := sv_x xs (i + 4)
  refine di_aload_n la_444 rfl ?_
  refine dr_aload_n la_445 rfl (Or.inr (Or.inr ⟨_, rfl⟩)) ?_
  refine dr_iload la_446 rfl ?_
  refine di_const la_448 ?_
  refine di_iadd la_449 ?_
  refine dr_xldE la_450 (by omega) (by omega) hL x1e ?_
  refine dr_aload_n la_451 rfl (Or.inr (Or.inr ⟨_, rfl⟩)) ?_
  refine dr_iload la_452 rfl ?_
  refine di_const la_454 ?_
  refine di_iadd la_455 ?_
  refine dr_xldE la_456 (by omega) (by omega) hL x2e ?_
  refine dr_aload_n la_457 rfl (Or.inr (Or.inr ⟨_, rfl⟩)) ?_
  refine dr_iload la_458 rfl ?_
  refine di_const la_460 ?_
  refine di_iadd la_461 ?_
  refine dr_xldE la_462 (by omega) (by omega) hL x3e ?_
  refine dr_aload_n la_463 rfl (Or.inr (Or.inr ⟨_, rfl⟩)) ?_
  refine dr_iload la_464 rfl ?_
  refine di_const la_466 ?_
  refine di_iadd la_467 ?_
  refine dr_xldE la_468 (by omega) (by omega) hL x4e ?_
  refine di_aload_n la_469 rfl ?_
  refine dr_statH la_470 rfl (by decide +kernel) rfl (t_L_change l hl hI hS (by omega) (a1 := x1) (by omega) (by omega) (a2 := x2) (by omega) (by omega) (a3 := x3) (by omega) (by omega) (a4 := x4) (by omega) (by omega)) (by decide) (by omega) (by omega) (Nat.le_of_ble_eq_true rfl) kQLN (kQL (fun h11 hI12 hF13 hS14 hq16 ho17 => ?_))
  have hM15 := MSt_FL hM hF13
  refine di_istore (ls2 := [some (.retAddr 2), some (.ref 0), some (.ref 26), some (.ref 36), some (dI i), some (dI (spChange σ x1 x2 x3 x4).1), none]) la_473 rfl rfl ?_
  refine di_aload_n la_475 rfl ?_
  refine dr_aload_n la_476 rfl (Or.inr (Or.inr ⟨_, rfl⟩)) ?_
  refine dr_iload la_477 rfl ?_
  refine di_const la_479 ?_
  refine di_iadd la_480 ?_
  refine dr_xldE la_481 (by omega) (by omega) hL x1e ?_
  refine dr_aload_n la_482 rfl (Or.inr (Or.inr ⟨_, rfl⟩)) ?_
  refine dr_iload la_483 rfl ?_
  refine di_const la_485 ?_
  refine di_iadd la_486 ?_
  refine dr_xldE la_487 (by omega) (by omega) hL x2e ?_
  refine dr_aload_n la_488 rfl (Or.inr (Or.inr ⟨_, rfl⟩)) ?_
  refine dr_iload la_489 rfl ?_
  refine di_const la_491 ?_
  refine di_iadd la_492 ?_
  refine dr_xldE la_493 (by omega) (by omega) hL x3e ?_
  refine dr_aload_n la_494 rfl (Or.inr (Or.inr ⟨_, rfl⟩)) ?_
  refine dr_iload la_495 rfl ?_
  refine di_const la_497 ?_
  refine di_iadd la_498 ?_
  refine dr_xldE la_499 (by omega) (by omega) hL x4e ?_
  obtain ⟨nic23, c23, -⟩ := hM15.1
  refine dr_virt la_500 rfl rfl rfl c23 (n_X8_change l hl hI12 hM15 (a1 := x1) (by omega) (by omega) (a2 := x2) (by omega) (by omega) (a3 := x3) (by omega) (by omega) (a4 := x4) (by omega) (by omega) ) (by decide) (by omega) (by omega) (Nat.le_of_ble_eq_true rfl) kQM9N (kQM9 (fun a24 h18 hI19 hF20 hM22 a24a a24b a24e => ?_))
  have hS21 := CSt_FrM2 hS14 hF20
  refine di_istore (ls2 := [some (.retAddr 2), some (.ref 0), some (.ref 26), some (.ref 36), some (dI i), some (dI (spChange σ x1 x2 x3 x4).1), some (dI a24)]) la_503 rfl rfl ?_
  refine dr_goto la_505 rfl ?_
  refine dm_wk (ls2 := [some (.retAddr 2), some (.ref 0), some (.ref 26), some (.ref 36), some (dI i), none, none]) ⟨Or.inr rfl, Or.inr rfl, Or.inr rfl, Or.inr rfl, Or.inr rfl, Or.inl rfl, Or.inl rfl, trivial⟩ ?_
  refine dm_cew (ce2 := ce + 2000) (sl2 := sl + 60000) (by omega) (by omega) ?_
  exact K _ _ _ _ _ hI19 hS21 hM22 (by omega)
set_option maxHeartbeats 4000000 in
set_option maxRecDepth 100000 in
theorem lw_c4 (l : Launch) (hl : l.stackTraces = false) {L : Nat} {xs : Nat → Int32} (hL : L ≤ 384) {kc : Int} {h : dm_H} {B : Int} {σ : St} {th : Int} (hI : Inv kc kc h) (hS : CSt B σ h) (hM : MSt kc th σ h) {i : Int} (hi0 : 0 ≤ i) (hi6 : i + 6 ≤ L) (hB : 6 * B ≤ 20 * i) {ce sl : Nat} (hce : ce + 2000 ≤ 1200128) (hsl : sl + 60000 ≤ 5501098) (K : lw_K l L xs i (ce + 2000) (sl + 60000)) : dm_W (lw_E L xs) lw_PL l 329 420 1200128 5501098 508 [some (.retAddr 2), some (.ref 0), some (.ref 26), some (.ref 36), some (dI i), none, none] [] h ce sl := by
  obtain ⟨x1, x1a, x1b, x1e⟩ := sv_x xs (i + 1)
  obtain ⟨x2, x2a, x2b, x2e⟩ := sv_x xs (i + 2)
  obtain ⟨x3, x3a, x3b, x3e⟩ := sv_x xs (i + 3)
  obtain ⟨x4, x4a, x4b, x4e⟩ := sv_x xs (i + 4)
  obtain ⟨x5, x5a, x5b, x5e⟩ := sv_x xs (i + 5)
  refine di_aload_n la_508 rfl ?_
  refine dr_aload_n la_509 rfl (Or.inr (Or.inr ⟨_, rfl⟩)) ?_
  refine dr_iload la_510 rfl ?_
  refine di_const la_512 ?_
  refine di_iadd la_513 ?_
  refine dr_xldE la_514 (by omega) (by omega) hL x1e ?_
  refine dr_aload_n la_515 rfl (Or.inr (Or.inr ⟨_, rfl⟩)) ?_
  refine dr_iload la_516 rfl ?_
  refine di_const la_518 ?_
  refine di_iadd la_519 ?_
  refine dr_xldE la_520 (by omega) (by omega) hL x2e ?_
  refine dr_aload_n la_521 rfl (Or.inr (Or.inr ⟨_, rfl⟩)) ?_
  refine dr_iload la_522 rfl ?_
  refine di_const la_524 ?_
  refine di_iadd la_525 ?_
  refine dr_xldE la_526 (by omega) (by omega) hL x3e ?_
  refine dr_aload_n la_527 rfl (Or.inr (Or.inr ⟨_, rfl⟩)) ?_
  refine dr_iload la_528 rfl ?_
  refine di_const la_530 ?_
  refine di_iadd la_531 ?_
  refine dr_xldE la_532 (by omega) (by omega) hL x4e ?_
  refine dr_aload_n la_533 rfl (Or.inr (Or.inr ⟨_, rfl⟩)) ?_
  refine dr_iload la_534 rfl ?_
  refine di_const la_536 ?_
  refine di_iadd la_537 ?_
  refine dr_xldE la_538 (by omega) (by omega) hL x5e ?_
  refine di_aload_n la_539 rfl ?_
  refine dr_statH la_540 rfl (by decide +kernel) rfl (t_L_changeIf l hl hI hS (by omega) (a1 := x1) (by omega) (by omega) (a2 := x2) (by omega) (by omega) (a3 := x3) (by omega) (by omega) (a4 := x4) (by omega) (by omega) (a5 := x5) (by omega) (by omega)) (by decide) (by omega) (by omega) (Nat.le_of_ble_eq_true rfl) kQLN (kQL (fun h11 hI12 hF13 hS14 hq16 ho17 => ?_))
  have hM15 := MSt_FL hM hF13
  refine di_istore (ls2 := [some (.retAddr 2), some (.ref 0), some (.ref 26), some (.ref 36), some (dI i), some (dI (spChangeIf σ x1 x2 x3 x4 x5).1), none]) la_543 rfl rfl ?_
  refine di_aload_n la_545 rfl ?_
  refine dr_aload_n la_546 rfl (Or.inr (Or.inr ⟨_, rfl⟩)) ?_
  refine dr_iload la_547 rfl ?_
  refine di_const la_549 ?_
  refine di_iadd la_550 ?_
  refine dr_xldE la_551 (by omega) (by omega) hL x1e ?_
  refine dr_aload_n la_552 rfl (Or.inr (Or.inr ⟨_, rfl⟩)) ?_
  refine dr_iload la_553 rfl ?_
  refine di_const la_555 ?_
  refine di_iadd la_556 ?_
  refine dr_xldE la_557 (by omega) (by omega) hL x2e ?_
  refine dr_aload_n la_558 rfl (Or.inr (Or.inr ⟨_, rfl⟩)) ?_
  refine dr_iload la_559 rfl ?_
  refine di_const la_561 ?_
  refine di_iadd la_562 ?_
  refine dr_xldE la_563 (by omega) (by omega) hL x3e ?_
  refine dr_aload_n la_564 rfl (Or.inr (Or.inr ⟨_, rfl⟩)) ?_
  refine dr_iload la_565 rfl ?_
  refine di_const la_567 ?_
  refine di_iadd la_568 ?_
  refine dr_xldE la_569 (by omega) (by omega) hL x4e ?_
  refine dr_aload_n la_570 rfl (Or.inr (Or.inr ⟨_, rfl⟩)) ?_
  refine dr_iload la_571 rfl ?_
  refine di_const la_573 ?_
  refine di_iadd la_574 ?_
  refine dr_xldE la_575 (by omega) (by omega) hL x5e ?_
  obtain ⟨nic23, c23, -⟩ := hM15.1
  refine dr_virt la_576 rfl rfl rfl c23 (n_X8_changeIf l hl hI12 hM15 (a1 := x1) (by omega) (by omega) (a2 := x2) (by omega) (by omega) (a3 := x3) (by omega) (by omega) (a4 := x4) (by omega) (by omega) (a5 := x5) (by omega) (by omega) ) (by decide) (by omega) (by omega) (Nat.le_of_ble_eq_true rfl) kQM9N (kQM9 (fun a24 h18 hI19 hF20 hM22 a24a a24b a24e => ?_))
  have hS21 := CSt_FrM2 hS14 hF20
  refine di_istore (ls2 := [some (.retAddr 2), some (.ref 0), some (.ref 26), some (.ref 36), some (dI i), some (dI (spChangeIf σ x1 x2 x3 x4 x5).1), some (dI a24)]) la_579 rfl rfl ?_
  refine dr_goto la_581 rfl ?_
  refine dm_wk (ls2 := [some (.retAddr 2), some (.ref 0), some (.ref 26), some (.ref 36), some (dI i), none, none]) ⟨Or.inr rfl, Or.inr rfl, Or.inr rfl, Or.inr rfl, Or.inr rfl, Or.inl rfl, Or.inl rfl, trivial⟩ ?_
  refine dm_cew (ce2 := ce + 2000) (sl2 := sl + 60000) (by omega) (by omega) ?_
  exact K _ _ _ _ _ hI19 hS21 hM22 (by omega)
set_option maxHeartbeats 4000000 in
set_option maxRecDepth 100000 in
theorem lw_c5 (l : Launch) (hl : l.stackTraces = false) {L : Nat} {xs : Nat → Int32} (hL : L ≤ 384) {kc : Int} {h : dm_H} {B : Int} {σ : St} {th : Int} (hI : Inv kc kc h) (hS : CSt B σ h) (hM : MSt kc th σ h) {i : Int} (hi0 : 0 ≤ i) (hi6 : i + 6 ≤ L) (hB : 6 * B ≤ 20 * i) {ce sl : Nat} (hce : ce + 2000 ≤ 1200128) (hsl : sl + 60000 ≤ 5501098) (K : lw_K l L xs i (ce + 2000) (sl + 60000)) : dm_W (lw_E L xs) lw_PL l 329 420 1200128 5501098 584 [some (.retAddr 2), some (.ref 0), some (.ref 26), some (.ref 36), some (dI i), none, none] [] h ce sl := by
  obtain ⟨x1, x1a, x1b, x1e⟩ := sv_x xs (i + 1)
  obtain ⟨x2, x2a, x2b, x2e⟩ := sv_x xs (i + 2)
  obtain ⟨x3, x3a, x3b, x3e⟩ := sv_x xs (i + 3)
  refine di_aload_n la_584 rfl ?_
  refine dr_aload_n la_585 rfl (Or.inr (Or.inr ⟨_, rfl⟩)) ?_
  refine dr_iload la_586 rfl ?_
  refine di_const la_588 ?_
  refine di_iadd la_589 ?_
  refine dr_xldE la_590 (by omega) (by omega) hL x1e ?_
  refine dr_aload_n la_591 rfl (Or.inr (Or.inr ⟨_, rfl⟩)) ?_
  refine dr_iload la_592 rfl ?_
  refine di_const la_594 ?_
  refine di_iadd la_595 ?_
  refine dr_xldE la_596 (by omega) (by omega) hL x2e ?_
  refine dr_aload_n la_597 rfl (Or.inr (Or.inr ⟨_, rfl⟩)) ?_
  refine dr_iload la_598 rfl ?_
  refine di_const la_600 ?_
  refine di_iadd la_601 ?_
  refine dr_xldE la_602 (by omega) (by omega) hL x3e ?_
  refine di_aload_n la_603 rfl ?_
  refine dr_statH la_604 rfl (by decide +kernel) rfl (t_L_take l hl hI hS (by omega) (a1 := x1) (by omega) (by omega) (a2 := x2) (by omega) (by omega) (a3 := x3) (by omega) (by omega)) (by decide) (by omega) (by omega) (Nat.le_of_ble_eq_true rfl) kQLN (kQL (fun h11 hI12 hF13 hS14 hq16 ho17 => ?_))
  have hM15 := MSt_FL hM hF13
  refine di_istore (ls2 := [some (.retAddr 2), some (.ref 0), some (.ref 26), some (.ref 36), some (dI i), some (dI (spTake σ x1 x2 x3).1), none]) la_607 rfl rfl ?_
  refine di_aload_n la_609 rfl ?_
  refine dr_aload_n la_610 rfl (Or.inr (Or.inr ⟨_, rfl⟩)) ?_
  refine dr_iload la_611 rfl ?_
  refine di_const la_613 ?_
  refine di_iadd la_614 ?_
  refine dr_xldE la_615 (by omega) (by omega) hL x1e ?_
  refine dr_aload_n la_616 rfl (Or.inr (Or.inr ⟨_, rfl⟩)) ?_
  refine dr_iload la_617 rfl ?_
  refine di_const la_619 ?_
  refine di_iadd la_620 ?_
  refine dr_xldE la_621 (by omega) (by omega) hL x2e ?_
  refine dr_aload_n la_622 rfl (Or.inr (Or.inr ⟨_, rfl⟩)) ?_
  refine dr_iload la_623 rfl ?_
  refine di_const la_625 ?_
  refine di_iadd la_626 ?_
  refine dr_xldE la_627 (by omega) (by omega) hL x3e ?_
  obtain ⟨nic23, c23, -⟩ := hM15.1
  refine dr_virt la_628 rfl rfl rfl c23 (n_X8_take l hl hI12 hM15 (a1 := x1) (by omega) (by omega) (a2 := x2) (by omega) (by omega) (a3 := x3) (by omega) (by omega) ) (by decide) (by omega) (by omega) (Nat.le_of_ble_eq_true rfl) kQM9N (kQM9 (fun a24 h18 hI19 hF20 hM22 a24a a24b a24e => ?_))
  have hS21 := CSt_FrM2 hS14 hF20
  refine di_istore (ls2 := [some (.retAddr 2), some (.ref 0), some (.ref 26), some (.ref 36), some (dI i), some (dI (spTake σ x1 x2 x3).1), some (dI a24)]) la_631 rfl rfl ?_
  refine dr_goto la_633 rfl ?_
  refine dm_wk (ls2 := [some (.retAddr 2), some (.ref 0), some (.ref 26), some (.ref 36), some (dI i), none, none]) ⟨Or.inr rfl, Or.inr rfl, Or.inr rfl, Or.inr rfl, Or.inr rfl, Or.inl rfl, Or.inl rfl, trivial⟩ ?_
  refine dm_cew (ce2 := ce + 2000) (sl2 := sl + 60000) (by omega) (by omega) ?_
  exact K _ _ _ _ _ hI19 hS21 hM22 (by omega)
set_option maxHeartbeats 4000000 in
set_option maxRecDepth 100000 in
theorem lw_c6 (l : Launch) (hl : l.stackTraces = false) {L : Nat} {xs : Nat → Int32} (hL : L ≤ 384) {kc : Int} {h : dm_H} {B : Int} {σ : St} {th : Int} (hI : Inv kc kc h) (hS : CSt B σ h) (hM : MSt kc th σ h) {i : Int} (hi0 : 0 ≤ i) (hi6 : i + 6 ≤ L) (hB : 6 * B ≤ 20 * i) {ce sl : Nat} (hce : ce + 2000 ≤ 1200128) (hsl : sl + 60000 ≤ 5501098) (K : lw_K l L xs i (ce + 2000) (sl + 60000)) : dm_W (lw_E L xs) lw_PL l 329 420 1200128 5501098 636 [some (.retAddr 2), some (.ref 0), some (.ref 26), some (.ref 36), some (dI i), none, none] [] h ce sl := by
  obtain ⟨x1, x1a, x1b, x1e⟩ := sv_x xs (i + 1)
  obtain ⟨x2, x2a, x2b, x2e⟩ := sv_x xs (i + 2)
  obtain ⟨x3, x3a, x3b, x3e⟩ := sv_x xs (i + 3)
  obtain ⟨x4, x4a, x4b, x4e⟩ := sv_x xs (i + 4)
  refine di_aload_n la_636 rfl ?_
  refine dr_aload_n la_637 rfl (Or.inr (Or.inr ⟨_, rfl⟩)) ?_
  refine dr_iload la_638 rfl ?_
  refine di_const la_640 ?_
  refine di_iadd la_641 ?_
  refine dr_xldE la_642 (by omega) (by omega) hL x1e ?_
  refine dr_aload_n la_643 rfl (Or.inr (Or.inr ⟨_, rfl⟩)) ?_
  refine dr_iload la_644 rfl ?_
  refine di_const la_646 ?_
  refine di_iadd la_647 ?_
  refine dr_xldE la_648 (by omega) (by omega) hL x2e ?_
  refine dr_aload_n la_649 rfl (Or.inr (Or.inr ⟨_, rfl⟩)) ?_
  refine dr_iload la_650 rfl ?_
  refine di_const la_652 ?_
  refine di_iadd la_653 ?_
  refine dr_xldE la_654 (by omega) (by omega) hL x3e ?_
  refine dr_aload_n la_655 rfl (Or.inr (Or.inr ⟨_, rfl⟩)) ?_
  refine dr_iload la_656 rfl ?_
  refine di_const la_658 ?_
  refine di_iadd la_659 ?_
  refine dr_xldE la_660 (by omega) (by omega) hL x4e ?_
  refine di_aload_n la_661 rfl ?_
  refine dr_statH la_662 rfl (by decide +kernel) rfl (t_L_takeIf l hl hI hS (by omega) (a1 := x1) (by omega) (by omega) (a2 := x2) (by omega) (by omega) (a3 := x3) (by omega) (by omega) (a4 := x4) (by omega) (by omega)) (by decide) (by omega) (by omega) (Nat.le_of_ble_eq_true rfl) kQLN (kQL (fun h11 hI12 hF13 hS14 hq16 ho17 => ?_))
  have hM15 := MSt_FL hM hF13
  refine di_istore (ls2 := [some (.retAddr 2), some (.ref 0), some (.ref 26), some (.ref 36), some (dI i), some (dI (spTakeIf σ x1 x2 x3 x4).1), none]) la_665 rfl rfl ?_
  refine di_aload_n la_667 rfl ?_
  refine dr_aload_n la_668 rfl (Or.inr (Or.inr ⟨_, rfl⟩)) ?_
  refine dr_iload la_669 rfl ?_
  refine di_const la_671 ?_
  refine di_iadd la_672 ?_
  refine dr_xldE la_673 (by omega) (by omega) hL x1e ?_
  refine dr_aload_n la_674 rfl (Or.inr (Or.inr ⟨_, rfl⟩)) ?_
  refine dr_iload la_675 rfl ?_
  refine di_const la_677 ?_
  refine di_iadd la_678 ?_
  refine dr_xldE la_679 (by omega) (by omega) hL x2e ?_
  refine dr_aload_n la_680 rfl (Or.inr (Or.inr ⟨_, rfl⟩)) ?_
  refine dr_iload la_681 rfl ?_
  refine di_const la_683 ?_
  refine di_iadd la_684 ?_
  refine dr_xldE la_685 (by omega) (by omega) hL x3e ?_
  refine dr_aload_n la_686 rfl (Or.inr (Or.inr ⟨_, rfl⟩)) ?_
  refine dr_iload la_687 rfl ?_
  refine di_const la_689 ?_
  refine di_iadd la_690 ?_
  refine dr_xldE la_691 (by omega) (by omega) hL x4e ?_
  obtain ⟨nic23, c23, -⟩ := hM15.1
  refine dr_virt la_692 rfl rfl rfl c23 (n_X8_takeIf l hl hI12 hM15 (a1 := x1) (by omega) (by omega) (a2 := x2) (by omega) (by omega) (a3 := x3) (by omega) (by omega) (a4 := x4) (by omega) (by omega) ) (by decide) (by omega) (by omega) (Nat.le_of_ble_eq_true rfl) kQM9N (kQM9 (fun a24 h18 hI19 hF20 hM22 a24a a24b a24e => ?_))
  have hS21 := CSt_FrM2 hS14 hF20
  refine di_istore (ls2 := [some (.retAddr 2), some (.ref 0), some (.ref 26), some (.ref 36), some (dI i), some (dI (spTakeIf σ x1 x2 x3 x4).1), some (dI a24)]) la_695 rfl rfl ?_
  refine dr_goto la_697 rfl ?_
  refine dm_wk (ls2 := [some (.retAddr 2), some (.ref 0), some (.ref 26), some (.ref 36), some (dI i), none, none]) ⟨Or.inr rfl, Or.inr rfl, Or.inr rfl, Or.inr rfl, Or.inr rfl, Or.inl rfl, Or.inl rfl, trivial⟩ ?_
  refine dm_cew (ce2 := ce + 2000) (sl2 := sl + 60000) (by omega) (by omega) ?_
  exact K _ _ _ _ _ hI19 hS21 hM22 (by omega)
set_option maxHeartbeats 4000000 in
set_option maxRecDepth 100000 in
theorem lw_c7 (l : Launch) (hl : l.stackTraces = false) {L : Nat} {xs : Nat → Int32} (hL : L ≤ 384) {kc : Int} {h : dm_H} {B : Int} {σ : St} {th : Int} (hI : Inv kc kc h) (hS : CSt B σ h) (hM : MSt kc th σ h) {i : Int} (hi0 : 0 ≤ i) (hi6 : i + 6 ≤ L) (hB : 6 * B ≤ 20 * i) {ce sl : Nat} (hce : ce + 2000 ≤ 1200128) (hsl : sl + 60000 ≤ 5501098) (K : lw_K l L xs i (ce + 2000) (sl + 60000)) : dm_W (lw_E L xs) lw_PL l 329 420 1200128 5501098 700 [some (.retAddr 2), some (.ref 0), some (.ref 26), some (.ref 36), some (dI i), none, none] [] h ce sl := by
  obtain ⟨x1, x1a, x1b, x1e⟩ := sv_x xs (i + 1)
  obtain ⟨x2, x2a, x2b, x2e⟩ := sv_x xs (i + 2)
  refine di_aload_n la_700 rfl ?_
  refine dr_aload_n la_701 rfl (Or.inr (Or.inr ⟨_, rfl⟩)) ?_
  refine dr_iload la_702 rfl ?_
  refine di_const la_704 ?_
  refine di_iadd la_705 ?_
  refine dr_xldE la_706 (by omega) (by omega) hL x1e ?_
  refine dr_aload_n la_707 rfl (Or.inr (Or.inr ⟨_, rfl⟩)) ?_
  refine dr_iload la_708 rfl ?_
  refine di_const la_710 ?_
  refine di_iadd la_711 ?_
  refine dr_xldE la_712 (by omega) (by omega) hL x2e ?_
  refine di_aload_n la_713 rfl ?_
  refine dr_statH la_714 rfl (by decide +kernel) rfl (t_L_takeNote l hl hI hS (by omega) (a1 := x1) (by omega) (by omega) (a2 := x2) (by omega) (by omega)) (by decide) (by omega) (by omega) (Nat.le_of_ble_eq_true rfl) kQLN (kQL (fun h11 hI12 hF13 hS14 hq16 ho17 => ?_))
  have hM15 := MSt_FL hM hF13
  refine di_istore (ls2 := [some (.retAddr 2), some (.ref 0), some (.ref 26), some (.ref 36), some (dI i), some (dI (spTakeNote σ x1 x2).1), none]) la_717 rfl rfl ?_
  refine di_aload_n la_719 rfl ?_
  refine dr_aload_n la_720 rfl (Or.inr (Or.inr ⟨_, rfl⟩)) ?_
  refine dr_iload la_721 rfl ?_
  refine di_const la_723 ?_
  refine di_iadd la_724 ?_
  refine dr_xldE la_725 (by omega) (by omega) hL x1e ?_
  refine dr_aload_n la_726 rfl (Or.inr (Or.inr ⟨_, rfl⟩)) ?_
  refine dr_iload la_727 rfl ?_
  refine di_const la_729 ?_
  refine di_iadd la_730 ?_
  refine dr_xldE la_731 (by omega) (by omega) hL x2e ?_
  obtain ⟨nic23, c23, -⟩ := hM15.1
  refine dr_virt la_732 rfl rfl rfl c23 (n_X8_takeNote l hl hI12 hM15 (a1 := x1) (by omega) (by omega) (a2 := x2) (by omega) (by omega) (CSt_sSt hS)) (by decide) (by omega) (by omega) (Nat.le_of_ble_eq_true rfl) kQM9N (kQM9 (fun a24 h18 hI19 hF20 hM22 a24a a24b a24e => ?_))
  have hS21 := CSt_FrM2 hS14 hF20
  refine di_istore (ls2 := [some (.retAddr 2), some (.ref 0), some (.ref 26), some (.ref 36), some (dI i), some (dI (spTakeNote σ x1 x2).1), some (dI a24)]) la_735 rfl rfl ?_
  refine dr_goto la_737 rfl ?_
  refine dm_wk (ls2 := [some (.retAddr 2), some (.ref 0), some (.ref 26), some (.ref 36), some (dI i), none, none]) ⟨Or.inr rfl, Or.inr rfl, Or.inr rfl, Or.inr rfl, Or.inr rfl, Or.inl rfl, Or.inl rfl, trivial⟩ ?_
  refine dm_cew (ce2 := ce + 2000) (sl2 := sl + 60000) (by omega) (by omega) ?_
  exact K _ _ _ _ _ hI19 hS21 hM22 (by omega)
set_option maxHeartbeats 4000000 in
set_option maxRecDepth 100000 in
theorem lw_c8 (l : Launch) (hl : l.stackTraces = false) {L : Nat} {xs : Nat → Int32} (hL : L ≤ 384) {kc : Int} {h : dm_H} {B : Int} {σ : St} {th : Int} (hI : Inv kc kc h) (hS : CSt B σ h) (hM : MSt kc th σ h) {i : Int} (hi0 : 0 ≤ i) (hi6 : i + 6 ≤ L) (hB : 6 * B ≤ 20 * i) {ce sl : Nat} (hce : ce + 2000 ≤ 1200128) (hsl : sl + 60000 ≤ 5501098) (K : lw_K l L xs i (ce + 2000) (sl + 60000)) : dm_W (lw_E L xs) lw_PL l 329 420 1200128 5501098 740 [some (.retAddr 2), some (.ref 0), some (.ref 26), some (.ref 36), some (dI i), none, none] [] h ce sl := by
  obtain ⟨x1, x1a, x1b, x1e⟩ := sv_x xs (i + 1)
  obtain ⟨x2, x2a, x2b, x2e⟩ := sv_x xs (i + 2)
  refine di_aload_n la_740 rfl ?_
  refine dr_aload_n la_741 rfl (Or.inr (Or.inr ⟨_, rfl⟩)) ?_
  refine dr_iload la_742 rfl ?_
  refine di_const la_744 ?_
  refine di_iadd la_745 ?_
  refine dr_xldE la_746 (by omega) (by omega) hL x1e ?_
  refine dr_aload_n la_747 rfl (Or.inr (Or.inr ⟨_, rfl⟩)) ?_
  refine dr_iload la_748 rfl ?_
  refine di_const la_750 ?_
  refine di_iadd la_751 ?_
  refine dr_xldE la_752 (by omega) (by omega) hL x2e ?_
  refine di_if_eq la_753 rfl (by omega) (by omega) (fun cz11 => ?_) (fun cz11 => ?_)
  · skip
    refine di_const la_760 ?_
    refine di_aload_n la_761 rfl ?_
    refine dr_statH la_762 rfl (by decide +kernel) rfl (t_L_draw l hl hI hS (by omega) (a1 := x1) (by omega) (by omega) (a2 := 0) (by omega) (by omega)) (by decide) (by omega) (by omega) (Nat.le_of_ble_eq_true rfl) kQLN (kQL (fun h12 hI13 hF14 hS15 hq17 ho18 => ?_))
    have hM16 := MSt_FL hM hF14
    refine di_istore (ls2 := [some (.retAddr 2), some (.ref 0), some (.ref 26), some (.ref 36), some (dI i), some (dI (spDraw σ x1 0).1), none]) la_765 rfl rfl ?_
    refine di_aload_n la_767 rfl ?_
    refine dr_aload_n la_768 rfl (Or.inr (Or.inr ⟨_, rfl⟩)) ?_
    refine dr_iload la_769 rfl ?_
    refine di_const la_771 ?_
    refine di_iadd la_772 ?_
    refine dr_xldE la_773 (by omega) (by omega) hL x1e ?_
    refine dr_aload_n la_774 rfl (Or.inr (Or.inr ⟨_, rfl⟩)) ?_
    refine dr_iload la_775 rfl ?_
    refine di_const la_777 ?_
    refine di_iadd la_778 ?_
    refine dr_xldE la_779 (by omega) (by omega) hL x2e ?_
    refine di_if_eq la_780 rfl (by omega) (by omega) (fun _ => ?_) (fun c9 => absurd cz11 c9)
    refine di_const la_787 ?_
    obtain ⟨nic24, c24, -⟩ := hM16.1
    refine dr_virt la_788 rfl rfl rfl c24 (n_X8_draw l hl hI13 hM16 (a1 := x1) (by omega) (by omega) (a2 := 0) (by omega) (by omega) (CSt_sSt hS)) (by decide) (by omega) (by omega) (Nat.le_of_ble_eq_true rfl) kQM9N (kQM9 (fun a25 h19 hI20 hF21 hM23 a25a a25b a25e => ?_))
    have hS22 := CSt_FrM2 hS15 hF21
    refine di_istore (ls2 := [some (.retAddr 2), some (.ref 0), some (.ref 26), some (.ref 36), some (dI i), some (dI (spDraw σ x1 0).1), some (dI a25)]) la_791 rfl rfl ?_
    refine dr_goto la_793 rfl ?_
    refine dm_wk (ls2 := [some (.retAddr 2), some (.ref 0), some (.ref 26), some (.ref 36), some (dI i), none, none]) ⟨Or.inr rfl, Or.inr rfl, Or.inr rfl, Or.inr rfl, Or.inr rfl, Or.inl rfl, Or.inl rfl, trivial⟩ ?_
    refine dm_cew (ce2 := ce + 2000) (sl2 := sl + 60000) (by omega) (by omega) ?_
    exact K _ _ _ _ _ hI20 hS22 hM23 (by omega)
  · skip
    refine di_const la_756 ?_
    refine dr_goto la_757 rfl ?_
    refine di_aload_n la_761 rfl ?_
    refine dr_statH la_762 rfl (by decide +kernel) rfl (t_L_draw l hl hI hS (by omega) (a1 := x1) (by omega) (by omega) (a2 := 1) (by omega) (by omega)) (by decide) (by omega) (by omega) (Nat.le_of_ble_eq_true rfl) kQLN (kQL (fun h26 hI27 hF28 hS29 hq31 ho32 => ?_))
    have hM30 := MSt_FL hM hF28
    refine di_istore (ls2 := [some (.retAddr 2), some (.ref 0), some (.ref 26), some (.ref 36), some (dI i), some (dI (spDraw σ x1 1).1), none]) la_765 rfl rfl ?_
    refine di_aload_n la_767 rfl ?_
    refine dr_aload_n la_768 rfl (Or.inr (Or.inr ⟨_, rfl⟩)) ?_
    refine dr_iload la_769 rfl ?_
    refine di_const la_771 ?_
    refine di_iadd la_772 ?_
    refine dr_xldE la_773 (by omega) (by omega) hL x1e ?_
    refine dr_aload_n la_774 rfl (Or.inr (Or.inr ⟨_, rfl⟩)) ?_
    refine dr_iload la_775 rfl ?_
    refine di_const la_777 ?_
    refine di_iadd la_778 ?_
    refine dr_xldE la_779 (by omega) (by omega) hL x2e ?_
    refine di_if_eq la_780 rfl (by omega) (by omega) (fun c9 => absurd c9 cz11) (fun _ => ?_)
    refine di_const la_783 ?_
    refine dr_goto la_784 rfl ?_
    obtain ⟨nic38, c38, -⟩ := hM30.1
    refine dr_virt la_788 rfl rfl rfl c38 (n_X8_draw l hl hI27 hM30 (a1 := x1) (by omega) (by omega) (a2 := 1) (by omega) (by omega) (CSt_sSt hS)) (by decide) (by omega) (by omega) (Nat.le_of_ble_eq_true rfl) kQM9N (kQM9 (fun a39 h33 hI34 hF35 hM37 a39a a39b a39e => ?_))
    have hS36 := CSt_FrM2 hS29 hF35
    refine di_istore (ls2 := [some (.retAddr 2), some (.ref 0), some (.ref 26), some (.ref 36), some (dI i), some (dI (spDraw σ x1 1).1), some (dI a39)]) la_791 rfl rfl ?_
    refine dr_goto la_793 rfl ?_
    refine dm_wk (ls2 := [some (.retAddr 2), some (.ref 0), some (.ref 26), some (.ref 36), some (dI i), none, none]) ⟨Or.inr rfl, Or.inr rfl, Or.inr rfl, Or.inr rfl, Or.inr rfl, Or.inl rfl, Or.inl rfl, trivial⟩ ?_
    refine dm_cew (ce2 := ce + 2000) (sl2 := sl + 60000) (by omega) (by omega) ?_
    exact K _ _ _ _ _ hI34 hS36 hM37 (by omega)
set_option maxHeartbeats 4000000 in
set_option maxRecDepth 100000 in
theorem lw_c9 (l : Launch) (hl : l.stackTraces = false) {L : Nat} {xs : Nat → Int32} (hL : L ≤ 384) {kc : Int} {h : dm_H} {B : Int} {σ : St} {th : Int} (hI : Inv kc kc h) (hS : CSt B σ h) (hM : MSt kc th σ h) {i : Int} (hi0 : 0 ≤ i) (hi6 : i + 6 ≤ L) (hB : 6 * B ≤ 20 * i) {ce sl : Nat} (hce : ce + 2000 ≤ 1200128) (hsl : sl + 60000 ≤ 5501098) (K : lw_K l L xs i (ce + 2000) (sl + 60000)) : dm_W (lw_E L xs) lw_PL l 329 420 1200128 5501098 796 [some (.retAddr 2), some (.ref 0), some (.ref 26), some (.ref 36), some (dI i), none, none] [] h ce sl := by
  obtain ⟨x1, x1a, x1b, x1e⟩ := sv_x xs (i + 1)
  refine di_aload_n la_796 rfl ?_
  refine dr_aload_n la_797 rfl (Or.inr (Or.inr ⟨_, rfl⟩)) ?_
  refine dr_iload la_798 rfl ?_
  refine di_const la_800 ?_
  refine di_iadd la_801 ?_
  refine dr_xldE la_802 (by omega) (by omega) hL x1e ?_
  refine di_aload_n la_803 rfl ?_
  refine dr_statH la_804 rfl (by decide +kernel) rfl (t_L_clear l hl hI hS (by omega) (a1 := x1) (by omega) (by omega)) (by decide) (by omega) (by omega) (Nat.le_of_ble_eq_true rfl) kQLN (kQL (fun h11 hI12 hF13 hS14 hq16 ho17 => ?_))
  have hM15 := MSt_FL hM hF13
  refine di_istore (ls2 := [some (.retAddr 2), some (.ref 0), some (.ref 26), some (.ref 36), some (dI i), some (dI (spClear σ x1).1), none]) la_807 rfl rfl ?_
  refine di_aload_n la_809 rfl ?_
  refine dr_aload_n la_810 rfl (Or.inr (Or.inr ⟨_, rfl⟩)) ?_
  refine dr_iload la_811 rfl ?_
  refine di_const la_813 ?_
  refine di_iadd la_814 ?_
  refine dr_xldE la_815 (by omega) (by omega) hL x1e ?_
  obtain ⟨nic23, c23, -⟩ := hM15.1
  refine dr_virt la_816 rfl rfl rfl c23 (n_X8_clear l hl hI12 hM15 (a1 := x1) (by omega) (by omega) ) (by decide) (by omega) (by omega) (Nat.le_of_ble_eq_true rfl) kQM9N (kQM9 (fun a24 h18 hI19 hF20 hM22 a24a a24b a24e => ?_))
  have hS21 := CSt_FrM2 hS14 hF20
  refine di_istore (ls2 := [some (.retAddr 2), some (.ref 0), some (.ref 26), some (.ref 36), some (dI i), some (dI (spClear σ x1).1), some (dI a24)]) la_819 rfl rfl ?_
  refine dr_goto la_821 rfl ?_
  refine dm_wk (ls2 := [some (.retAddr 2), some (.ref 0), some (.ref 26), some (.ref 36), some (dI i), none, none]) ⟨Or.inr rfl, Or.inr rfl, Or.inr rfl, Or.inr rfl, Or.inr rfl, Or.inl rfl, Or.inl rfl, trivial⟩ ?_
  refine dm_cew (ce2 := ce + 2000) (sl2 := sl + 60000) (by omega) (by omega) ?_
  exact K _ _ _ _ _ hI19 hS21 hM22 (by omega)
set_option maxHeartbeats 4000000 in
set_option maxRecDepth 100000 in
theorem lw_c10 (l : Launch) (hl : l.stackTraces = false) {L : Nat} {xs : Nat → Int32} (hL : L ≤ 384) {kc : Int} {h : dm_H} {B : Int} {σ : St} {th : Int} (hI : Inv kc kc h) (hS : CSt B σ h) (hM : MSt kc th σ h) {i : Int} (hi0 : 0 ≤ i) (hi6 : i + 6 ≤ L) (hB : 6 * B ≤ 20 * i) {ce sl : Nat} (hce : ce + 2000 ≤ 1200128) (hsl : sl + 60000 ≤ 5501098) (K : lw_K l L xs i (ce + 2000) (sl + 60000)) : dm_W (lw_E L xs) lw_PL l 329 420 1200128 5501098 824 [some (.retAddr 2), some (.ref 0), some (.ref 26), some (.ref 36), some (dI i), none, none] [] h ce sl := by
  obtain ⟨x1, x1a, x1b, x1e⟩ := sv_x xs (i + 1)
  obtain ⟨x2, x2a, x2b, x2e⟩ := sv_x xs (i + 2)
  refine di_aload_n la_824 rfl ?_
  refine dr_aload_n la_825 rfl (Or.inr (Or.inr ⟨_, rfl⟩)) ?_
  refine dr_iload la_826 rfl ?_
  refine di_const la_828 ?_
  refine di_iadd la_829 ?_
  refine dr_xldE la_830 (by omega) (by omega) hL x1e ?_
  refine dr_aload_n la_831 rfl (Or.inr (Or.inr ⟨_, rfl⟩)) ?_
  refine dr_iload la_832 rfl ?_
  refine di_const la_834 ?_
  refine di_iadd la_835 ?_
  refine dr_xldE la_836 (by omega) (by omega) hL x2e ?_
  refine di_aload_n la_837 rfl ?_
  refine dr_statH la_838 rfl (by decide +kernel) rfl (t_L_pour l hl hI hS (by omega) (a1 := x1) (by omega) (by omega) (a2 := x2) (by omega) (by omega)) (by decide) (by omega) (by omega) (Nat.le_of_ble_eq_true rfl) kQLN (kQL (fun h11 hI12 hF13 hS14 hq16 ho17 => ?_))
  have hM15 := MSt_FL hM hF13
  refine di_istore (ls2 := [some (.retAddr 2), some (.ref 0), some (.ref 26), some (.ref 36), some (dI i), some (dI (spPour σ x1 x2).1), none]) la_841 rfl rfl ?_
  refine di_aload_n la_843 rfl ?_
  refine dr_aload_n la_844 rfl (Or.inr (Or.inr ⟨_, rfl⟩)) ?_
  refine dr_iload la_845 rfl ?_
  refine di_const la_847 ?_
  refine di_iadd la_848 ?_
  refine dr_xldE la_849 (by omega) (by omega) hL x1e ?_
  refine dr_aload_n la_850 rfl (Or.inr (Or.inr ⟨_, rfl⟩)) ?_
  refine dr_iload la_851 rfl ?_
  refine di_const la_853 ?_
  refine di_iadd la_854 ?_
  refine dr_xldE la_855 (by omega) (by omega) hL x2e ?_
  obtain ⟨nic23, c23, -⟩ := hM15.1
  refine dr_virt la_856 rfl rfl rfl c23 (n_X8_pour l hl hI12 hM15 (a1 := x1) (by omega) (by omega) (a2 := x2) (by omega) (by omega) ) (by decide) (by omega) (by omega) (Nat.le_of_ble_eq_true rfl) kQM9N (kQM9 (fun a24 h18 hI19 hF20 hM22 a24a a24b a24e => ?_))
  have hS21 := CSt_FrM2 hS14 hF20
  refine di_istore (ls2 := [some (.retAddr 2), some (.ref 0), some (.ref 26), some (.ref 36), some (dI i), some (dI (spPour σ x1 x2).1), some (dI a24)]) la_859 rfl rfl ?_
  refine dr_goto la_861 rfl ?_
  refine dm_wk (ls2 := [some (.retAddr 2), some (.ref 0), some (.ref 26), some (.ref 36), some (dI i), none, none]) ⟨Or.inr rfl, Or.inr rfl, Or.inr rfl, Or.inr rfl, Or.inr rfl, Or.inl rfl, Or.inl rfl, trivial⟩ ?_
  refine dm_cew (ce2 := ce + 2000) (sl2 := sl + 60000) (by omega) (by omega) ?_
  exact K _ _ _ _ _ hI19 hS21 hM22 (by omega)
set_option maxHeartbeats 4000000 in
set_option maxRecDepth 100000 in
theorem lw_c11 (l : Launch) (hl : l.stackTraces = false) {L : Nat} {xs : Nat → Int32} (hL : L ≤ 384) {kc : Int} {h : dm_H} {B : Int} {σ : St} {th : Int} (hI : Inv kc kc h) (hS : CSt B σ h) (hM : MSt kc th σ h) {i : Int} (hi0 : 0 ≤ i) (hi6 : i + 6 ≤ L) (hB : 6 * B ≤ 20 * i) {ce sl : Nat} (hce : ce + 2000 ≤ 1200128) (hsl : sl + 60000 ≤ 5501098) (K : lw_K l L xs i (ce + 2000) (sl + 60000)) : dm_W (lw_E L xs) lw_PL l 329 420 1200128 5501098 864 [some (.retAddr 2), some (.ref 0), some (.ref 26), some (.ref 36), some (dI i), none, none] [] h ce sl := by
  obtain ⟨x1, x1a, x1b, x1e⟩ := sv_x xs (i + 1)
  obtain ⟨x2, x2a, x2b, x2e⟩ := sv_x xs (i + 2)
  refine di_aload_n la_864 rfl ?_
  refine dr_aload_n la_865 rfl (Or.inr (Or.inr ⟨_, rfl⟩)) ?_
  refine dr_iload la_866 rfl ?_
  refine di_const la_868 ?_
  refine di_iadd la_869 ?_
  refine dr_xldE la_870 (by omega) (by omega) hL x1e ?_
  refine dr_aload_n la_871 rfl (Or.inr (Or.inr ⟨_, rfl⟩)) ?_
  refine dr_iload la_872 rfl ?_
  refine di_const la_874 ?_
  refine di_iadd la_875 ?_
  refine dr_xldE la_876 (by omega) (by omega) hL x2e ?_
  refine di_aload_n la_877 rfl ?_
  refine dr_statH la_878 rfl (by decide +kernel) rfl (t_L_copy l hl hI hS (by omega) (a1 := x1) (by omega) (by omega) (a2 := x2) (by omega) (by omega)) (by decide) (by omega) (by omega) (Nat.le_of_ble_eq_true rfl) kQLN (kQL (fun h11 hI12 hF13 hS14 hq16 ho17 => ?_))
  have hM15 := MSt_FL hM hF13
  refine di_istore (ls2 := [some (.retAddr 2), some (.ref 0), some (.ref 26), some (.ref 36), some (dI i), some (dI (spCopy σ x1 x2).1), none]) la_881 rfl rfl ?_
  refine di_aload_n la_883 rfl ?_
  refine dr_aload_n la_884 rfl (Or.inr (Or.inr ⟨_, rfl⟩)) ?_
  refine dr_iload la_885 rfl ?_
  refine di_const la_887 ?_
  refine di_iadd la_888 ?_
  refine dr_xldE la_889 (by omega) (by omega) hL x1e ?_
  refine dr_aload_n la_890 rfl (Or.inr (Or.inr ⟨_, rfl⟩)) ?_
  refine dr_iload la_891 rfl ?_
  refine di_const la_893 ?_
  refine di_iadd la_894 ?_
  refine dr_xldE la_895 (by omega) (by omega) hL x2e ?_
  obtain ⟨nic23, c23, -⟩ := hM15.1
  refine dr_virt la_896 rfl rfl rfl c23 (n_X8_copy l hl hI12 hM15 (a1 := x1) (by omega) (by omega) (a2 := x2) (by omega) (by omega) ) (by decide) (by omega) (by omega) (Nat.le_of_ble_eq_true rfl) kQM9N (kQM9 (fun a24 h18 hI19 hF20 hM22 a24a a24b a24e => ?_))
  have hS21 := CSt_FrM2 hS14 hF20
  refine di_istore (ls2 := [some (.retAddr 2), some (.ref 0), some (.ref 26), some (.ref 36), some (dI i), some (dI (spCopy σ x1 x2).1), some (dI a24)]) la_899 rfl rfl ?_
  refine dr_goto la_901 rfl ?_
  refine dm_wk (ls2 := [some (.retAddr 2), some (.ref 0), some (.ref 26), some (.ref 36), some (dI i), none, none]) ⟨Or.inr rfl, Or.inr rfl, Or.inr rfl, Or.inr rfl, Or.inr rfl, Or.inl rfl, Or.inl rfl, trivial⟩ ?_
  refine dm_cew (ce2 := ce + 2000) (sl2 := sl + 60000) (by omega) (by omega) ?_
  exact K _ _ _ _ _ hI19 hS21 hM22 (by omega)
set_option maxHeartbeats 4000000 in
set_option maxRecDepth 100000 in
theorem lw_c12 (l : Launch) (hl : l.stackTraces = false) {L : Nat} {xs : Nat → Int32} (hL : L ≤ 384) {kc : Int} {h : dm_H} {B : Int} {σ : St} {th : Int} (hI : Inv kc kc h) (hS : CSt B σ h) (hM : MSt kc th σ h) {i : Int} (hi0 : 0 ≤ i) (hi6 : i + 6 ≤ L) (hB : 6 * B ≤ 20 * i) {ce sl : Nat} (hce : ce + 2000 ≤ 1200128) (hsl : sl + 60000 ≤ 5501098) (K : lw_K l L xs i (ce + 2000) (sl + 60000)) : dm_W (lw_E L xs) lw_PL l 329 420 1200128 5501098 904 [some (.retAddr 2), some (.ref 0), some (.ref 26), some (.ref 36), some (dI i), none, none] [] h ce sl := by
  obtain ⟨x1, x1a, x1b, x1e⟩ := sv_x xs (i + 1)
  obtain ⟨x2, x2a, x2b, x2e⟩ := sv_x xs (i + 2)
  obtain ⟨x3, x3a, x3b, x3e⟩ := sv_x xs (i + 3)
  refine di_aload_n la_904 rfl ?_
  refine dr_aload_n la_905 rfl (Or.inr (Or.inr ⟨_, rfl⟩)) ?_
  refine dr_iload la_906 rfl ?_
  refine di_const la_908 ?_
  refine di_iadd la_909 ?_
  refine dr_xldE la_910 (by omega) (by omega) hL x1e ?_
  refine dr_aload_n la_911 rfl (Or.inr (Or.inr ⟨_, rfl⟩)) ?_
  refine dr_iload la_912 rfl ?_
  refine di_const la_914 ?_
  refine di_iadd la_915 ?_
  refine dr_xldE la_916 (by omega) (by omega) hL x2e ?_
  refine dr_aload_n la_917 rfl (Or.inr (Or.inr ⟨_, rfl⟩)) ?_
  refine dr_iload la_918 rfl ?_
  refine di_const la_920 ?_
  refine di_iadd la_921 ?_
  refine dr_xldE la_922 (by omega) (by omega) hL x3e ?_
  refine di_if_eq la_923 rfl (by omega) (by omega) (fun cz11 => ?_) (fun cz11 => ?_)
  · skip
    refine di_const la_930 ?_
    refine di_aload_n la_931 rfl ?_
    refine dr_statH la_932 rfl (by decide +kernel) rfl (t_L_sift l hl hI hS (by omega) (a1 := x1) (by omega) (by omega) (a2 := x2) (by omega) (by omega) (a3 := 0) (by omega) (by omega)) (by decide) (by omega) (by omega) (Nat.le_of_ble_eq_true rfl) kQLN (kQL (fun h12 hI13 hF14 hS15 hq17 ho18 => ?_))
    have hM16 := MSt_FL hM hF14
    refine di_istore (ls2 := [some (.retAddr 2), some (.ref 0), some (.ref 26), some (.ref 36), some (dI i), some (dI (spSift σ x1 x2 0).1), none]) la_935 rfl rfl ?_
    refine di_aload_n la_937 rfl ?_
    refine dr_aload_n la_938 rfl (Or.inr (Or.inr ⟨_, rfl⟩)) ?_
    refine dr_iload la_939 rfl ?_
    refine di_const la_941 ?_
    refine di_iadd la_942 ?_
    refine dr_xldE la_943 (by omega) (by omega) hL x1e ?_
    refine dr_aload_n la_944 rfl (Or.inr (Or.inr ⟨_, rfl⟩)) ?_
    refine dr_iload la_945 rfl ?_
    refine di_const la_947 ?_
    refine di_iadd la_948 ?_
    refine dr_xldE la_949 (by omega) (by omega) hL x2e ?_
    refine dr_aload_n la_950 rfl (Or.inr (Or.inr ⟨_, rfl⟩)) ?_
    refine dr_iload la_951 rfl ?_
    refine di_const la_953 ?_
    refine di_iadd la_954 ?_
    refine dr_xldE la_955 (by omega) (by omega) hL x3e ?_
    refine di_if_eq la_956 rfl (by omega) (by omega) (fun _ => ?_) (fun c9 => absurd cz11 c9)
    refine di_const la_963 ?_
    obtain ⟨nic24, c24, -⟩ := hM16.1
    refine dr_virt la_964 rfl rfl rfl c24 (n_X8_sift l hl hI13 hM16 (a1 := x1) (by omega) (by omega) (a2 := x2) (by omega) (by omega) (a3 := 0) (by omega) (by omega) ) (by decide) (by omega) (by omega) (Nat.le_of_ble_eq_true rfl) kQM9N (kQM9 (fun a25 h19 hI20 hF21 hM23 a25a a25b a25e => ?_))
    have hS22 := CSt_FrM2 hS15 hF21
    refine di_istore (ls2 := [some (.retAddr 2), some (.ref 0), some (.ref 26), some (.ref 36), some (dI i), some (dI (spSift σ x1 x2 0).1), some (dI a25)]) la_967 rfl rfl ?_
    refine dr_goto la_969 rfl ?_
    refine dm_wk (ls2 := [some (.retAddr 2), some (.ref 0), some (.ref 26), some (.ref 36), some (dI i), none, none]) ⟨Or.inr rfl, Or.inr rfl, Or.inr rfl, Or.inr rfl, Or.inr rfl, Or.inl rfl, Or.inl rfl, trivial⟩ ?_
    refine dm_cew (ce2 := ce + 2000) (sl2 := sl + 60000) (by omega) (by omega) ?_
    exact K _ _ _ _ _ hI20 hS22 hM23 (by omega)
  · skip
    refine di_const la_926 ?_
    refine dr_goto la_927 rfl ?_
    refine di_aload_n la_931 rfl ?_
    refine dr_statH la_932 rfl (by decide +kernel) rfl (t_L_sift l hl hI hS (by omega) (a1 := x1) (by omega) (by omega) (a2 := x2) (by omega) (by omega) (a3 := 1) (by omega) (by omega)) (by decide) (by omega) (by omega) (Nat.le_of_ble_eq_true rfl) kQLN (kQL (fun h26 hI27 hF28 hS29 hq31 ho32 => ?_))
    have hM30 := MSt_FL hM hF28
    refine di_istore (ls2 := [some (.retAddr 2), some (.ref 0), some (.ref 26), some (.ref 36), some (dI i), some (dI (spSift σ x1 x2 1).1), none]) la_935 rfl rfl ?_
    refine di_aload_n la_937 rfl ?_
    refine dr_aload_n la_938 rfl (Or.inr (Or.inr ⟨_, rfl⟩)) ?_
    refine dr_iload la_939 rfl ?_
    refine di_const la_941 ?_
    refine di_iadd la_942 ?_
    refine dr_xldE la_943 (by omega) (by omega) hL x1e ?_
    refine dr_aload_n la_944 rfl (Or.inr (Or.inr ⟨_, rfl⟩)) ?_
    refine dr_iload la_945 rfl ?_
    refine di_const la_947 ?_
    refine di_iadd la_948 ?_
    refine dr_xldE la_949 (by omega) (by omega) hL x2e ?_
    refine dr_aload_n la_950 rfl (Or.inr (Or.inr ⟨_, rfl⟩)) ?_
    refine dr_iload la_951 rfl ?_
    refine di_const la_953 ?_
    refine di_iadd la_954 ?_
    refine dr_xldE la_955 (by omega) (by omega) hL x3e ?_
    refine di_if_eq la_956 rfl (by omega) (by omega) (fun c9 => absurd c9 cz11) (fun _ => ?_)
    refine di_const la_959 ?_
    refine dr_goto la_960 rfl ?_
    obtain ⟨nic38, c38, -⟩ := hM30.1
    refine dr_virt la_964 rfl rfl rfl c38 (n_X8_sift l hl hI27 hM30 (a1 := x1) (by omega) (by omega) (a2 := x2) (by omega) (by omega) (a3 := 1) (by omega) (by omega) ) (by decide) (by omega) (by omega) (Nat.le_of_ble_eq_true rfl) kQM9N (kQM9 (fun a39 h33 hI34 hF35 hM37 a39a a39b a39e => ?_))
    have hS36 := CSt_FrM2 hS29 hF35
    refine di_istore (ls2 := [some (.retAddr 2), some (.ref 0), some (.ref 26), some (.ref 36), some (dI i), some (dI (spSift σ x1 x2 1).1), some (dI a39)]) la_967 rfl rfl ?_
    refine dr_goto la_969 rfl ?_
    refine dm_wk (ls2 := [some (.retAddr 2), some (.ref 0), some (.ref 26), some (.ref 36), some (dI i), none, none]) ⟨Or.inr rfl, Or.inr rfl, Or.inr rfl, Or.inr rfl, Or.inr rfl, Or.inl rfl, Or.inl rfl, trivial⟩ ?_
    refine dm_cew (ce2 := ce + 2000) (sl2 := sl + 60000) (by omega) (by omega) ?_
    exact K _ _ _ _ _ hI34 hS36 hM37 (by omega)
set_option maxHeartbeats 4000000 in
set_option maxRecDepth 100000 in
theorem lw_c13 (l : Launch) (hl : l.stackTraces = false) {L : Nat} {xs : Nat → Int32} (hL : L ≤ 384) {kc : Int} {h : dm_H} {B : Int} {σ : St} {th : Int} (hI : Inv kc kc h) (hS : CSt B σ h) (hM : MSt kc th σ h) {i : Int} (hi0 : 0 ≤ i) (hi6 : i + 6 ≤ L) (hB : 6 * B ≤ 20 * i) {ce sl : Nat} (hce : ce + 2000 ≤ 1200128) (hsl : sl + 60000 ≤ 5501098) (K : lw_K l L xs i (ce + 2000) (sl + 60000)) : dm_W (lw_E L xs) lw_PL l 329 420 1200128 5501098 972 [some (.retAddr 2), some (.ref 0), some (.ref 26), some (.ref 36), some (dI i), none, none] [] h ce sl := by
  obtain ⟨x1, x1a, x1b, x1e⟩ := sv_x xs (i + 1)
  obtain ⟨x2, x2a, x2b, x2e⟩ := sv_x xs (i + 2)
  obtain ⟨x3, x3a, x3b, x3e⟩ := sv_x xs (i + 3)
  refine di_aload_n la_972 rfl ?_
  refine dr_aload_n la_973 rfl (Or.inr (Or.inr ⟨_, rfl⟩)) ?_
  refine dr_iload la_974 rfl ?_
  refine di_const la_976 ?_
  refine di_iadd la_977 ?_
  refine dr_xldE la_978 (by omega) (by omega) hL x1e ?_
  refine dr_aload_n la_979 rfl (Or.inr (Or.inr ⟨_, rfl⟩)) ?_
  refine dr_iload la_980 rfl ?_
  refine di_const la_982 ?_
  refine di_iadd la_983 ?_
  refine dr_xldE la_984 (by omega) (by omega) hL x2e ?_
  refine dr_aload_n la_985 rfl (Or.inr (Or.inr ⟨_, rfl⟩)) ?_
  refine dr_iload la_986 rfl ?_
  refine di_const la_988 ?_
  refine di_iadd la_989 ?_
  refine dr_xldE la_990 (by omega) (by omega) hL x3e ?_
  refine di_aload_n la_991 rfl ?_
  refine dr_statH la_992 rfl (by decide +kernel) rfl (t_L_part l hl hI hS (by omega) (a1 := x1) (by omega) (by omega) (a2 := x2) (by omega) (by omega) (a3 := x3) (by omega) (by omega)) (by decide) (by omega) (by omega) (Nat.le_of_ble_eq_true rfl) kQLN (kQL (fun h11 hI12 hF13 hS14 hq16 ho17 => ?_))
  have hM15 := MSt_FL hM hF13
  refine di_istore (ls2 := [some (.retAddr 2), some (.ref 0), some (.ref 26), some (.ref 36), some (dI i), some (dI (spPart σ x1 x2 x3).1), none]) la_995 rfl rfl ?_
  refine di_aload_n la_997 rfl ?_
  refine dr_aload_n la_998 rfl (Or.inr (Or.inr ⟨_, rfl⟩)) ?_
  refine dr_iload la_999 rfl ?_
  refine di_const la_1001 ?_
  refine di_iadd la_1002 ?_
  refine dr_xldE la_1003 (by omega) (by omega) hL x1e ?_
  refine dr_aload_n la_1004 rfl (Or.inr (Or.inr ⟨_, rfl⟩)) ?_
  refine dr_iload la_1005 rfl ?_
  refine di_const la_1007 ?_
  refine di_iadd la_1008 ?_
  refine dr_xldE la_1009 (by omega) (by omega) hL x2e ?_
  refine dr_aload_n la_1010 rfl (Or.inr (Or.inr ⟨_, rfl⟩)) ?_
  refine dr_iload la_1011 rfl ?_
  refine di_const la_1013 ?_
  refine di_iadd la_1014 ?_
  refine dr_xldE la_1015 (by omega) (by omega) hL x3e ?_
  obtain ⟨nic23, c23, -⟩ := hM15.1
  refine dr_virt la_1016 rfl rfl rfl c23 (n_X8_part l hl hI12 hM15 (a1 := x1) (by omega) (by omega) (a2 := x2) (by omega) (by omega) (a3 := x3) (by omega) (by omega) ) (by decide) (by omega) (by omega) (Nat.le_of_ble_eq_true rfl) kQM9N (kQM9 (fun a24 h18 hI19 hF20 hM22 a24a a24b a24e => ?_))
  have hS21 := CSt_FrM2 hS14 hF20
  refine di_istore (ls2 := [some (.retAddr 2), some (.ref 0), some (.ref 26), some (.ref 36), some (dI i), some (dI (spPart σ x1 x2 x3).1), some (dI a24)]) la_1019 rfl rfl ?_
  refine dr_goto la_1021 rfl ?_
  refine dm_wk (ls2 := [some (.retAddr 2), some (.ref 0), some (.ref 26), some (.ref 36), some (dI i), none, none]) ⟨Or.inr rfl, Or.inr rfl, Or.inr rfl, Or.inr rfl, Or.inr rfl, Or.inl rfl, Or.inl rfl, trivial⟩ ?_
  refine dm_cew (ce2 := ce + 2000) (sl2 := sl + 60000) (by omega) (by omega) ?_
  exact K _ _ _ _ _ hI19 hS21 hM22 (by omega)
set_option maxHeartbeats 4000000 in
set_option maxRecDepth 100000 in
theorem lw_c14 (l : Launch) (hl : l.stackTraces = false) {L : Nat} {xs : Nat → Int32} (hL : L ≤ 384) {kc : Int} {h : dm_H} {B : Int} {σ : St} {th : Int} (hI : Inv kc kc h) (hS : CSt B σ h) (hM : MSt kc th σ h) {i : Int} (hi0 : 0 ≤ i) (hi6 : i + 6 ≤ L) (hB : 6 * B ≤ 20 * i) {ce sl : Nat} (hce : ce + 2000 ≤ 1200128) (hsl : sl + 60000 ≤ 5501098) (K : lw_K l L xs i (ce + 2000) (sl + 60000)) : dm_W (lw_E L xs) lw_PL l 329 420 1200128 5501098 1024 [some (.retAddr 2), some (.ref 0), some (.ref 26), some (.ref 36), some (dI i), none, none] [] h ce sl := by
  obtain ⟨x1, x1a, x1b, x1e⟩ := sv_x xs (i + 1)
  obtain ⟨x2, x2a, x2b, x2e⟩ := sv_x xs (i + 2)
  refine di_aload_n la_1024 rfl ?_
  refine dr_aload_n la_1025 rfl (Or.inr (Or.inr ⟨_, rfl⟩)) ?_
  refine dr_iload la_1026 rfl ?_
  refine di_const la_1028 ?_
  refine di_iadd la_1029 ?_
  refine dr_xldE la_1030 (by omega) (by omega) hL x1e ?_
  refine dr_aload_n la_1031 rfl (Or.inr (Or.inr ⟨_, rfl⟩)) ?_
  refine dr_iload la_1032 rfl ?_
  refine di_const la_1034 ?_
  refine di_iadd la_1035 ?_
  refine dr_xldE la_1036 (by omega) (by omega) hL x2e ?_
  refine di_aload_n la_1037 rfl ?_
  refine dr_statH la_1038 rfl (by decide +kernel) rfl (t_L_narrow l hl hI hS (by omega) (a1 := x1) (by omega) (by omega) (a2 := x2) (by omega) (by omega)) (by decide) (by omega) (by omega) (Nat.le_of_ble_eq_true rfl) kQLN (kQL (fun h11 hI12 hF13 hS14 hq16 ho17 => ?_))
  have hM15 := MSt_FL hM hF13
  refine di_istore (ls2 := [some (.retAddr 2), some (.ref 0), some (.ref 26), some (.ref 36), some (dI i), some (dI (spNarrow σ x1 x2).1), none]) la_1041 rfl rfl ?_
  refine di_aload_n la_1043 rfl ?_
  refine dr_aload_n la_1044 rfl (Or.inr (Or.inr ⟨_, rfl⟩)) ?_
  refine dr_iload la_1045 rfl ?_
  refine di_const la_1047 ?_
  refine di_iadd la_1048 ?_
  refine dr_xldE la_1049 (by omega) (by omega) hL x1e ?_
  refine dr_aload_n la_1050 rfl (Or.inr (Or.inr ⟨_, rfl⟩)) ?_
  refine dr_iload la_1051 rfl ?_
  refine di_const la_1053 ?_
  refine di_iadd la_1054 ?_
  refine dr_xldE la_1055 (by omega) (by omega) hL x2e ?_
  obtain ⟨nic23, c23, -⟩ := hM15.1
  refine dr_virt la_1056 rfl rfl rfl c23 (n_X8_narrow l hl hI12 hM15 (a1 := x1) (by omega) (by omega) (a2 := x2) (by omega) (by omega) ) (by decide) (by omega) (by omega) (Nat.le_of_ble_eq_true rfl) kQM9N (kQM9 (fun a24 h18 hI19 hF20 hM22 a24a a24b a24e => ?_))
  have hS21 := CSt_FrM2 hS14 hF20
  refine di_istore (ls2 := [some (.retAddr 2), some (.ref 0), some (.ref 26), some (.ref 36), some (dI i), some (dI (spNarrow σ x1 x2).1), some (dI a24)]) la_1059 rfl rfl ?_
  refine dr_goto la_1061 rfl ?_
  refine dm_wk (ls2 := [some (.retAddr 2), some (.ref 0), some (.ref 26), some (.ref 36), some (dI i), none, none]) ⟨Or.inr rfl, Or.inr rfl, Or.inr rfl, Or.inr rfl, Or.inr rfl, Or.inl rfl, Or.inl rfl, trivial⟩ ?_
  refine dm_cew (ce2 := ce + 2000) (sl2 := sl + 60000) (by omega) (by omega) ?_
  exact K _ _ _ _ _ hI19 hS21 hM22 (by omega)
set_option maxHeartbeats 4000000 in
set_option maxRecDepth 100000 in
theorem lw_c15 (l : Launch) (hl : l.stackTraces = false) {L : Nat} {xs : Nat → Int32} (hL : L ≤ 384) {kc : Int} {h : dm_H} {B : Int} {σ : St} {th : Int} (hI : Inv kc kc h) (hS : CSt B σ h) (hM : MSt kc th σ h) {i : Int} (hi0 : 0 ≤ i) (hi6 : i + 6 ≤ L) (hB : 6 * B ≤ 20 * i) {ce sl : Nat} (hce : ce + 2000 ≤ 1200128) (hsl : sl + 60000 ≤ 5501098) (K : lw_K l L xs i (ce + 2000) (sl + 60000)) : dm_W (lw_E L xs) lw_PL l 329 420 1200128 5501098 1064 [some (.retAddr 2), some (.ref 0), some (.ref 26), some (.ref 36), some (dI i), none, none] [] h ce sl := by
  obtain ⟨x1, x1a, x1b, x1e⟩ := sv_x xs (i + 1)
  obtain ⟨x2, x2a, x2b, x2e⟩ := sv_x xs (i + 2)
  obtain ⟨x3, x3a, x3b, x3e⟩ := sv_x xs (i + 3)
  refine di_aload_n la_1064 rfl ?_
  refine dr_aload_n la_1065 rfl (Or.inr (Or.inr ⟨_, rfl⟩)) ?_
  refine dr_iload la_1066 rfl ?_
  refine di_const la_1068 ?_
  refine di_iadd la_1069 ?_
  refine dr_xldE la_1070 (by omega) (by omega) hL x1e ?_
  refine dr_aload_n la_1071 rfl (Or.inr (Or.inr ⟨_, rfl⟩)) ?_
  refine dr_iload la_1072 rfl ?_
  refine di_const la_1074 ?_
  refine di_iadd la_1075 ?_
  refine dr_xldE la_1076 (by omega) (by omega) hL x2e ?_
  refine dr_aload_n la_1077 rfl (Or.inr (Or.inr ⟨_, rfl⟩)) ?_
  refine dr_iload la_1078 rfl ?_
  refine di_const la_1080 ?_
  refine di_iadd la_1081 ?_
  refine dr_xldE la_1082 (by omega) (by omega) hL x3e ?_
  refine di_aload_n la_1083 rfl ?_
  refine dr_statH la_1084 rfl (by decide +kernel) rfl (t_L_partPut l hl hI hS (by omega) (a1 := x1) (by omega) (by omega) (a2 := x2) (by omega) (by omega) (a3 := x3) (by omega) (by omega)) (by decide) (by omega) (by omega) (Nat.le_of_ble_eq_true rfl) kQLN (kQL (fun h11 hI12 hF13 hS14 hq16 ho17 => ?_))
  have hM15 := MSt_FL hM hF13
  refine di_istore (ls2 := [some (.retAddr 2), some (.ref 0), some (.ref 26), some (.ref 36), some (dI i), some (dI (spPartPut σ x1 x2 x3).1), none]) la_1087 rfl rfl ?_
  refine di_aload_n la_1089 rfl ?_
  refine dr_aload_n la_1090 rfl (Or.inr (Or.inr ⟨_, rfl⟩)) ?_
  refine dr_iload la_1091 rfl ?_
  refine di_const la_1093 ?_
  refine di_iadd la_1094 ?_
  refine dr_xldE la_1095 (by omega) (by omega) hL x1e ?_
  refine dr_aload_n la_1096 rfl (Or.inr (Or.inr ⟨_, rfl⟩)) ?_
  refine dr_iload la_1097 rfl ?_
  refine di_const la_1099 ?_
  refine di_iadd la_1100 ?_
  refine dr_xldE la_1101 (by omega) (by omega) hL x2e ?_
  refine dr_aload_n la_1102 rfl (Or.inr (Or.inr ⟨_, rfl⟩)) ?_
  refine dr_iload la_1103 rfl ?_
  refine di_const la_1105 ?_
  refine di_iadd la_1106 ?_
  refine dr_xldE la_1107 (by omega) (by omega) hL x3e ?_
  obtain ⟨nic23, c23, -⟩ := hM15.1
  refine dr_virt la_1108 rfl rfl rfl c23 (n_X8_partPut l hl hI12 hM15 (a1 := x1) (by omega) (by omega) (a2 := x2) (by omega) (by omega) (a3 := x3) (by omega) (by omega) ) (by decide) (by omega) (by omega) (Nat.le_of_ble_eq_true rfl) kQM9N (kQM9 (fun a24 h18 hI19 hF20 hM22 a24a a24b a24e => ?_))
  have hS21 := CSt_FrM2 hS14 hF20
  refine di_istore (ls2 := [some (.retAddr 2), some (.ref 0), some (.ref 26), some (.ref 36), some (dI i), some (dI (spPartPut σ x1 x2 x3).1), some (dI a24)]) la_1111 rfl rfl ?_
  refine dr_goto la_1113 rfl ?_
  refine dm_wk (ls2 := [some (.retAddr 2), some (.ref 0), some (.ref 26), some (.ref 36), some (dI i), none, none]) ⟨Or.inr rfl, Or.inr rfl, Or.inr rfl, Or.inr rfl, Or.inr rfl, Or.inl rfl, Or.inl rfl, trivial⟩ ?_
  refine dm_cew (ce2 := ce + 2000) (sl2 := sl + 60000) (by omega) (by omega) ?_
  exact K _ _ _ _ _ hI19 hS21 hM22 (by omega)
set_option maxHeartbeats 4000000 in
set_option maxRecDepth 100000 in
theorem lw_c16 (l : Launch) (hl : l.stackTraces = false) {L : Nat} {xs : Nat → Int32} (hL : L ≤ 384) {kc : Int} {h : dm_H} {B : Int} {σ : St} {th : Int} (hI : Inv kc kc h) (hS : CSt B σ h) (hM : MSt kc th σ h) {i : Int} (hi0 : 0 ≤ i) (hi6 : i + 6 ≤ L) (hB : 6 * B ≤ 20 * i) {ce sl : Nat} (hce : ce + 2000 ≤ 1200128) (hsl : sl + 60000 ≤ 5501098) (K : lw_K l L xs i (ce + 2000) (sl + 60000)) : dm_W (lw_E L xs) lw_PL l 329 420 1200128 5501098 1116 [some (.retAddr 2), some (.ref 0), some (.ref 26), some (.ref 36), some (dI i), none, none] [] h ce sl := by
  obtain ⟨x1, x1a, x1b, x1e⟩ := sv_x xs (i + 1)
  obtain ⟨x2, x2a, x2b, x2e⟩ := sv_x xs (i + 2)
  refine di_aload_n la_1116 rfl ?_
  refine dr_aload_n la_1117 rfl (Or.inr (Or.inr ⟨_, rfl⟩)) ?_
  refine dr_iload la_1118 rfl ?_
  refine di_const la_1120 ?_
  refine di_iadd la_1121 ?_
  refine dr_xldE la_1122 (by omega) (by omega) hL x1e ?_
  refine dr_aload_n la_1123 rfl (Or.inr (Or.inr ⟨_, rfl⟩)) ?_
  refine dr_iload la_1124 rfl ?_
  refine di_const la_1126 ?_
  refine di_iadd la_1127 ?_
  refine dr_xldE la_1128 (by omega) (by omega) hL x2e ?_
  refine di_aload_n la_1129 rfl ?_
  refine dr_statH la_1130 rfl (by decide +kernel) rfl (t_L_partTake l hl hI hS (by omega) (a1 := x1) (by omega) (by omega) (a2 := x2) (by omega) (by omega)) (by decide) (by omega) (by omega) (Nat.le_of_ble_eq_true rfl) kQLN (kQL (fun h11 hI12 hF13 hS14 hq16 ho17 => ?_))
  have hM15 := MSt_FL hM hF13
  refine di_istore (ls2 := [some (.retAddr 2), some (.ref 0), some (.ref 26), some (.ref 36), some (dI i), some (dI (spPartTake σ x1 x2).1), none]) la_1133 rfl rfl ?_
  refine di_aload_n la_1135 rfl ?_
  refine dr_aload_n la_1136 rfl (Or.inr (Or.inr ⟨_, rfl⟩)) ?_
  refine dr_iload la_1137 rfl ?_
  refine di_const la_1139 ?_
  refine di_iadd la_1140 ?_
  refine dr_xldE la_1141 (by omega) (by omega) hL x1e ?_
  refine dr_aload_n la_1142 rfl (Or.inr (Or.inr ⟨_, rfl⟩)) ?_
  refine dr_iload la_1143 rfl ?_
  refine di_const la_1145 ?_
  refine di_iadd la_1146 ?_
  refine dr_xldE la_1147 (by omega) (by omega) hL x2e ?_
  obtain ⟨nic23, c23, -⟩ := hM15.1
  refine dr_virt la_1148 rfl rfl rfl c23 (n_X8_partTake l hl hI12 hM15 (a1 := x1) (by omega) (by omega) (a2 := x2) (by omega) (by omega) ) (by decide) (by omega) (by omega) (Nat.le_of_ble_eq_true rfl) kQM9N (kQM9 (fun a24 h18 hI19 hF20 hM22 a24a a24b a24e => ?_))
  have hS21 := CSt_FrM2 hS14 hF20
  refine di_istore (ls2 := [some (.retAddr 2), some (.ref 0), some (.ref 26), some (.ref 36), some (dI i), some (dI (spPartTake σ x1 x2).1), some (dI a24)]) la_1151 rfl rfl ?_
  refine dr_goto la_1153 rfl ?_
  refine dm_wk (ls2 := [some (.retAddr 2), some (.ref 0), some (.ref 26), some (.ref 36), some (dI i), none, none]) ⟨Or.inr rfl, Or.inr rfl, Or.inr rfl, Or.inr rfl, Or.inr rfl, Or.inl rfl, Or.inl rfl, trivial⟩ ?_
  refine dm_cew (ce2 := ce + 2000) (sl2 := sl + 60000) (by omega) (by omega) ?_
  exact K _ _ _ _ _ hI19 hS21 hM22 (by omega)
set_option maxHeartbeats 4000000 in
set_option maxRecDepth 100000 in
theorem lw_c17 (l : Launch) (hl : l.stackTraces = false) {L : Nat} {xs : Nat → Int32} (hL : L ≤ 384) {kc : Int} {h : dm_H} {B : Int} {σ : St} {th : Int} (hI : Inv kc kc h) (hS : CSt B σ h) (hM : MSt kc th σ h) {i : Int} (hi0 : 0 ≤ i) (hi6 : i + 6 ≤ L) (hB : 6 * B ≤ 20 * i) {ce sl : Nat} (hce : ce + 2000 ≤ 1200128) (hsl : sl + 60000 ≤ 5501098) (K : lw_K l L xs i (ce + 2000) (sl + 60000)) : dm_W (lw_E L xs) lw_PL l 329 420 1200128 5501098 1156 [some (.retAddr 2), some (.ref 0), some (.ref 26), some (.ref 36), some (dI i), none, none] [] h ce sl := by
  obtain ⟨x1, x1a, x1b, x1e⟩ := sv_x xs (i + 1)
  refine di_aload_n la_1156 rfl ?_
  refine dr_aload_n la_1157 rfl (Or.inr (Or.inr ⟨_, rfl⟩)) ?_
  refine dr_iload la_1158 rfl ?_
  refine di_const la_1160 ?_
  refine di_iadd la_1161 ?_
  refine dr_xldE la_1162 (by omega) (by omega) hL x1e ?_
  refine di_if_eq la_1163 rfl (by omega) (by omega) (fun cz11 => ?_) (fun cz11 => ?_)
  · skip
    refine di_const la_1170 ?_
    refine di_aload_n la_1171 rfl ?_
    refine dr_statH la_1172 rfl (by decide +kernel) rfl (t_L_partDraw l hl hI hS (by omega) (a1 := 0) (by omega) (by omega)) (by decide) (by omega) (by omega) (Nat.le_of_ble_eq_true rfl) kQLN (kQL (fun h12 hI13 hF14 hS15 hq17 ho18 => ?_))
    have hM16 := MSt_FL hM hF14
    refine di_istore (ls2 := [some (.retAddr 2), some (.ref 0), some (.ref 26), some (.ref 36), some (dI i), some (dI (spPartDraw σ 0).1), none]) la_1175 rfl rfl ?_
    refine di_aload_n la_1177 rfl ?_
    refine dr_aload_n la_1178 rfl (Or.inr (Or.inr ⟨_, rfl⟩)) ?_
    refine dr_iload la_1179 rfl ?_
    refine di_const la_1181 ?_
    refine di_iadd la_1182 ?_
    refine dr_xldE la_1183 (by omega) (by omega) hL x1e ?_
    refine di_if_eq la_1184 rfl (by omega) (by omega) (fun _ => ?_) (fun c9 => absurd cz11 c9)
    refine di_const la_1191 ?_
    obtain ⟨nic24, c24, -⟩ := hM16.1
    refine dr_virt la_1192 rfl rfl rfl c24 (n_X8_partDraw l hl hI13 hM16 (a1 := 0) (by omega) (by omega) ) (by decide) (by omega) (by omega) (Nat.le_of_ble_eq_true rfl) kQM9N (kQM9 (fun a25 h19 hI20 hF21 hM23 a25a a25b a25e => ?_))
    have hS22 := CSt_FrM2 hS15 hF21
    refine di_istore (ls2 := [some (.retAddr 2), some (.ref 0), some (.ref 26), some (.ref 36), some (dI i), some (dI (spPartDraw σ 0).1), some (dI a25)]) la_1195 rfl rfl ?_
    refine dr_goto la_1197 rfl ?_
    refine dm_wk (ls2 := [some (.retAddr 2), some (.ref 0), some (.ref 26), some (.ref 36), some (dI i), none, none]) ⟨Or.inr rfl, Or.inr rfl, Or.inr rfl, Or.inr rfl, Or.inr rfl, Or.inl rfl, Or.inl rfl, trivial⟩ ?_
    refine dm_cew (ce2 := ce + 2000) (sl2 := sl + 60000) (by omega) (by omega) ?_
    exact K _ _ _ _ _ hI20 hS22 hM23 (by omega)
  · skip
    refine di_const la_1166 ?_
    refine dr_goto la_1167 rfl ?_
    refine di_aload_n la_1171 rfl ?_
    refine dr_statH la_1172 rfl (by decide +kernel) rfl (t_L_partDraw l hl hI hS (by omega) (a1 := 1) (by omega) (by omega)) (by decide) (by omega) (by omega) (Nat.le_of_ble_eq_true rfl) kQLN (kQL (fun h26 hI27 hF28 hS29 hq31 ho32 => ?_))
    have hM30 := MSt_FL hM hF28
    refine di_istore (ls2 := [some (.retAddr 2), some (.ref 0), some (.ref 26), some (.ref 36), some (dI i), some (dI (spPartDraw σ 1).1), none]) la_1175 rfl rfl ?_
    refine di_aload_n la_1177 rfl ?_
    refine dr_aload_n la_1178 rfl (Or.inr (Or.inr ⟨_, rfl⟩)) ?_
    refine dr_iload la_1179 rfl ?_
    refine di_const la_1181 ?_
    refine di_iadd la_1182 ?_
    refine dr_xldE la_1183 (by omega) (by omega) hL x1e ?_
    refine di_if_eq la_1184 rfl (by omega) (by omega) (fun c9 => absurd c9 cz11) (fun _ => ?_)
    refine di_const la_1187 ?_
    refine dr_goto la_1188 rfl ?_
    obtain ⟨nic38, c38, -⟩ := hM30.1
    refine dr_virt la_1192 rfl rfl rfl c38 (n_X8_partDraw l hl hI27 hM30 (a1 := 1) (by omega) (by omega) ) (by decide) (by omega) (by omega) (Nat.le_of_ble_eq_true rfl) kQM9N (kQM9 (fun a39 h33 hI34 hF35 hM37 a39a a39b a39e => ?_))
    have hS36 := CSt_FrM2 hS29 hF35
    refine di_istore (ls2 := [some (.retAddr 2), some (.ref 0), some (.ref 26), some (.ref 36), some (dI i), some (dI (spPartDraw σ 1).1), some (dI a39)]) la_1195 rfl rfl ?_
    refine dr_goto la_1197 rfl ?_
    refine dm_wk (ls2 := [some (.retAddr 2), some (.ref 0), some (.ref 26), some (.ref 36), some (dI i), none, none]) ⟨Or.inr rfl, Or.inr rfl, Or.inr rfl, Or.inr rfl, Or.inr rfl, Or.inl rfl, Or.inl rfl, trivial⟩ ?_
    refine dm_cew (ce2 := ce + 2000) (sl2 := sl + 60000) (by omega) (by omega) ?_
    exact K _ _ _ _ _ hI34 hS36 hM37 (by omega)
set_option maxHeartbeats 4000000 in
set_option maxRecDepth 100000 in
theorem lw_c18 (l : Launch) (hl : l.stackTraces = false) {L : Nat} {xs : Nat → Int32} (hL : L ≤ 384) {kc : Int} {h : dm_H} {B : Int} {σ : St} {th : Int} (hI : Inv kc kc h) (hS : CSt B σ h) (hM : MSt kc th σ h) {i : Int} (hi0 : 0 ≤ i) (hi6 : i + 6 ≤ L) (hB : 6 * B ≤ 20 * i) {ce sl : Nat} (hce : ce + 2000 ≤ 1200128) (hsl : sl + 60000 ≤ 5501098) (K : lw_K l L xs i (ce + 2000) (sl + 60000)) : dm_W (lw_E L xs) lw_PL l 329 420 1200128 5501098 1200 [some (.retAddr 2), some (.ref 0), some (.ref 26), some (.ref 36), some (dI i), none, none] [] h ce sl := by
  refine di_aload_n la_1200 rfl ?_
  refine di_aload_n la_1201 rfl ?_
  refine dr_statH la_1202 rfl (by decide +kernel) rfl (t_L_partClear l hl hI hS (by omega) ) (by decide) (by omega) (by omega) (Nat.le_of_ble_eq_true rfl) kQLN (kQL (fun h11 hI12 hF13 hS14 hq16 ho17 => ?_))
  have hM15 := MSt_FL hM hF13
  refine di_istore (ls2 := [some (.retAddr 2), some (.ref 0), some (.ref 26), some (.ref 36), some (dI i), some (dI (spPartClear σ).1), none]) la_1205 rfl rfl ?_
  refine di_aload_n la_1207 rfl ?_
  obtain ⟨nic23, c23, -⟩ := hM15.1
  refine dr_virt la_1208 rfl rfl rfl c23 (n_X8_partClear l hl hI12 hM15  ) (by decide) (by omega) (by omega) (Nat.le_of_ble_eq_true rfl) kQM9N (kQM9 (fun a24 h18 hI19 hF20 hM22 a24a a24b a24e => ?_))
  have hS21 := CSt_FrM2 hS14 hF20
  refine di_istore (ls2 := [some (.retAddr 2), some (.ref 0), some (.ref 26), some (.ref 36), some (dI i), some (dI (spPartClear σ).1), some (dI a24)]) la_1211 rfl rfl ?_
  refine dr_goto la_1213 rfl ?_
  refine dm_wk (ls2 := [some (.retAddr 2), some (.ref 0), some (.ref 26), some (.ref 36), some (dI i), none, none]) ⟨Or.inr rfl, Or.inr rfl, Or.inr rfl, Or.inr rfl, Or.inr rfl, Or.inl rfl, Or.inl rfl, trivial⟩ ?_
  refine dm_cew (ce2 := ce + 2000) (sl2 := sl + 60000) (by omega) (by omega) ?_
  exact K _ _ _ _ _ hI19 hS21 hM22 (by omega)
set_option maxHeartbeats 4000000 in
set_option maxRecDepth 100000 in
theorem lw_c19 (l : Launch) (hl : l.stackTraces = false) {L : Nat} {xs : Nat → Int32} (hL : L ≤ 384) {kc : Int} {h : dm_H} {B : Int} {σ : St} {th : Int} (hI : Inv kc kc h) (hS : CSt B σ h) (hM : MSt kc th σ h) {i : Int} (hi0 : 0 ≤ i) (hi6 : i + 6 ≤ L) (hB : 6 * B ≤ 20 * i) {ce sl : Nat} (hce : ce + 2000 ≤ 1200128) (hsl : sl + 60000 ≤ 5501098) (K : lw_K l L xs i (ce + 2000) (sl + 60000)) : dm_W (lw_E L xs) lw_PL l 329 420 1200128 5501098 1216 [some (.retAddr 2), some (.ref 0), some (.ref 26), some (.ref 36), some (dI i), none, none] [] h ce sl := by
  obtain ⟨x1, x1a, x1b, x1e⟩ := sv_x xs (i + 1)
  refine di_aload_n la_1216 rfl ?_
  refine dr_aload_n la_1217 rfl (Or.inr (Or.inr ⟨_, rfl⟩)) ?_
  refine dr_iload la_1218 rfl ?_
  refine di_const la_1220 ?_
  refine di_iadd la_1221 ?_
  refine dr_xldE la_1222 (by omega) (by omega) hL x1e ?_
  refine di_aload_n la_1223 rfl ?_
  refine dr_statH la_1224 rfl (by decide +kernel) rfl (t_L_ofPart l hl hI hS (by omega) (a1 := x1) (by omega) (by omega)) (by decide) (by omega) (by omega) (Nat.le_of_ble_eq_true rfl) kQLN (kQL (fun h11 hI12 hF13 hS14 hq16 ho17 => ?_))
  have hM15 := MSt_FL hM hF13
  refine di_istore (ls2 := [some (.retAddr 2), some (.ref 0), some (.ref 26), some (.ref 36), some (dI i), some (dI (spOfPart σ x1).1), none]) la_1227 rfl rfl ?_
  refine di_aload_n la_1229 rfl ?_
  refine dr_aload_n la_1230 rfl (Or.inr (Or.inr ⟨_, rfl⟩)) ?_
  refine dr_iload la_1231 rfl ?_
  refine di_const la_1233 ?_
  refine di_iadd la_1234 ?_
  refine dr_xldE la_1235 (by omega) (by omega) hL x1e ?_
  obtain ⟨nic23, c23, -⟩ := hM15.1
  refine dr_virt la_1236 rfl rfl rfl c23 (n_X8_ofPart l hl hI12 hM15 (a1 := x1) (by omega) (by omega) ) (by decide) (by omega) (by omega) (Nat.le_of_ble_eq_true rfl) kQM9N (kQM9 (fun a24 h18 hI19 hF20 hM22 a24a a24b a24e => ?_))
  have hS21 := CSt_FrM2 hS14 hF20
  refine di_istore (ls2 := [some (.retAddr 2), some (.ref 0), some (.ref 26), some (.ref 36), some (dI i), some (dI (spOfPart σ x1).1), some (dI a24)]) la_1239 rfl rfl ?_
  refine dr_goto la_1241 rfl ?_
  refine dm_wk (ls2 := [some (.retAddr 2), some (.ref 0), some (.ref 26), some (.ref 36), some (dI i), none, none]) ⟨Or.inr rfl, Or.inr rfl, Or.inr rfl, Or.inr rfl, Or.inr rfl, Or.inl rfl, Or.inl rfl, trivial⟩ ?_
  refine dm_cew (ce2 := ce + 2000) (sl2 := sl + 60000) (by omega) (by omega) ?_
  exact K _ _ _ _ _ hI19 hS21 hM22 (by omega)
set_option maxHeartbeats 4000000 in
set_option maxRecDepth 100000 in
theorem lw_c20 (l : Launch) (hl : l.stackTraces = false) {L : Nat} {xs : Nat → Int32} (hL : L ≤ 384) {kc : Int} {h : dm_H} {B : Int} {σ : St} {th : Int} (hI : Inv kc kc h) (hS : CSt B σ h) (hM : MSt kc th σ h) {i : Int} (hi0 : 0 ≤ i) (hi6 : i + 6 ≤ L) (hB : 6 * B ≤ 20 * i) {ce sl : Nat} (hce : ce + 2000 ≤ 1200128) (hsl : sl + 60000 ≤ 5501098) (K : lw_K l L xs i (ce + 2000) (sl + 60000)) : dm_W (lw_E L xs) lw_PL l 329 420 1200128 5501098 1244 [some (.retAddr 2), some (.ref 0), some (.ref 26), some (.ref 36), some (dI i), none, none] [] h ce sl := by
  refine di_aload_n la_1244 rfl ?_
  refine di_aload_n la_1245 rfl ?_
  refine dr_statH la_1246 rfl (by decide +kernel) rfl (w_L_partText l hl hI ) (by decide) (by omega) (by omega) (Nat.le_of_ble_eq_true rfl) kNSw (kISw (fun y16 h11 hI12 hF13 y16f y16a y16b => ?_))
  clear y16f
  have hS14 := CSt_FW hS hF13
  have hM15 := MSt_FW hM hF13
  refine di_istore (ls2 := [some (.retAddr 2), some (.ref 0), some (.ref 26), some (.ref 36), some (dI i), some (dI y16), none]) la_1249 rfl rfl ?_
  refine di_aload_n la_1251 rfl ?_
  obtain ⟨nic22, c22, -⟩ := hM15.1
  refine dr_virt la_1252 rfl rfl rfl c22 (w_X8_partText l hl hI12 ) (by decide) (by omega) (by omega) (Nat.le_of_ble_eq_true rfl) kNSt (kOSt (fun y23 h17 hI18 hF19 y23m => ?_))
  have hS20 := CSt_FT hS14 hI12 hF19
  obtain ⟨th24, hM21⟩ := MSt_FT hM15 hI12 hI18 hF19
  refine dr_astoreU la_1255 rfl y23m ?_
  show dm_W (lw_E L xs) lw_PL l 329 420 1200128 5501098 1257 [some (.retAddr 2), some (.ref 0), some (.ref 26), some (.ref 36), some (dI i), some (dI y16), some (y23)] [] h17 ((ce + 59) + 58) ((sl + 22030) + 22024)
  clear y23m
  refine dr_goto la_1257 rfl ?_
  refine dm_wk (ls2 := [some (.retAddr 2), some (.ref 0), some (.ref 26), some (.ref 36), some (dI i), none, none]) ⟨Or.inr rfl, Or.inr rfl, Or.inr rfl, Or.inr rfl, Or.inr rfl, Or.inl rfl, Or.inl rfl, trivial⟩ ?_
  refine dm_cew (ce2 := ce + 2000) (sl2 := sl + 60000) (by omega) (by omega) ?_
  exact K _ _ _ _ _ hI18 hS20 hM21 (by omega)
set_option maxHeartbeats 4000000 in
set_option maxRecDepth 100000 in
theorem lw_c21 (l : Launch) (hl : l.stackTraces = false) {L : Nat} {xs : Nat → Int32} (hL : L ≤ 384) {kc : Int} {h : dm_H} {B : Int} {σ : St} {th : Int} (hI : Inv kc kc h) (hS : CSt B σ h) (hM : MSt kc th σ h) {i : Int} (hi0 : 0 ≤ i) (hi6 : i + 6 ≤ L) (hB : 6 * B ≤ 20 * i) {ce sl : Nat} (hce : ce + 2000 ≤ 1200128) (hsl : sl + 60000 ≤ 5501098) (K : lw_K l L xs i (ce + 2000) (sl + 60000)) : dm_W (lw_E L xs) lw_PL l 329 420 1200128 5501098 1260 [some (.retAddr 2), some (.ref 0), some (.ref 26), some (.ref 36), some (dI i), none, none] [] h ce sl := by
  obtain ⟨x1, x1a, x1b, x1e⟩ := sv_x xs (i + 1)
  refine di_aload_n la_1260 rfl ?_
  refine dr_aload_n la_1261 rfl (Or.inr (Or.inr ⟨_, rfl⟩)) ?_
  refine dr_iload la_1262 rfl ?_
  refine di_const la_1264 ?_
  refine di_iadd la_1265 ?_
  refine dr_xldE la_1266 (by omega) (by omega) hL x1e ?_
  refine di_aload_n la_1267 rfl ?_
  refine dr_statH la_1268 rfl (by decide +kernel) rfl (t_L_hand l hl hI hS (by omega) (a1 := x1) (by omega) (by omega)) (by decide) (by omega) (by omega) (Nat.le_of_ble_eq_true rfl) kQLN (kQL (fun h11 hI12 hF13 hS14 hq16 ho17 => ?_))
  have hM15 := MSt_FL hM hF13
  refine di_istore (ls2 := [some (.retAddr 2), some (.ref 0), some (.ref 26), some (.ref 36), some (dI i), some (dI (spHand σ x1).1), none]) la_1271 rfl rfl ?_
  refine di_aload_n la_1273 rfl ?_
  refine dr_aload_n la_1274 rfl (Or.inr (Or.inr ⟨_, rfl⟩)) ?_
  refine dr_iload la_1275 rfl ?_
  refine di_const la_1277 ?_
  refine di_iadd la_1278 ?_
  refine dr_xldE la_1279 (by omega) (by omega) hL x1e ?_
  obtain ⟨nic23, c23, -⟩ := hM15.1
  refine dr_virt la_1280 rfl rfl rfl c23 (n_X8_hand l hl hI12 hM15 (a1 := x1) (by omega) (by omega) ) (by decide) (by omega) (by omega) (Nat.le_of_ble_eq_true rfl) kQM9N (kQM9 (fun a24 h18 hI19 hF20 hM22 a24a a24b a24e => ?_))
  have hS21 := CSt_FrM2 hS14 hF20
  refine di_istore (ls2 := [some (.retAddr 2), some (.ref 0), some (.ref 26), some (.ref 36), some (dI i), some (dI (spHand σ x1).1), some (dI a24)]) la_1283 rfl rfl ?_
  refine dr_goto la_1285 rfl ?_
  refine dm_wk (ls2 := [some (.retAddr 2), some (.ref 0), some (.ref 26), some (.ref 36), some (dI i), none, none]) ⟨Or.inr rfl, Or.inr rfl, Or.inr rfl, Or.inr rfl, Or.inr rfl, Or.inl rfl, Or.inl rfl, trivial⟩ ?_
  refine dm_cew (ce2 := ce + 2000) (sl2 := sl + 60000) (by omega) (by omega) ?_
  exact K _ _ _ _ _ hI19 hS21 hM22 (by omega)
set_option maxHeartbeats 4000000 in
set_option maxRecDepth 100000 in
theorem lw_c22 (l : Launch) (hl : l.stackTraces = false) {L : Nat} {xs : Nat → Int32} (hL : L ≤ 384) {kc : Int} {h : dm_H} {B : Int} {σ : St} {th : Int} (hI : Inv kc kc h) (hS : CSt B σ h) (hM : MSt kc th σ h) {i : Int} (hi0 : 0 ≤ i) (hi6 : i + 6 ≤ L) (hB : 6 * B ≤ 20 * i) {ce sl : Nat} (hce : ce + 2000 ≤ 1200128) (hsl : sl + 60000 ≤ 5501098) (K : lw_K l L xs i (ce + 2000) (sl + 60000)) : dm_W (lw_E L xs) lw_PL l 329 420 1200128 5501098 1288 [some (.retAddr 2), some (.ref 0), some (.ref 26), some (.ref 36), some (dI i), none, none] [] h ce sl := by
  refine di_aload_n la_1288 rfl ?_
  refine di_aload_n la_1289 rfl ?_
  refine dr_statH la_1290 rfl (by decide +kernel) rfl (t_L_next l hl hI hS (by omega) ) (by decide) (by omega) (by omega) (Nat.le_of_ble_eq_true rfl) kQLN (kQL (fun h11 hI12 hF13 hS14 hq16 ho17 => ?_))
  have hM15 := MSt_FL hM hF13
  refine di_istore (ls2 := [some (.retAddr 2), some (.ref 0), some (.ref 26), some (.ref 36), some (dI i), some (dI (spNext σ).1), none]) la_1293 rfl rfl ?_
  refine di_aload_n la_1295 rfl ?_
  obtain ⟨nic23, c23, -⟩ := hM15.1
  refine dr_virt la_1296 rfl rfl rfl c23 (n_X8_next l hl hI12 hM15  ) (by decide) (by omega) (by omega) (Nat.le_of_ble_eq_true rfl) kQM9N (kQM9 (fun a24 h18 hI19 hF20 hM22 a24a a24b a24e => ?_))
  have hS21 := CSt_FrM2 hS14 hF20
  refine di_istore (ls2 := [some (.retAddr 2), some (.ref 0), some (.ref 26), some (.ref 36), some (dI i), some (dI (spNext σ).1), some (dI a24)]) la_1299 rfl rfl ?_
  refine dr_goto la_1301 rfl ?_
  refine dm_wk (ls2 := [some (.retAddr 2), some (.ref 0), some (.ref 26), some (.ref 36), some (dI i), none, none]) ⟨Or.inr rfl, Or.inr rfl, Or.inr rfl, Or.inr rfl, Or.inr rfl, Or.inl rfl, Or.inl rfl, trivial⟩ ?_
  refine dm_cew (ce2 := ce + 2000) (sl2 := sl + 60000) (by omega) (by omega) ?_
  exact K _ _ _ _ _ hI19 hS21 hM22 (by omega)
set_option maxHeartbeats 4000000 in
set_option maxRecDepth 100000 in
theorem lw_c23 (l : Launch) (hl : l.stackTraces = false) {L : Nat} {xs : Nat → Int32} (hL : L ≤ 384) {kc : Int} {h : dm_H} {B : Int} {σ : St} {th : Int} (hI : Inv kc kc h) (hS : CSt B σ h) (hM : MSt kc th σ h) {i : Int} (hi0 : 0 ≤ i) (hi6 : i + 6 ≤ L) (hB : 6 * B ≤ 20 * i) {ce sl : Nat} (hce : ce + 2000 ≤ 1200128) (hsl : sl + 60000 ≤ 5501098) (K : lw_K l L xs i (ce + 2000) (sl + 60000)) : dm_W (lw_E L xs) lw_PL l 329 420 1200128 5501098 1304 [some (.retAddr 2), some (.ref 0), some (.ref 26), some (.ref 36), some (dI i), none, none] [] h ce sl := by
  obtain ⟨x1, x1a, x1b, x1e⟩ := sv_x xs (i + 1)
  refine di_aload_n la_1304 rfl ?_
  refine dr_aload_n la_1305 rfl (Or.inr (Or.inr ⟨_, rfl⟩)) ?_
  refine dr_iload la_1306 rfl ?_
  refine di_const la_1308 ?_
  refine di_iadd la_1309 ?_
  refine dr_xldE la_1310 (by omega) (by omega) hL x1e ?_
  refine di_aload_n la_1311 rfl ?_
  refine dr_statH la_1312 rfl (by decide +kernel) rfl (t_L_renote l hl hI hS (by omega) (a1 := x1) (by omega) (by omega)) (by decide) (by omega) (by omega) (Nat.le_of_ble_eq_true rfl) kQLN (kQL (fun h11 hI12 hF13 hS14 hq16 ho17 => ?_))
  have hM15 := MSt_FL hM hF13
  refine di_istore (ls2 := [some (.retAddr 2), some (.ref 0), some (.ref 26), some (.ref 36), some (dI i), some (dI (spRenote σ x1).1), none]) la_1315 rfl rfl ?_
  refine di_aload_n la_1317 rfl ?_
  refine dr_aload_n la_1318 rfl (Or.inr (Or.inr ⟨_, rfl⟩)) ?_
  refine dr_iload la_1319 rfl ?_
  refine di_const la_1321 ?_
  refine di_iadd la_1322 ?_
  refine dr_xldE la_1323 (by omega) (by omega) hL x1e ?_
  obtain ⟨nic23, c23, -⟩ := hM15.1
  refine dr_virt la_1324 rfl rfl rfl c23 (n_X8_renote l hl hI12 hM15 (a1 := x1) (by omega) (by omega) (CSt_hH hS)) (by decide) (by omega) (by omega) (Nat.le_of_ble_eq_true rfl) kQM9N (kQM9 (fun a24 h18 hI19 hF20 hM22 a24a a24b a24e => ?_))
  have hS21 := CSt_FrM2 hS14 hF20
  refine di_istore (ls2 := [some (.retAddr 2), some (.ref 0), some (.ref 26), some (.ref 36), some (dI i), some (dI (spRenote σ x1).1), some (dI a24)]) la_1327 rfl rfl ?_
  refine dr_goto la_1329 rfl ?_
  refine dm_wk (ls2 := [some (.retAddr 2), some (.ref 0), some (.ref 26), some (.ref 36), some (dI i), none, none]) ⟨Or.inr rfl, Or.inr rfl, Or.inr rfl, Or.inr rfl, Or.inr rfl, Or.inl rfl, Or.inl rfl, trivial⟩ ?_
  refine dm_cew (ce2 := ce + 2000) (sl2 := sl + 60000) (by omega) (by omega) ?_
  exact K _ _ _ _ _ hI19 hS21 hM22 (by omega)
set_option maxHeartbeats 4000000 in
set_option maxRecDepth 100000 in
theorem lw_c24 (l : Launch) (hl : l.stackTraces = false) {L : Nat} {xs : Nat → Int32} (hL : L ≤ 384) {kc : Int} {h : dm_H} {B : Int} {σ : St} {th : Int} (hI : Inv kc kc h) (hS : CSt B σ h) (hM : MSt kc th σ h) {i : Int} (hi0 : 0 ≤ i) (hi6 : i + 6 ≤ L) (hB : 6 * B ≤ 20 * i) {ce sl : Nat} (hce : ce + 2000 ≤ 1200128) (hsl : sl + 60000 ≤ 5501098) (K : lw_K l L xs i (ce + 2000) (sl + 60000)) : dm_W (lw_E L xs) lw_PL l 329 420 1200128 5501098 1332 [some (.retAddr 2), some (.ref 0), some (.ref 26), some (.ref 36), some (dI i), none, none] [] h ce sl := by
  refine di_aload_n la_1332 rfl ?_
  refine di_aload_n la_1333 rfl ?_
  refine dr_statH la_1334 rfl (by decide +kernel) rfl (t_L_takeOut l hl hI hS (by omega) ) (by decide) (by omega) (by omega) (Nat.le_of_ble_eq_true rfl) kQLN (kQL (fun h11 hI12 hF13 hS14 hq16 ho17 => ?_))
  have hM15 := MSt_FL hM hF13
  refine di_istore (ls2 := [some (.retAddr 2), some (.ref 0), some (.ref 26), some (.ref 36), some (dI i), some (dI (spTakeOut σ).1), none]) la_1337 rfl rfl ?_
  refine di_aload_n la_1339 rfl ?_
  obtain ⟨nic23, c23, -⟩ := hM15.1
  refine dr_virt la_1340 rfl rfl rfl c23 (n_X8_takeOut l hl hI12 hM15  (CSt_hH hS)) (by decide) (by omega) (by omega) (Nat.le_of_ble_eq_true rfl) kQM9N (kQM9 (fun a24 h18 hI19 hF20 hM22 a24a a24b a24e => ?_))
  have hS21 := CSt_FrM2 hS14 hF20
  refine di_istore (ls2 := [some (.retAddr 2), some (.ref 0), some (.ref 26), some (.ref 36), some (dI i), some (dI (spTakeOut σ).1), some (dI a24)]) la_1343 rfl rfl ?_
  refine dr_goto la_1345 rfl ?_
  refine dm_wk (ls2 := [some (.retAddr 2), some (.ref 0), some (.ref 26), some (.ref 36), some (dI i), none, none]) ⟨Or.inr rfl, Or.inr rfl, Or.inr rfl, Or.inr rfl, Or.inr rfl, Or.inl rfl, Or.inl rfl, trivial⟩ ?_
  refine dm_cew (ce2 := ce + 2000) (sl2 := sl + 60000) (by omega) (by omega) ?_
  exact K _ _ _ _ _ hI19 hS21 hM22 (by omega)
set_option maxHeartbeats 4000000 in
set_option maxRecDepth 100000 in
theorem lw_c25 (l : Launch) (hl : l.stackTraces = false) {L : Nat} {xs : Nat → Int32} (hL : L ≤ 384) {kc : Int} {h : dm_H} {B : Int} {σ : St} {th : Int} (hI : Inv kc kc h) (hS : CSt B σ h) (hM : MSt kc th σ h) {i : Int} (hi0 : 0 ≤ i) (hi6 : i + 6 ≤ L) (hB : 6 * B ≤ 20 * i) {ce sl : Nat} (hce : ce + 2000 ≤ 1200128) (hsl : sl + 60000 ≤ 5501098) (K : lw_K l L xs i (ce + 2000) (sl + 60000)) : dm_W (lw_E L xs) lw_PL l 329 420 1200128 5501098 1348 [some (.retAddr 2), some (.ref 0), some (.ref 26), some (.ref 36), some (dI i), none, none] [] h ce sl := by
  obtain ⟨x1, x1a, x1b, x1e⟩ := sv_x xs (i + 1)
  obtain ⟨x2, x2a, x2b, x2e⟩ := sv_x xs (i + 2)
  refine di_aload_n la_1348 rfl ?_
  refine dr_aload_n la_1349 rfl (Or.inr (Or.inr ⟨_, rfl⟩)) ?_
  refine dr_iload la_1350 rfl ?_
  refine di_const la_1352 ?_
  refine di_iadd la_1353 ?_
  refine dr_xldE la_1354 (by omega) (by omega) hL x1e ?_
  refine dr_aload_n la_1355 rfl (Or.inr (Or.inr ⟨_, rfl⟩)) ?_
  refine dr_iload la_1356 rfl ?_
  refine di_const la_1358 ?_
  refine di_iadd la_1359 ?_
  refine dr_xldE la_1360 (by omega) (by omega) hL x2e ?_
  refine di_aload_n la_1361 rfl ?_
  refine dr_statH la_1362 rfl (by decide +kernel) rfl (t_L_ofBook l hl hI hS (by omega) (a1 := x1) (by omega) (by omega) (a2 := x2) (by omega) (by omega)) (by decide) (by omega) (by omega) (Nat.le_of_ble_eq_true rfl) kQLN (kQL (fun h11 hI12 hF13 hS14 hq16 ho17 => ?_))
  have hM15 := MSt_FL hM hF13
  refine di_istore (ls2 := [some (.retAddr 2), some (.ref 0), some (.ref 26), some (.ref 36), some (dI i), some (dI (spOfBook σ x1 x2).1), none]) la_1365 rfl rfl ?_
  refine di_aload_n la_1367 rfl ?_
  refine dr_aload_n la_1368 rfl (Or.inr (Or.inr ⟨_, rfl⟩)) ?_
  refine dr_iload la_1369 rfl ?_
  refine di_const la_1371 ?_
  refine di_iadd la_1372 ?_
  refine dr_xldE la_1373 (by omega) (by omega) hL x1e ?_
  refine dr_aload_n la_1374 rfl (Or.inr (Or.inr ⟨_, rfl⟩)) ?_
  refine dr_iload la_1375 rfl ?_
  refine di_const la_1377 ?_
  refine di_iadd la_1378 ?_
  refine dr_xldE la_1379 (by omega) (by omega) hL x2e ?_
  obtain ⟨nic23, c23, -⟩ := hM15.1
  refine dr_virt la_1380 rfl rfl rfl c23 (n_X8_ofBook l hl hI12 hM15 (a1 := x1) (by omega) (by omega) (a2 := x2) (by omega) (by omega) (CSt_sSt hS)) (by decide) (by omega) (by omega) (Nat.le_of_ble_eq_true rfl) kQM9N (kQM9 (fun a24 h18 hI19 hF20 hM22 a24a a24b a24e => ?_))
  have hS21 := CSt_FrM2 hS14 hF20
  refine di_istore (ls2 := [some (.retAddr 2), some (.ref 0), some (.ref 26), some (.ref 36), some (dI i), some (dI (spOfBook σ x1 x2).1), some (dI a24)]) la_1383 rfl rfl ?_
  refine dr_goto la_1385 rfl ?_
  refine dm_wk (ls2 := [some (.retAddr 2), some (.ref 0), some (.ref 26), some (.ref 36), some (dI i), none, none]) ⟨Or.inr rfl, Or.inr rfl, Or.inr rfl, Or.inr rfl, Or.inr rfl, Or.inl rfl, Or.inl rfl, trivial⟩ ?_
  refine dm_cew (ce2 := ce + 2000) (sl2 := sl + 60000) (by omega) (by omega) ?_
  exact K _ _ _ _ _ hI19 hS21 hM22 (by omega)
set_option maxHeartbeats 4000000 in
set_option maxRecDepth 100000 in
theorem lw_c26 (l : Launch) (hl : l.stackTraces = false) {L : Nat} {xs : Nat → Int32} (hL : L ≤ 384) {kc : Int} {h : dm_H} {B : Int} {σ : St} {th : Int} (hI : Inv kc kc h) (hS : CSt B σ h) (hM : MSt kc th σ h) {i : Int} (hi0 : 0 ≤ i) (hi6 : i + 6 ≤ L) (hB : 6 * B ≤ 20 * i) {ce sl : Nat} (hce : ce + 2000 ≤ 1200128) (hsl : sl + 60000 ≤ 5501098) (K : lw_K l L xs i (ce + 2000) (sl + 60000)) : dm_W (lw_E L xs) lw_PL l 329 420 1200128 5501098 1388 [some (.retAddr 2), some (.ref 0), some (.ref 26), some (.ref 36), some (dI i), none, none] [] h ce sl := by
  obtain ⟨x1, x1a, x1b, x1e⟩ := sv_x xs (i + 1)
  obtain ⟨x2, x2a, x2b, x2e⟩ := sv_x xs (i + 2)
  obtain ⟨x3, x3a, x3b, x3e⟩ := sv_x xs (i + 3)
  obtain ⟨x4, x4a, x4b, x4e⟩ := sv_x xs (i + 4)
  refine di_aload_n la_1388 rfl ?_
  refine dr_aload_n la_1389 rfl (Or.inr (Or.inr ⟨_, rfl⟩)) ?_
  refine dr_iload la_1390 rfl ?_
  refine di_const la_1392 ?_
  refine di_iadd la_1393 ?_
  refine dr_xldE la_1394 (by omega) (by omega) hL x1e ?_
  refine dr_aload_n la_1395 rfl (Or.inr (Or.inr ⟨_, rfl⟩)) ?_
  refine dr_iload la_1396 rfl ?_
  refine di_const la_1398 ?_
  refine di_iadd la_1399 ?_
  refine dr_xldE la_1400 (by omega) (by omega) hL x2e ?_
  refine dr_aload_n la_1401 rfl (Or.inr (Or.inr ⟨_, rfl⟩)) ?_
  refine dr_iload la_1402 rfl ?_
  refine di_const la_1404 ?_
  refine di_iadd la_1405 ?_
  refine dr_xldE la_1406 (by omega) (by omega) hL x3e ?_
  refine dr_aload_n la_1407 rfl (Or.inr (Or.inr ⟨_, rfl⟩)) ?_
  refine dr_iload la_1408 rfl ?_
  refine di_const la_1410 ?_
  refine di_iadd la_1411 ?_
  refine dr_xldE la_1412 (by omega) (by omega) hL x4e ?_
  refine di_aload_n la_1413 rfl ?_
  refine dr_statH la_1414 rfl (by decide +kernel) rfl (t_L_noteOf l hl hI hS (by omega) (a1 := x1) (by omega) (by omega) (a2 := x2) (by omega) (by omega) (a3 := x3) (by omega) (by omega) (a4 := x4) (by omega) (by omega)) (by decide) (by omega) (by omega) (Nat.le_of_ble_eq_true rfl) kQLN (kQL (fun h11 hI12 hF13 hS14 hq16 ho17 => ?_))
  have hM15 := MSt_FL hM hF13
  refine di_istore (ls2 := [some (.retAddr 2), some (.ref 0), some (.ref 26), some (.ref 36), some (dI i), some (dI (spNoteOf σ x1 x2 x3 x4).1), none]) la_1417 rfl rfl ?_
  refine di_aload_n la_1419 rfl ?_
  refine dr_aload_n la_1420 rfl (Or.inr (Or.inr ⟨_, rfl⟩)) ?_
  refine dr_iload la_1421 rfl ?_
  refine di_const la_1423 ?_
  refine di_iadd la_1424 ?_
  refine dr_xldE la_1425 (by omega) (by omega) hL x1e ?_
  refine dr_aload_n la_1426 rfl (Or.inr (Or.inr ⟨_, rfl⟩)) ?_
  refine dr_iload la_1427 rfl ?_
  refine di_const la_1429 ?_
  refine di_iadd la_1430 ?_
  refine dr_xldE la_1431 (by omega) (by omega) hL x2e ?_
  refine dr_aload_n la_1432 rfl (Or.inr (Or.inr ⟨_, rfl⟩)) ?_
  refine dr_iload la_1433 rfl ?_
  refine di_const la_1435 ?_
  refine di_iadd la_1436 ?_
  refine dr_xldE la_1437 (by omega) (by omega) hL x3e ?_
  refine dr_aload_n la_1438 rfl (Or.inr (Or.inr ⟨_, rfl⟩)) ?_
  refine dr_iload la_1439 rfl ?_
  refine di_const la_1441 ?_
  refine di_iadd la_1442 ?_
  refine dr_xldE la_1443 (by omega) (by omega) hL x4e ?_
  obtain ⟨nic23, c23, -⟩ := hM15.1
  refine dr_virt la_1444 rfl rfl rfl c23 (n_X8_noteOf l hl hI12 hM15 (a1 := x1) (by omega) (by omega) (a2 := x2) (by omega) (by omega) (a3 := x3) (by omega) (by omega) (a4 := x4) (by omega) (by omega) ) (by decide) (by omega) (by omega) (Nat.le_of_ble_eq_true rfl) kQM9N (kQM9 (fun a24 h18 hI19 hF20 hM22 a24a a24b a24e => ?_))
  have hS21 := CSt_FrM2 hS14 hF20
  refine di_istore (ls2 := [some (.retAddr 2), some (.ref 0), some (.ref 26), some (.ref 36), some (dI i), some (dI (spNoteOf σ x1 x2 x3 x4).1), some (dI a24)]) la_1447 rfl rfl ?_
  refine dr_goto la_1449 rfl ?_
  refine dm_wk (ls2 := [some (.retAddr 2), some (.ref 0), some (.ref 26), some (.ref 36), some (dI i), none, none]) ⟨Or.inr rfl, Or.inr rfl, Or.inr rfl, Or.inr rfl, Or.inr rfl, Or.inl rfl, Or.inl rfl, trivial⟩ ?_
  refine dm_cew (ce2 := ce + 2000) (sl2 := sl + 60000) (by omega) (by omega) ?_
  exact K _ _ _ _ _ hI19 hS21 hM22 (by omega)
set_option maxHeartbeats 4000000 in
set_option maxRecDepth 100000 in
theorem lw_c27 (l : Launch) (hl : l.stackTraces = false) {L : Nat} {xs : Nat → Int32} (hL : L ≤ 384) {kc : Int} {h : dm_H} {B : Int} {σ : St} {th : Int} (hI : Inv kc kc h) (hS : CSt B σ h) (hM : MSt kc th σ h) {i : Int} (hi0 : 0 ≤ i) (hi6 : i + 6 ≤ L) (hB : 6 * B ≤ 20 * i) {ce sl : Nat} (hce : ce + 2000 ≤ 1200128) (hsl : sl + 60000 ≤ 5501098) (K : lw_K l L xs i (ce + 2000) (sl + 60000)) : dm_W (lw_E L xs) lw_PL l 329 420 1200128 5501098 1452 [some (.retAddr 2), some (.ref 0), some (.ref 26), some (.ref 36), some (dI i), none, none] [] h ce sl := by
  obtain ⟨x1, x1a, x1b, x1e⟩ := sv_x xs (i + 1)
  obtain ⟨x2, x2a, x2b, x2e⟩ := sv_x xs (i + 2)
  obtain ⟨x3, x3a, x3b, x3e⟩ := sv_x xs (i + 3)
  refine di_aload_n la_1452 rfl ?_
  refine dr_aload_n la_1453 rfl (Or.inr (Or.inr ⟨_, rfl⟩)) ?_
  refine dr_iload la_1454 rfl ?_
  refine di_const la_1456 ?_
  refine di_iadd la_1457 ?_
  refine dr_xldE la_1458 (by omega) (by omega) hL x1e ?_
  refine dr_aload_n la_1459 rfl (Or.inr (Or.inr ⟨_, rfl⟩)) ?_
  refine dr_iload la_1460 rfl ?_
  refine di_const la_1462 ?_
  refine di_iadd la_1463 ?_
  refine dr_xldE la_1464 (by omega) (by omega) hL x2e ?_
  refine dr_aload_n la_1465 rfl (Or.inr (Or.inr ⟨_, rfl⟩)) ?_
  refine dr_iload la_1466 rfl ?_
  refine di_const la_1468 ?_
  refine di_iadd la_1469 ?_
  refine dr_xldE la_1470 (by omega) (by omega) hL x3e ?_
  refine di_aload_n la_1471 rfl ?_
  refine dr_statH la_1472 rfl (by decide +kernel) rfl (t_L_has l hl hI hS (by omega) (a1 := x1) (by omega) (by omega) (a2 := x2) (by omega) (by omega) (a3 := x3) (by omega) (by omega)) (by decide) (by omega) (by omega) (Nat.le_of_ble_eq_true rfl) kQLN (kQL (fun h11 hI12 hF13 hS14 hq16 ho17 => ?_))
  have hM15 := MSt_FL hM hF13
  refine di_istore (ls2 := [some (.retAddr 2), some (.ref 0), some (.ref 26), some (.ref 36), some (dI i), some (dI (spHas σ x1 x2 x3).1), none]) la_1475 rfl rfl ?_
  refine di_aload_n la_1477 rfl ?_
  refine dr_aload_n la_1478 rfl (Or.inr (Or.inr ⟨_, rfl⟩)) ?_
  refine dr_iload la_1479 rfl ?_
  refine di_const la_1481 ?_
  refine di_iadd la_1482 ?_
  refine dr_xldE la_1483 (by omega) (by omega) hL x1e ?_
  refine dr_aload_n la_1484 rfl (Or.inr (Or.inr ⟨_, rfl⟩)) ?_
  refine dr_iload la_1485 rfl ?_
  refine di_const la_1487 ?_
  refine di_iadd la_1488 ?_
  refine dr_xldE la_1489 (by omega) (by omega) hL x2e ?_
  refine dr_aload_n la_1490 rfl (Or.inr (Or.inr ⟨_, rfl⟩)) ?_
  refine dr_iload la_1491 rfl ?_
  refine di_const la_1493 ?_
  refine di_iadd la_1494 ?_
  refine dr_xldE la_1495 (by omega) (by omega) hL x3e ?_
  obtain ⟨nic23, c23, -⟩ := hM15.1
  refine dr_virt la_1496 rfl rfl rfl c23 (n_X8_has l hl hI12 hM15 (a1 := x1) (by omega) (by omega) (a2 := x2) (by omega) (by omega) (a3 := x3) (by omega) (by omega) ) (by decide) (by omega) (by omega) (Nat.le_of_ble_eq_true rfl) kQM9N (kQM9 (fun a24 h18 hI19 hF20 hM22 a24a a24b a24e => ?_))
  have hS21 := CSt_FrM2 hS14 hF20
  refine di_istore (ls2 := [some (.retAddr 2), some (.ref 0), some (.ref 26), some (.ref 36), some (dI i), some (dI (spHas σ x1 x2 x3).1), some (dI a24)]) la_1499 rfl rfl ?_
  refine dr_goto la_1501 rfl ?_
  refine dm_wk (ls2 := [some (.retAddr 2), some (.ref 0), some (.ref 26), some (.ref 36), some (dI i), none, none]) ⟨Or.inr rfl, Or.inr rfl, Or.inr rfl, Or.inr rfl, Or.inr rfl, Or.inl rfl, Or.inl rfl, trivial⟩ ?_
  refine dm_cew (ce2 := ce + 2000) (sl2 := sl + 60000) (by omega) (by omega) ?_
  exact K _ _ _ _ _ hI19 hS21 hM22 (by omega)
set_option maxHeartbeats 4000000 in
set_option maxRecDepth 100000 in
theorem lw_c28 (l : Launch) (hl : l.stackTraces = false) {L : Nat} {xs : Nat → Int32} (hL : L ≤ 384) {kc : Int} {h : dm_H} {B : Int} {σ : St} {th : Int} (hI : Inv kc kc h) (hS : CSt B σ h) (hM : MSt kc th σ h) {i : Int} (hi0 : 0 ≤ i) (hi6 : i + 6 ≤ L) (hB : 6 * B ≤ 20 * i) {ce sl : Nat} (hce : ce + 2000 ≤ 1200128) (hsl : sl + 60000 ≤ 5501098) (K : lw_K l L xs i (ce + 2000) (sl + 60000)) : dm_W (lw_E L xs) lw_PL l 329 420 1200128 5501098 1504 [some (.retAddr 2), some (.ref 0), some (.ref 26), some (.ref 36), some (dI i), none, none] [] h ce sl := by
  obtain ⟨x1, x1a, x1b, x1e⟩ := sv_x xs (i + 1)
  obtain ⟨x2, x2a, x2b, x2e⟩ := sv_x xs (i + 2)
  refine di_aload_n la_1504 rfl ?_
  refine dr_aload_n la_1505 rfl (Or.inr (Or.inr ⟨_, rfl⟩)) ?_
  refine dr_iload la_1506 rfl ?_
  refine di_const la_1508 ?_
  refine di_iadd la_1509 ?_
  refine dr_xldE la_1510 (by omega) (by omega) hL x1e ?_
  refine dr_aload_n la_1511 rfl (Or.inr (Or.inr ⟨_, rfl⟩)) ?_
  refine dr_iload la_1512 rfl ?_
  refine di_const la_1514 ?_
  refine di_iadd la_1515 ?_
  refine dr_xldE la_1516 (by omega) (by omega) hL x2e ?_
  refine di_aload_n la_1517 rfl ?_
  refine dr_statH la_1518 rfl (by decide +kernel) rfl (t_L_hasNote l hl hI hS (by omega) (a1 := x1) (by omega) (by omega) (a2 := x2) (by omega) (by omega)) (by decide) (by omega) (by omega) (Nat.le_of_ble_eq_true rfl) kQLN (kQL (fun h11 hI12 hF13 hS14 hq16 ho17 => ?_))
  have hM15 := MSt_FL hM hF13
  refine di_istore (ls2 := [some (.retAddr 2), some (.ref 0), some (.ref 26), some (.ref 36), some (dI i), some (dI (spHasNote σ x1 x2).1), none]) la_1521 rfl rfl ?_
  refine di_aload_n la_1523 rfl ?_
  refine dr_aload_n la_1524 rfl (Or.inr (Or.inr ⟨_, rfl⟩)) ?_
  refine dr_iload la_1525 rfl ?_
  refine di_const la_1527 ?_
  refine di_iadd la_1528 ?_
  refine dr_xldE la_1529 (by omega) (by omega) hL x1e ?_
  refine dr_aload_n la_1530 rfl (Or.inr (Or.inr ⟨_, rfl⟩)) ?_
  refine dr_iload la_1531 rfl ?_
  refine di_const la_1533 ?_
  refine di_iadd la_1534 ?_
  refine dr_xldE la_1535 (by omega) (by omega) hL x2e ?_
  obtain ⟨nic23, c23, -⟩ := hM15.1
  refine dr_virt la_1536 rfl rfl rfl c23 (n_X8_hasNote l hl hI12 hM15 (a1 := x1) (by omega) (by omega) (a2 := x2) (by omega) (by omega) ) (by decide) (by omega) (by omega) (Nat.le_of_ble_eq_true rfl) kQM9N (kQM9 (fun a24 h18 hI19 hF20 hM22 a24a a24b a24e => ?_))
  have hS21 := CSt_FrM2 hS14 hF20
  refine di_istore (ls2 := [some (.retAddr 2), some (.ref 0), some (.ref 26), some (.ref 36), some (dI i), some (dI (spHasNote σ x1 x2).1), some (dI a24)]) la_1539 rfl rfl ?_
  refine dr_goto la_1541 rfl ?_
  refine dm_wk (ls2 := [some (.retAddr 2), some (.ref 0), some (.ref 26), some (.ref 36), some (dI i), none, none]) ⟨Or.inr rfl, Or.inr rfl, Or.inr rfl, Or.inr rfl, Or.inr rfl, Or.inl rfl, Or.inl rfl, trivial⟩ ?_
  refine dm_cew (ce2 := ce + 2000) (sl2 := sl + 60000) (by omega) (by omega) ?_
  exact K _ _ _ _ _ hI19 hS21 hM22 (by omega)
set_option maxHeartbeats 4000000 in
set_option maxRecDepth 100000 in
theorem lw_c29 (l : Launch) (hl : l.stackTraces = false) {L : Nat} {xs : Nat → Int32} (hL : L ≤ 384) {kc : Int} {h : dm_H} {B : Int} {σ : St} {th : Int} (hI : Inv kc kc h) (hS : CSt B σ h) (hM : MSt kc th σ h) {i : Int} (hi0 : 0 ≤ i) (hi6 : i + 6 ≤ L) (hB : 6 * B ≤ 20 * i) {ce sl : Nat} (hce : ce + 2000 ≤ 1200128) (hsl : sl + 60000 ≤ 5501098) (K : lw_K l L xs i (ce + 2000) (sl + 60000)) : dm_W (lw_E L xs) lw_PL l 329 420 1200128 5501098 1544 [some (.retAddr 2), some (.ref 0), some (.ref 26), some (.ref 36), some (dI i), none, none] [] h ce sl := by
  obtain ⟨x1, x1a, x1b, x1e⟩ := sv_x xs (i + 1)
  obtain ⟨x2, x2a, x2b, x2e⟩ := sv_x xs (i + 2)
  obtain ⟨x3, x3a, x3b, x3e⟩ := sv_x xs (i + 3)
  obtain ⟨x4, x4a, x4b, x4e⟩ := sv_x xs (i + 4)
  refine di_aload_n la_1544 rfl ?_
  refine dr_aload_n la_1545 rfl (Or.inr (Or.inr ⟨_, rfl⟩)) ?_
  refine dr_iload la_1546 rfl ?_
  refine di_const la_1548 ?_
  refine di_iadd la_1549 ?_
  refine dr_xldE la_1550 (by omega) (by omega) hL x1e ?_
  refine dr_aload_n la_1551 rfl (Or.inr (Or.inr ⟨_, rfl⟩)) ?_
  refine dr_iload la_1552 rfl ?_
  refine di_const la_1554 ?_
  refine di_iadd la_1555 ?_
  refine dr_xldE la_1556 (by omega) (by omega) hL x2e ?_
  refine dr_aload_n la_1557 rfl (Or.inr (Or.inr ⟨_, rfl⟩)) ?_
  refine dr_iload la_1558 rfl ?_
  refine di_const la_1560 ?_
  refine di_iadd la_1561 ?_
  refine dr_xldE la_1562 (by omega) (by omega) hL x3e ?_
  refine dr_aload_n la_1563 rfl (Or.inr (Or.inr ⟨_, rfl⟩)) ?_
  refine dr_iload la_1564 rfl ?_
  refine di_const la_1566 ?_
  refine di_iadd la_1567 ?_
  refine dr_xldE la_1568 (by omega) (by omega) hL x4e ?_
  refine di_aload_n la_1569 rfl ?_
  refine dr_statH la_1570 rfl (by decide +kernel) rfl (t_L_near l hl hI hS (by omega) (a1 := x1) (by omega) (by omega) (a2 := x2) (by omega) (by omega) (a3 := x3) (by omega) (by omega) (a4 := x4) (by omega) (by omega)) (by decide) (by omega) (by omega) (Nat.le_of_ble_eq_true rfl) kQLN (kQL (fun h11 hI12 hF13 hS14 hq16 ho17 => ?_))
  have hM15 := MSt_FL hM hF13
  refine di_istore (ls2 := [some (.retAddr 2), some (.ref 0), some (.ref 26), some (.ref 36), some (dI i), some (dI (spNear σ x1 x2 x3 x4).1), none]) la_1573 rfl rfl ?_
  refine di_aload_n la_1575 rfl ?_
  refine dr_aload_n la_1576 rfl (Or.inr (Or.inr ⟨_, rfl⟩)) ?_
  refine dr_iload la_1577 rfl ?_
  refine di_const la_1579 ?_
  refine di_iadd la_1580 ?_
  refine dr_xldE la_1581 (by omega) (by omega) hL x1e ?_
  refine dr_aload_n la_1582 rfl (Or.inr (Or.inr ⟨_, rfl⟩)) ?_
  refine dr_iload la_1583 rfl ?_
  refine di_const la_1585 ?_
  refine di_iadd la_1586 ?_
  refine dr_xldE la_1587 (by omega) (by omega) hL x2e ?_
  refine dr_aload_n la_1588 rfl (Or.inr (Or.inr ⟨_, rfl⟩)) ?_
  refine dr_iload la_1589 rfl ?_
  refine di_const la_1591 ?_
  refine di_iadd la_1592 ?_
  refine dr_xldE la_1593 (by omega) (by omega) hL x3e ?_
  refine dr_aload_n la_1594 rfl (Or.inr (Or.inr ⟨_, rfl⟩)) ?_
  refine dr_iload la_1595 rfl ?_
  refine di_const la_1597 ?_
  refine di_iadd la_1598 ?_
  refine dr_xldE la_1599 (by omega) (by omega) hL x4e ?_
  obtain ⟨nic23, c23, -⟩ := hM15.1
  refine dr_virt la_1600 rfl rfl rfl c23 (n_X8_near l hl hI12 hM15 (a1 := x1) (by omega) (by omega) (a2 := x2) (by omega) (by omega) (a3 := x3) (by omega) (by omega) (a4 := x4) (by omega) (by omega) ) (by decide) (by omega) (by omega) (Nat.le_of_ble_eq_true rfl) kQM9N (kQM9 (fun a24 h18 hI19 hF20 hM22 a24a a24b a24e => ?_))
  have hS21 := CSt_FrM2 hS14 hF20
  refine di_istore (ls2 := [some (.retAddr 2), some (.ref 0), some (.ref 26), some (.ref 36), some (dI i), some (dI (spNear σ x1 x2 x3 x4).1), some (dI a24)]) la_1603 rfl rfl ?_
  refine dr_goto la_1605 rfl ?_
  refine dm_wk (ls2 := [some (.retAddr 2), some (.ref 0), some (.ref 26), some (.ref 36), some (dI i), none, none]) ⟨Or.inr rfl, Or.inr rfl, Or.inr rfl, Or.inr rfl, Or.inr rfl, Or.inl rfl, Or.inl rfl, trivial⟩ ?_
  refine dm_cew (ce2 := ce + 2000) (sl2 := sl + 60000) (by omega) (by omega) ?_
  exact K _ _ _ _ _ hI19 hS21 hM22 (by omega)
set_option maxHeartbeats 4000000 in
set_option maxRecDepth 100000 in
theorem lw_c30 (l : Launch) (hl : l.stackTraces = false) {L : Nat} {xs : Nat → Int32} (hL : L ≤ 384) {kc : Int} {h : dm_H} {B : Int} {σ : St} {th : Int} (hI : Inv kc kc h) (hS : CSt B σ h) (hM : MSt kc th σ h) {i : Int} (hi0 : 0 ≤ i) (hi6 : i + 6 ≤ L) (hB : 6 * B ≤ 20 * i) {ce sl : Nat} (hce : ce + 2000 ≤ 1200128) (hsl : sl + 60000 ≤ 5501098) (K : lw_K l L xs i (ce + 2000) (sl + 60000)) : dm_W (lw_E L xs) lw_PL l 329 420 1200128 5501098 1608 [some (.retAddr 2), some (.ref 0), some (.ref 26), some (.ref 36), some (dI i), none, none] [] h ce sl := by
  obtain ⟨x1, x1a, x1b, x1e⟩ := sv_x xs (i + 1)
  obtain ⟨x2, x2a, x2b, x2e⟩ := sv_x xs (i + 2)
  obtain ⟨x3, x3a, x3b, x3e⟩ := sv_x xs (i + 3)
  obtain ⟨x4, x4a, x4b, x4e⟩ := sv_x xs (i + 4)
  refine di_aload_n la_1608 rfl ?_
  refine dr_aload_n la_1609 rfl (Or.inr (Or.inr ⟨_, rfl⟩)) ?_
  refine dr_iload la_1610 rfl ?_
  refine di_const la_1612 ?_
  refine di_iadd la_1613 ?_
  refine dr_xldE la_1614 (by omega) (by omega) hL x1e ?_
  refine dr_aload_n la_1615 rfl (Or.inr (Or.inr ⟨_, rfl⟩)) ?_
  refine dr_iload la_1616 rfl ?_
  refine di_const la_1618 ?_
  refine di_iadd la_1619 ?_
  refine dr_xldE la_1620 (by omega) (by omega) hL x2e ?_
  refine dr_aload_n la_1621 rfl (Or.inr (Or.inr ⟨_, rfl⟩)) ?_
  refine dr_iload la_1622 rfl ?_
  refine di_const la_1624 ?_
  refine di_iadd la_1625 ?_
  refine dr_xldE la_1626 (by omega) (by omega) hL x3e ?_
  refine dr_aload_n la_1627 rfl (Or.inr (Or.inr ⟨_, rfl⟩)) ?_
  refine dr_iload la_1628 rfl ?_
  refine di_const la_1630 ?_
  refine di_iadd la_1631 ?_
  refine dr_xldE la_1632 (by omega) (by omega) hL x4e ?_
  refine di_aload_n la_1633 rfl ?_
  refine dr_statH la_1634 rfl (by decide +kernel) rfl (t_L_many l hl hI hS (by omega) (a1 := x1) (by omega) (by omega) (a2 := x2) (by omega) (by omega) (a3 := x3) (by omega) (by omega) (a4 := x4) (by omega) (by omega)) (by decide) (by omega) (by omega) (Nat.le_of_ble_eq_true rfl) kQLN (kQL (fun h11 hI12 hF13 hS14 hq16 ho17 => ?_))
  have hM15 := MSt_FL hM hF13
  refine di_istore (ls2 := [some (.retAddr 2), some (.ref 0), some (.ref 26), some (.ref 36), some (dI i), some (dI (spMany σ x1 x2 x3 x4).1), none]) la_1637 rfl rfl ?_
  refine di_aload_n la_1639 rfl ?_
  refine dr_aload_n la_1640 rfl (Or.inr (Or.inr ⟨_, rfl⟩)) ?_
  refine dr_iload la_1641 rfl ?_
  refine di_const la_1643 ?_
  refine di_iadd la_1644 ?_
  refine dr_xldE la_1645 (by omega) (by omega) hL x1e ?_
  refine dr_aload_n la_1646 rfl (Or.inr (Or.inr ⟨_, rfl⟩)) ?_
  refine dr_iload la_1647 rfl ?_
  refine di_const la_1649 ?_
  refine di_iadd la_1650 ?_
  refine dr_xldE la_1651 (by omega) (by omega) hL x2e ?_
  refine dr_aload_n la_1652 rfl (Or.inr (Or.inr ⟨_, rfl⟩)) ?_
  refine dr_iload la_1653 rfl ?_
  refine di_const la_1655 ?_
  refine di_iadd la_1656 ?_
  refine dr_xldE la_1657 (by omega) (by omega) hL x3e ?_
  refine dr_aload_n la_1658 rfl (Or.inr (Or.inr ⟨_, rfl⟩)) ?_
  refine dr_iload la_1659 rfl ?_
  refine di_const la_1661 ?_
  refine di_iadd la_1662 ?_
  refine dr_xldE la_1663 (by omega) (by omega) hL x4e ?_
  obtain ⟨nic23, c23, -⟩ := hM15.1
  refine dr_virt la_1664 rfl rfl rfl c23 (n_X8_many l hl hI12 hM15 (a1 := x1) (by omega) (by omega) (a2 := x2) (by omega) (by omega) (a3 := x3) (by omega) (by omega) (a4 := x4) (by omega) (by omega) ) (by decide) (by omega) (by omega) (Nat.le_of_ble_eq_true rfl) kQM9N (kQM9 (fun a24 h18 hI19 hF20 hM22 a24a a24b a24e => ?_))
  have hS21 := CSt_FrM2 hS14 hF20
  refine di_istore (ls2 := [some (.retAddr 2), some (.ref 0), some (.ref 26), some (.ref 36), some (dI i), some (dI (spMany σ x1 x2 x3 x4).1), some (dI a24)]) la_1667 rfl rfl ?_
  refine dr_goto la_1669 rfl ?_
  refine dm_wk (ls2 := [some (.retAddr 2), some (.ref 0), some (.ref 26), some (.ref 36), some (dI i), none, none]) ⟨Or.inr rfl, Or.inr rfl, Or.inr rfl, Or.inr rfl, Or.inr rfl, Or.inl rfl, Or.inl rfl, trivial⟩ ?_
  refine dm_cew (ce2 := ce + 2000) (sl2 := sl + 60000) (by omega) (by omega) ?_
  exact K _ _ _ _ _ hI19 hS21 hM22 (by omega)
set_option maxHeartbeats 4000000 in
set_option maxRecDepth 100000 in
theorem lw_c31 (l : Launch) (hl : l.stackTraces = false) {L : Nat} {xs : Nat → Int32} (hL : L ≤ 384) {kc : Int} {h : dm_H} {B : Int} {σ : St} {th : Int} (hI : Inv kc kc h) (hS : CSt B σ h) (hM : MSt kc th σ h) {i : Int} (hi0 : 0 ≤ i) (hi6 : i + 6 ≤ L) (hB : 6 * B ≤ 20 * i) {ce sl : Nat} (hce : ce + 2000 ≤ 1200128) (hsl : sl + 60000 ≤ 5501098) (K : lw_K l L xs i (ce + 2000) (sl + 60000)) : dm_W (lw_E L xs) lw_PL l 329 420 1200128 5501098 1672 [some (.retAddr 2), some (.ref 0), some (.ref 26), some (.ref 36), some (dI i), none, none] [] h ce sl := by
  obtain ⟨x1, x1a, x1b, x1e⟩ := sv_x xs (i + 1)
  obtain ⟨x2, x2a, x2b, x2e⟩ := sv_x xs (i + 2)
  obtain ⟨x3, x3a, x3b, x3e⟩ := sv_x xs (i + 3)
  obtain ⟨x4, x4a, x4b, x4e⟩ := sv_x xs (i + 4)
  obtain ⟨x5, x5a, x5b, x5e⟩ := sv_x xs (i + 5)
  refine di_aload_n la_1672 rfl ?_
  refine dr_aload_n la_1673 rfl (Or.inr (Or.inr ⟨_, rfl⟩)) ?_
  refine dr_iload la_1674 rfl ?_
  refine di_const la_1676 ?_
  refine di_iadd la_1677 ?_
  refine dr_xldE la_1678 (by omega) (by omega) hL x1e ?_
  refine dr_aload_n la_1679 rfl (Or.inr (Or.inr ⟨_, rfl⟩)) ?_
  refine dr_iload la_1680 rfl ?_
  refine di_const la_1682 ?_
  refine di_iadd la_1683 ?_
  refine dr_xldE la_1684 (by omega) (by omega) hL x2e ?_
  refine dr_aload_n la_1685 rfl (Or.inr (Or.inr ⟨_, rfl⟩)) ?_
  refine dr_iload la_1686 rfl ?_
  refine di_const la_1688 ?_
  refine di_iadd la_1689 ?_
  refine dr_xldE la_1690 (by omega) (by omega) hL x3e ?_
  refine dr_aload_n la_1691 rfl (Or.inr (Or.inr ⟨_, rfl⟩)) ?_
  refine dr_iload la_1692 rfl ?_
  refine di_const la_1694 ?_
  refine di_iadd la_1695 ?_
  refine dr_xldE la_1696 (by omega) (by omega) hL x4e ?_
  refine dr_aload_n la_1697 rfl (Or.inr (Or.inr ⟨_, rfl⟩)) ?_
  refine dr_iload la_1698 rfl ?_
  refine di_const la_1700 ?_
  refine di_iadd la_1701 ?_
  refine dr_xldE la_1702 (by omega) (by omega) hL x5e ?_
  refine di_aload_n la_1703 rfl ?_
  refine dr_statH la_1704 rfl (by decide +kernel) rfl (t_L_between l hl hI hS (by omega) (a1 := x1) (by omega) (by omega) (a2 := x2) (by omega) (by omega) (a3 := x3) (by omega) (by omega) (a4 := x4) (by omega) (by omega) (a5 := x5) (by omega) (by omega)) (by decide) (by omega) (by omega) (Nat.le_of_ble_eq_true rfl) kQLN (kQL (fun h11 hI12 hF13 hS14 hq16 ho17 => ?_))
  have hM15 := MSt_FL hM hF13
  refine di_istore (ls2 := [some (.retAddr 2), some (.ref 0), some (.ref 26), some (.ref 36), some (dI i), some (dI (spBetween σ x1 x2 x3 x4 x5).1), none]) la_1707 rfl rfl ?_
  refine di_aload_n la_1709 rfl ?_
  refine dr_aload_n la_1710 rfl (Or.inr (Or.inr ⟨_, rfl⟩)) ?_
  refine dr_iload la_1711 rfl ?_
  refine di_const la_1713 ?_
  refine di_iadd la_1714 ?_
  refine dr_xldE la_1715 (by omega) (by omega) hL x1e ?_
  refine dr_aload_n la_1716 rfl (Or.inr (Or.inr ⟨_, rfl⟩)) ?_
  refine dr_iload la_1717 rfl ?_
  refine di_const la_1719 ?_
  refine di_iadd la_1720 ?_
  refine dr_xldE la_1721 (by omega) (by omega) hL x2e ?_
  refine dr_aload_n la_1722 rfl (Or.inr (Or.inr ⟨_, rfl⟩)) ?_
  refine dr_iload la_1723 rfl ?_
  refine di_const la_1725 ?_
  refine di_iadd la_1726 ?_
  refine dr_xldE la_1727 (by omega) (by omega) hL x3e ?_
  refine dr_aload_n la_1728 rfl (Or.inr (Or.inr ⟨_, rfl⟩)) ?_
  refine dr_iload la_1729 rfl ?_
  refine di_const la_1731 ?_
  refine di_iadd la_1732 ?_
  refine dr_xldE la_1733 (by omega) (by omega) hL x4e ?_
  refine dr_aload_n la_1734 rfl (Or.inr (Or.inr ⟨_, rfl⟩)) ?_
  refine dr_iload la_1735 rfl ?_
  refine di_const la_1737 ?_
  refine di_iadd la_1738 ?_
  refine dr_xldE la_1739 (by omega) (by omega) hL x5e ?_
  obtain ⟨nic23, c23, -⟩ := hM15.1
  refine dr_virt la_1740 rfl rfl rfl c23 (n_X8_between l hl hI12 hM15 (a1 := x1) (by omega) (by omega) (a2 := x2) (by omega) (by omega) (a3 := x3) (by omega) (by omega) (a4 := x4) (by omega) (by omega) (a5 := x5) (by omega) (by omega) ) (by decide) (by omega) (by omega) (Nat.le_of_ble_eq_true rfl) kQM9N (kQM9 (fun a24 h18 hI19 hF20 hM22 a24a a24b a24e => ?_))
  have hS21 := CSt_FrM2 hS14 hF20
  refine di_istore (ls2 := [some (.retAddr 2), some (.ref 0), some (.ref 26), some (.ref 36), some (dI i), some (dI (spBetween σ x1 x2 x3 x4 x5).1), some (dI a24)]) la_1743 rfl rfl ?_
  refine dr_goto la_1745 rfl ?_
  refine dm_wk (ls2 := [some (.retAddr 2), some (.ref 0), some (.ref 26), some (.ref 36), some (dI i), none, none]) ⟨Or.inr rfl, Or.inr rfl, Or.inr rfl, Or.inr rfl, Or.inr rfl, Or.inl rfl, Or.inl rfl, trivial⟩ ?_
  refine dm_cew (ce2 := ce + 2000) (sl2 := sl + 60000) (by omega) (by omega) ?_
  exact K _ _ _ _ _ hI19 hS21 hM22 (by omega)
