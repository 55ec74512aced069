/-! ===== the law's own walk ===== -/
/-- the script: it lies outside and stays; all that is new is the walk's own -/
def lw_E (L : Nat) (xs : Nat → Int32) : dm_Ex := fun g A s => va_X (g 2) L xs s s.heap ∧ g 2 < s.heap.size ∧ ∀ q, A q → s.heap.size ≤ q
def lw_PL : dm_Po := fun _ _ _ _ below args s => lw_Z below args s
def lw_K (l : Launch) (L : Nat) (xs : Nat → Int32) (i : Int) (ce sl : Nat) : Prop := ∀ (kc : Int) (h : dm_H) (B : Int) (σ : St) (th : Int), Inv kc kc h → CSt B σ h → MSt kc th σ h → 6 * B ≤ 20 * (i + 6) → dm_W (lw_E L xs) lw_PL l 329 420 1200128 5501098 2380 [some (.retAddr 2), some (.ref 0), some (.ref 26), some (.ref 36), some (dI i), none, none] [] h ce sl
/-- the script's number at a place -/
noncomputable def sv (xs : Nat → Int32) (u : Int) : Int := (bd_of (xs u.toNat)).choose
theorem sv_b {xs : Nat → Int32} {u : Int} : -2147483648 ≤ sv xs u ∧ sv xs u < 2147483648 := (bd_of (xs u.toNat)).choose_spec.1
theorem sv_e {xs : Nat → Int32} {u : Int} : xs u.toNat = Int32.ofInt (sv xs u) := (bd_of (xs u.toNat)).choose_spec.2
section LWR
variable {P : dm_Po} {l : Launch} {z d MC MS pc ce sl : Nat} {ls : List (Option Value)} {st : List Value} {h : dm_H} {L : Nat} {xs : Nat → Int32}
theorem dr_xlen (hi : dm_at z pc = some (.arraylength, 1, [])) (kk : dm_W (lw_E L xs) P l z d MC MS (pc + 1) ls (dI (L : Int) :: st) h ce sl) : dm_W (lw_E L xs) P l z d MC MS pc ls (.retAddr 2 :: st) h ce sl := by
  intro p e s m args below meth c D g tys L0 L9 ws A H locs lsC stC hK hw hls hst
  obtain ⟨hok, hst9, hx, hb, hre, hml, hown, hts, hS9, hlk, htb, hnm, hA, hE⟩ := id hK
  obtain ⟨hle, hKK, hP, hD, hS, hh0⟩ := id hw
  obtain ⟨hd, -⟩ := dm_ok_at hok hi
  obtain ⟨y, sc, rfl, hj, hs1⟩ := dm_st_cons hst
  have hj : y = .ref (g 2) := hj
  subst hj
  refine va_slen hx hb hE.1 hE.2.1 (fun q => Nat.not_le.mpr hE.2.1 (hE.2.2 _ q)) hS hd ?_
  rw [show Value.int (Int32.ofNat L) = dI (L : Int) from (congrArg Value.int (dI_nI L)).symm]
  exact kk _ _ _ _ _ _ _ _ _ _ _ _ _ _ _ _ _ _ _ hK hw hls ⟨rfl, hs1⟩
theorem dr_xld {u : Int} (hi : dm_at z pc = some (.iaload, 1, [])) (h0 : 0 ≤ u) (h1 : u < L) (hL : L ≤ 384) (kk : ∀ x : Int, -2147483648 ≤ x → x < 2147483648 → dm_W (lw_E L xs) P l z d MC MS (pc + 1) ls (dI x :: st) h ce sl) : dm_W (lw_E L xs) P l z d MC MS pc ls (dI u :: .retAddr 2 :: st) h ce sl := by
  intro p e s m args below meth c D g tys L0 L9 ws A H locs lsC stC hK hw hls hst
  obtain ⟨hok, hst9, hx, hb, hre, hml, hown, hts, hS9, hlk, htb, hnm, hA, hE⟩ := id hK
  obtain ⟨hle, hKK, hP, hD, hS, hh0⟩ := id hw
  obtain ⟨hd, -⟩ := dm_ok_at hok hi
  obtain ⟨y, sc, rfl, hj, hs1⟩ := dm_st_cons hst
  have hj : y = dI u := hj
  subst hj
  obtain ⟨y, sc, rfl, hj, hs2⟩ := dm_st_cons hs1
  have hj : y = .ref (g 2) := hj
  subst hj
  obtain ⟨n, rfl⟩ := Int.eq_ofNat_of_zero_le h0
  have e1 : (nI n).toNatClampNeg = n := nI_clamp (by omega)
  obtain ⟨q, hq, hq2⟩ := bd_of (xs n)
  have e2 : dI (n : Int) = .int (nI n) := congrArg Value.int (dI_nI n)
  rw [e2]
  refine va_sld hx hb hE.1 hE.2.1 (fun q => Nat.not_le.mpr hE.2.1 (hE.2.2 _ q)) hS (i := nI n) (dm_vpin (by omega) (by omega)) hd ?_
  rw [e1, show Value.int (xs n) = dI q from congrArg Value.int hq2]
  exact kk q hq.1 hq.2 _ _ _ _ _ _ _ _ _ _ _ _ _ _ _ _ _ _ _ hK hw hls ⟨rfl, hs2⟩
theorem dr_astoreU {E : dm_Ex} {k : Nat} {v : Value} (hi : dm_at z pc = some (.astore k, 2, [])) (hf : dm_fr ls (k : Nat) = true) (hv : (∃ i, v = .ref i) ∨ ∃ i, v = .float i) (kk : dm_W E P l z d MC MS (pc + 2) (ls.set (k : Nat) (some v)) st h ce sl) : dm_W E P l z d MC MS pc ls (v :: st) h ce sl := by
  rcases hv with ⟨i, rfl⟩ | ⟨i, rfl⟩
  · exact dr_astore hi hf (Or.inl rfl) kk
  · exact dr_astore hi hf (Or.inr (Or.inl ⟨i, rfl⟩)) kk
theorem lw_retA {p : Program} {l : Launch} {e : Env} {s : State} {m : MethodId} {args : Array Value} {below : List Frame} {meth : Method} {c : Code} (hx : p.tables.exec = Jvm.exec) (hb : c.code = code) (hr : meth.sig.returnType = ret) (hlocks : meth.locks = false) {pc : Nat} {H : Heap} {ls : Array Slot} (hdg : decode code pc = .ok (.ireturn, 1)) : W p l e room_1 s m args below meth c H [] 1200128 5501098 (lw_Z below args s) (F0 m pc ls [.int 1]) := by
  intro T hT X
  obtain ⟨fs, hret, hrun, hended, hW, hframe⟩ := X.leave (v := some (.int 1)) (hlocks := hlocks) (fun h => by rw [hr] at h; cases h)
  have hmeth' : T.vm.method? m = some meth := X.method'
  refine ⟨T.setFrames fs, ?_, .returned (some (.int 1)), hrun, hended, rfl, ⟨_, rfl⟩, hW, hframe⟩
  jvm_step X.here [X.here.top, hx, hb, hdg, hmeth', hr, ret, narrow_b1]
  (try refine ⟨rfl, ?_⟩); (try refine ⟨rfl, ?_⟩)
  first | (intro acts; rw [hret _ acts rfl rfl rfl]) | rw [hret _ _ rfl rfl rfl]
  exact Steps.refl _
theorem lw_end (hi : dm_at 329 pc = some (.ireturn, 1, [])) (hc : ce ≤ 1200128) (hs : sl ≤ 5501098) : dm_W (lw_E L xs) lw_PL l 329 420 1200128 5501098 pc ls [dI 1] h ce sl := by
  intro p e s m args below meth c D g tys L0 L9 ws A H locs lsC stC hK hw hls hst
  obtain ⟨hok, hst9, hx, hb, hre, hml, hown, hts, hS9, hlk, htb, hnm, hA, hE⟩ := id hK
  obtain ⟨hle, hKK, hP, hD, hS, hh0⟩ := id hw
  obtain ⟨hd, -⟩ := dm_ok_at hok hi
  obtain ⟨y, sc, rfl, hj, hs1⟩ := dm_st_cons hst
  have hj : y = .int 1 := hj
  subst hj
  rw [dm_st_nil hs1]
  have hb2 : c.code = code := hb.trans lw_bytes
  have hd2 : decode code pc = .ok (.ireturn, 1) := by rw [← lw_bytes]; exact hd
  exact va_forget (fun q hq => hE.2.2 _ (hS.2.2 q hq)) (W.widen hc hs (lw_retA hx hb2 (hre.trans rfl) hlk hd2))
theorem dr_lcmpE {E : dm_Ex} {x y : Int64} (hi : dm_at z pc = some (.lcmp, 1, [])) (he : x = y) (kk : dm_W E P l z d MC MS (pc + 1) ls (dI 0 :: st) h ce sl) : dm_W E P l z d MC MS pc ls (.long y :: .long x :: st) h ce sl := by
  intro p e s m args below meth c D g tys L0 L ws A H locs lsC stC hK hw hls hst
  obtain ⟨y9, sc, rfl, hv, hs1⟩ := dm_st_cons hst
  have hv : y9 = .long y := hv
  subst hv
  obtain ⟨y8, sc, rfl, hv2, hs2⟩ := dm_st_cons hs1
  have hv2 : y8 = .long x := hv2
  subst hv2
  subst he
  refine W.lcmp hK.2.2.1 hK.2.2.2.1 (dm_ok_at hK.1 hi).1 ?_
  have e0 : lg_cmp x x = 0 := by simp [lg_cmp]
  rw [e0]
  exact kk _ _ _ _ _ _ _ _ _ _ _ _ _ _ _ _ _ _ _ hK hw hls ⟨rfl, hs2⟩
theorem dr_xldE {u x : Int} (hi : dm_at z pc = some (.iaload, 1, [])) (h0 : 0 ≤ u) (h1 : u < L) (hL : L ≤ 384) (e : sv xs u = x) (kk : dm_W (lw_E L xs) P l z d MC MS (pc + 1) ls (dI x :: st) h ce sl) : dm_W (lw_E L xs) P l z d MC MS pc ls (dI u :: .retAddr 2 :: st) h ce sl := by
  intro p e9 s m args below meth c D g tys L0 L9 ws A H locs lsC stC hK hw hls hst
  obtain ⟨hok, hst9, hx, hb, hre, hml, hown, hts, hS9, hlk, htb, hnm, hA, hE⟩ := id hK
  obtain ⟨hle, hKK, hP, hD, hS, hh0⟩ := id hw
  obtain ⟨hd, -⟩ := dm_ok_at hok hi
  obtain ⟨y, sc, rfl, hj, hs1⟩ := dm_st_cons hst
  have hj : y = dI u := hj
  subst hj
  obtain ⟨y, sc, rfl, hj, hs2⟩ := dm_st_cons hs1
  have hj : y = .ref (g 2) := hj
  subst hj
  obtain ⟨n, rfl⟩ := Int.eq_ofNat_of_zero_le h0
  have e1 : (nI n).toNatClampNeg = n := nI_clamp (by omega)
  have e2 : dI (n : Int) = .int (nI n) := congrArg Value.int (dI_nI n)
  have e3 : xs n = Int32.ofInt x := by
    rw [← e]
    exact sv_e (xs := xs) (u := (n : Int))
  rw [e2]
  refine va_sld hx hb hE.1 hE.2.1 (fun q => Nat.not_le.mpr hE.2.1 (hE.2.2 _ q)) hS (i := nI n) (dm_vpin (by omega) (by omega)) hd ?_
  rw [e1, show Value.int (xs n) = dI x from congrArg Value.int e3]
  exact kk _ _ _ _ _ _ _ _ _ _ _ _ _ _ _ _ _ _ _ hK hw hls ⟨rfl, hs2⟩
end LWR
theorem sv_x (xs : Nat → Int32) (u : Int) : ∃ x : Int, -2147483648 ≤ x ∧ x < 2147483648 ∧ sv xs u = x := ⟨_, sv_b.1, sv_b.2, rfl⟩
theorem CSt_FrM2 {B : Int} {σ : St} {h h' : dm_H} (hS : CSt B σ h) (f : FrM h h') : CSt B σ h' := CSt_same hS (fun j j0 j1 j2 => f.2 j (by omega))
set_option maxHeartbeats 4000000 in
set_option maxRecDepth 100000 in
theorem lw_c0 (l : Launch) (hl : l.stackTraces = false) {L : Nat} {xs : Nat → Int32} (hL : L ≤ 384) {kc : Int} {h : dm_H} {B : Int} {σ : St} {th : Int} (hI : Inv kc kc h) (hS : CSt B σ h) (hM : MSt kc th σ h) {i : Int} (hi0 : 0 ≤ i) (hi6 : i + 6 ≤ L) (hB : 6 * B ≤ 20 * i) {ce sl : Nat} (hce : ce + 1000 ≤ 1200128) (hsl : sl + 60000 ≤ 5501098) (K : lw_K l L xs i (ce + 1000) (sl + 60000)) : dm_W (lw_E L xs) lw_PL l 329 420 1200128 5501098 252 [some (.retAddr 2), some (.ref 0), some (.ref 26), some (.ref 36), some (dI i), none, none] [] h ce sl := by
  obtain ⟨x1, x1a, x1b, x1e⟩ := sv_x xs (i + 1)
  obtain ⟨x2, x2a, x2b, x2e⟩ := sv_x xs (i + 2)
  obtain ⟨x3, x3a, x3b, x3e⟩ := sv_x xs (i + 3)
  obtain ⟨x4, x4a, x4b, x4e⟩ := sv_x xs (i + 4)
  refine di_aload_n la_252 rfl ?_
  refine dr_aload_n la_253 rfl (Or.inr (Or.inr ⟨_, rfl⟩)) ?_
  refine dr_iload la_254 rfl ?_
  refine di_const la_256 ?_
  refine di_iadd la_257 ?_
  refine dr_xldE la_258 (by omega) (by omega) hL x1e ?_
  refine dr_aload_n la_259 rfl (Or.inr (Or.inr ⟨_, rfl⟩)) ?_
  refine dr_iload la_260 rfl ?_
  refine di_const la_262 ?_
  refine di_iadd la_263 ?_
  refine dr_xldE la_264 (by omega) (by omega) hL x2e ?_
  refine dr_aload_n la_265 rfl (Or.inr (Or.inr ⟨_, rfl⟩)) ?_
  refine dr_iload la_266 rfl ?_
  refine di_const la_268 ?_
  refine di_iadd la_269 ?_
  refine dr_xldE la_270 (by omega) (by omega) hL x3e ?_
  refine dr_aload_n la_271 rfl (Or.inr (Or.inr ⟨_, rfl⟩)) ?_
  refine dr_iload la_272 rfl ?_
  refine di_const la_274 ?_
  refine di_iadd la_275 ?_
  refine dr_xldE la_276 (by omega) (by omega) hL x4e ?_
  refine di_aload_n la_277 rfl ?_
  refine dr_statH la_278 rfl (by decide +kernel) rfl (t_L_put l hl hI hS (by omega) (a1 := x1) (by omega) (by omega) (a2 := x2) (by omega) (by omega) (a3 := x3) (by omega) (by omega) (a4 := x4) (by omega) (by omega)) (by decide) (by omega) (by omega) (Nat.le_of_ble_eq_true rfl) kQLN (kQL (fun h11 hI12 hF13 hS14 hq16 ho17 => ?_))
  have hM15 := MSt_FL hM hF13
  refine di_istore (ls2 := [some (.retAddr 2), some (.ref 0), some (.ref 26), some (.ref 36), some (dI i), some (dI (spPut σ x1 x2 x3 x4).1), none]) la_281 rfl rfl ?_
  refine di_aload_n la_283 rfl ?_
  refine dr_aload_n la_284 rfl (Or.inr (Or.inr ⟨_, rfl⟩)) ?_
  refine dr_iload la_285 rfl ?_
  refine di_const la_287 ?_
  refine di_iadd la_288 ?_
  refine dr_xldE la_289 (by omega) (by omega) hL x1e ?_
  refine dr_aload_n la_290 rfl (Or.inr (Or.inr ⟨_, rfl⟩)) ?_
  refine dr_iload la_291 rfl ?_
  refine di_const la_293 ?_
  refine di_iadd la_294 ?_
  refine dr_xldE la_295 (by omega) (by omega) hL x2e ?_
  refine dr_aload_n la_296 rfl (Or.inr (Or.inr ⟨_, rfl⟩)) ?_
  refine dr_iload la_297 rfl ?_
  refine di_const la_299 ?_
  refine di_iadd la_300 ?_
  refine dr_xldE la_301 (by omega) (by omega) hL x3e ?_
  refine dr_aload_n la_302 rfl (Or.inr (Or.inr ⟨_, rfl⟩)) ?_
  refine dr_iload la_303 rfl ?_
  refine di_const la_305 ?_
  refine di_iadd la_306 ?_
  refine dr_xldE la_307 (by omega) (by omega) hL x4e ?_
  obtain ⟨nic23, c23, -⟩ := hM15.1
  refine dr_virt la_308 rfl rfl rfl c23 (n_X8_put l hl hI12 hM15 (a1 := x1) (by omega) (by omega) (a2 := x2) (by omega) (by omega) (a3 := x3) (by omega) (by omega) (a4 := x4) (by omega) (by omega) ) (by decide) (by omega) (by omega) (Nat.le_of_ble_eq_true rfl) kQM9N (kQM9 (fun a24 h18 hI19 hF20 hM22 a24a a24b a24e => ?_))
  have hS21 := CSt_FrM2 hS14 hF20
  refine di_istore (ls2 := [some (.retAddr 2), some (.ref 0), some (.ref 26), some (.ref 36), some (dI i), some (dI (spPut σ x1 x2 x3 x4).1), some (dI a24)]) la_311 rfl rfl ?_
  refine dr_goto la_313 rfl ?_
  refine dm_wk (ls2 := [some (.retAddr 2), some (.ref 0), some (.ref 26), some (.ref 36), some (dI i), none, none]) ⟨Or.inr rfl, Or.inr rfl, Or.inr rfl, Or.inr rfl, Or.inr rfl, Or.inl rfl, Or.inl rfl, trivial⟩ ?_
  refine dm_cew (ce2 := ce + 1000) (sl2 := sl + 60000) (by omega) (by omega) ?_
  exact K _ _ _ _ _ hI19 hS21 hM22 (by omega)
set_option maxHeartbeats 4000000 in
set_option maxRecDepth 100000 in
theorem lw_c1 (l : Launch) (hl : l.stackTraces = false) {L : Nat} {xs : Nat → Int32} (hL : L ≤ 384) {kc : Int} {h : dm_H} {B : Int} {σ : St} {th : Int} (hI : Inv kc kc h) (hS : CSt B σ h) (hM : MSt kc th σ h) {i : Int} (hi0 : 0 ≤ i) (hi6 : i + 6 ≤ L) (hB : 6 * B ≤ 20 * i) {ce sl : Nat} (hce : ce + 1000 ≤ 1200128) (hsl : sl + 60000 ≤ 5501098) (K : lw_K l L xs i (ce + 1000) (sl + 60000)) : dm_W (lw_E L xs) lw_PL l 329 420 1200128 5501098 316 [some (.retAddr 2), some (.ref 0), some (.ref 26), some (.ref 36), some (dI i), none, none] [] h ce sl := by
  obtain ⟨x1, x1a, x1b, x1e⟩ := sv_x xs (i + 1)
  obtain ⟨x2, x2a, x2b, x2e⟩ := sv_x xs (i + 2)
  obtain ⟨x3, x3a, x3b, x3e⟩ := sv_x xs (i + 3)
  obtain ⟨x4, x4a, x4b, x4e⟩ := sv_x xs (i + 4)
  refine di_aload_n la_316 rfl ?_
  refine dr_aload_n la_317 rfl (Or.inr (Or.inr ⟨_, rfl⟩)) ?_
  refine dr_iload la_318 rfl ?_
  refine di_const la_320 ?_
  refine di_iadd la_321 ?_
  refine dr_xldE la_322 (by omega) (by omega) hL x1e ?_
  refine dr_aload_n la_323 rfl (Or.inr (Or.inr ⟨_, rfl⟩)) ?_
  refine dr_iload la_324 rfl ?_
  refine di_const la_326 ?_
  refine di_iadd la_327 ?_
  refine dr_xldE la_328 (by omega) (by omega) hL x2e ?_
  refine dr_aload_n la_329 rfl (Or.inr (Or.inr ⟨_, rfl⟩)) ?_
  refine dr_iload la_330 rfl ?_
  refine di_const la_332 ?_
  refine di_iadd la_333 ?_
  refine dr_xldE la_334 (by omega) (by omega) hL x3e ?_
  refine dr_aload_n la_335 rfl (Or.inr (Or.inr ⟨_, rfl⟩)) ?_
  refine dr_iload la_336 rfl ?_
  refine di_const la_338 ?_
  refine di_iadd la_339 ?_
  refine dr_xldE la_340 (by omega) (by omega) hL x4e ?_
  refine di_aload_n la_341 rfl ?_
  refine dr_statH la_342 rfl (by decide +kernel) rfl (t_L_add l hl hI hS (by omega) (a1 := x1) (by omega) (by omega) (a2 := x2) (by omega) (by omega) (a3 := x3) (by omega) (by omega) (a4 := x4) (by omega) (by omega)) (by decide) (by omega) (by omega) (Nat.le_of_ble_eq_true rfl) kQLN (kQL (fun h11 hI12 hF13 hS14 hq16 ho17 => ?_))
  have hM15 := MSt_FL hM hF13
  refine di_istore (ls2 := [some (.retAddr 2), some (.ref 0), some (.ref 26), some (.ref 36), some (dI i), some (dI (spAdd σ x1 x2 x3 x4).1), none]) la_345 rfl rfl ?_
  refine di_aload_n la_347 rfl ?_
  refine dr_aload_n la_348 rfl (Or.inr (Or.inr ⟨_, rfl⟩)) ?_
  refine dr_iload la_349 rfl ?_
  refine di_const la_351 ?_
  refine di_iadd la_352 ?_
  refine dr_xldE la_353 (by omega) (by omega) hL x1e ?_
  refine dr_aload_n la_354 rfl (Or.inr (Or.inr ⟨_, rfl⟩)) ?_
  refine dr_iload la_355 rfl ?_
  refine di_const la_357 ?_
  refine di_iadd la_358 ?_
  refine dr_xldE la_359 (by omega) (by omega) hL x2e ?_
  refine dr_aload_n la_360 rfl (Or.inr (Or.inr ⟨_, rfl⟩)) ?_
  refine dr_iload la_361 rfl ?_
  refine di_const la_363 ?_
  refine di_iadd la_364 ?_
  refine dr_xldE la_365 (by omega) (by omega) hL x3e ?_
  refine dr_aload_n la_366 rfl (Or.inr (Or.inr ⟨_, rfl⟩)) ?_
  refine dr_iload la_367 rfl ?_
  refine di_const la_369 ?_
  refine di_iadd la_370 ?_
  refine dr_xldE la_371 (by omega) (by omega) hL x4e ?_
  obtain ⟨nic23, c23, -⟩ := hM15.1
  refine dr_virt la_372 rfl rfl rfl c23 (n_X8_add l hl hI12 hM15 (a1 := x1) (by omega) (by omega) (a2 := x2) (by omega) (by omega) (a3 := x3) (by omega) (by omega) (a4 := x4) (by omega) (by omega) ) (by decide) (by omega) (by omega) (Nat.le_of_ble_eq_true rfl) kQM9N (kQM9 (fun a24 h18 hI19 hF20 hM22 a24a a24b a24e => ?_))
  have hS21 := CSt_FrM2 hS14 hF20
  refine di_istore (ls2 := [some (.retAddr 2), some (.ref 0), some (.ref 26), some (.ref 36), some (dI i), some (dI (spAdd σ x1 x2 x3 x4).1), some (dI a24)]) la_375 rfl rfl ?_
  refine dr_goto la_377 rfl ?_
  refine dm_wk (ls2 := [some (.retAddr 2), some (.ref 0), some (.ref 26), some (.ref 36), some (dI i), none, none]) ⟨Or.inr rfl, Or.inr rfl, Or.inr rfl, Or.inr rfl, Or.inr rfl, Or.inl rfl, Or.inl rfl, trivial⟩ ?_
  refine dm_cew (ce2 := ce + 1000) (sl2 := sl + 60000) (by omega) (by omega) ?_
  exact K _ _ _ _ _ hI19 hS21 hM22 (by omega)
set_option maxHeartbeats 4000000 in
set_option maxRecDepth 100000 in
theorem lw_c2 (l : Launch) (hl : l.stackTraces = false) {L : Nat} {xs : Nat → Int32} (hL : L ≤ 384) {kc : Int} {h : dm_H} {B : Int} {σ : St} {th : Int} (hI : Inv kc kc h) (hS : CSt B σ h) (hM : MSt kc th σ h) {i : Int} (hi0 : 0 ≤ i) (hi6 : i + 6 ≤ L) (hB : 6 * B ≤ 20 * i) {ce sl : Nat} (hce : ce + 1000 ≤ 1200128) (hsl : sl + 60000 ≤ 5501098) (K : lw_K l L xs i (ce + 1000) (sl + 60000)) : dm_W (lw_E L xs) lw_PL l 329 420 1200128 5501098 380 [some (.retAddr 2), some (.ref 0), some (.ref 26), some (.ref 36), some (dI i), none, none] [] h ce sl := by
  obtain ⟨x1, x1a, x1b, x1e⟩ := sv_x xs (i + 1)
  obtain ⟨x2, x2a, x2b, x2e⟩ := sv_x xs (i + 2)
  obtain ⟨x3, x3a, x3b, x3e⟩ := sv_x xs (i + 3)
  obtain ⟨x4, x4a, x4b, x4e⟩ := sv_x xs (i + 4)
  refine di_aload_n la_380 rfl ?_
  refine dr_aload_n la_381 rfl (Or.inr (Or.inr ⟨_, rfl⟩)) ?_
  refine dr_iload la_382 rfl ?_
  refine di_const la_384 ?_
  refine di_iadd la_385 ?_
  refine dr_xldE la_386 (by omega) (by omega) hL x1e ?_
  refine dr_aload_n la_387 rfl (Or.inr (Or.inr ⟨_, rfl⟩)) ?_
  refine dr_iload la_388 rfl ?_
  refine di_const la_390 ?_
  refine di_iadd la_391 ?_
  refine dr_xldE la_392 (by omega) (by omega) hL x2e ?_
  refine dr_aload_n la_393 rfl (Or.inr (Or.inr ⟨_, rfl⟩)) ?_
  refine dr_iload la_394 rfl ?_
  refine di_const la_396 ?_
  refine di_iadd la_397 ?_
  refine dr_xldE la_398 (by omega) (by omega) hL x3e ?_
  refine dr_aload_n la_399 rfl (Or.inr (Or.inr ⟨_, rfl⟩)) ?_
  refine dr_iload la_400 rfl ?_
  refine di_const la_402 ?_
  refine di_iadd la_403 ?_
  refine dr_xldE la_404 (by omega) (by omega) hL x4e ?_
  refine di_aload_n la_405 rfl ?_
  refine dr_statH la_406 rfl (by decide +kernel) rfl (t_L_more l hl hI hS (by omega) (a1 := x1) (by omega) (by omega) (a2 := x2) (by omega) (by omega) (a3 := x3) (by omega) (by omega) (a4 := x4) (by omega) (by omega)) (by decide) (by omega) (by omega) (Nat.le_of_ble_eq_true rfl) kQLN (kQL (fun h11 hI12 hF13 hS14 hq16 ho17 => ?_))
  have hM15 := MSt_FL hM hF13
  refine di_istore (ls2 := [some (.retAddr 2), some (.ref 0), some (.ref 26), some (.ref 36), some (dI i), some (dI (spMore σ x1 x2 x3 x4).1), none]) la_409 rfl rfl ?_
  refine di_aload_n la_411 rfl ?_
  refine dr_aload_n la_412 rfl (Or.inr (Or.inr ⟨_, rfl⟩)) ?_
  refine dr_iload la_413 rfl ?_
  refine di_const la_415 ?_
  refine di_iadd la_416 ?_
  refine dr_xldE la_417 (by omega) (by omega) hL x1e ?_
  refine dr_aload_n la_418 rfl (Or.inr (Or.inr ⟨_, rfl⟩)) ?_
  refine dr_iload la_419 rfl ?_
  refine di_const la_421 ?_
  refine di_iadd la_422 ?_
  refine dr_xldE la_423 (by omega) (by omega) hL x2e ?_
  refine dr_aload_n la_424 rfl (Or.inr (Or.inr ⟨_, rfl⟩)) ?_
  refine dr_iload la_425 rfl ?_
  refine di_const la_427 ?_
  refine di_iadd la_428 ?_
  refine dr_xldE la_429 (by omega) (by omega) hL x3e ?_
  refine dr_aload_n la_430 rfl (Or.inr (Or.inr ⟨_, rfl⟩)) ?_
  refine dr_iload la_431 rfl ?_
  refine di_const la_433 ?_
  refine di_iadd la_434 ?_
  refine dr_xldE la_435 (by omega) (by omega) hL x4e ?_
  obtain ⟨nic23, c23, -⟩ := hM15.1
  refine dr_virt la_436 rfl rfl rfl c23 (n_X8_more l hl hI12 hM15 (a1 := x1) (by omega) (by omega) (a2 := x2) (by omega) (by omega) (a3 := x3) (by omega) (by omega) (a4 := x4) (by omega) (by omega) ) (by decide) (by omega) (by omega) (Nat.le_of_ble_eq_true rfl) kQM9N (kQM9 (fun a24 h18 hI19 hF20 hM22 a24a a24b a24e => ?_))
  have hS21 := CSt_FrM2 hS14 hF20
  refine di_istore (ls2 := [some (.retAddr 2), some (.ref 0), some (.ref 26), some (.ref 36), some (dI i), some (dI (spMore σ x1 x2 x3 x4).1), some (dI a24)]) la_439 rfl rfl ?_
  refine di_aload_n la_441 rfl ?_
  obtain ⟨nic30, c30, -⟩ := hM22.1
  refine dr_virt la_442 rfl rfl rfl c30 (t_X8_thrown l hl hM22) (by decide) (by omega) (by omega) (Nat.le_of_ble_eq_true rfl) kNP (kIP (fun y31 y31f y31a y31b => ?_))
  have y31f : y31 = (spMore σ x1 x2 x3 x4).1 := y31f
  subst y31f
  refine dr_iload la_445 rfl ?_
  refine dr_icmp_eq la_447 rfl (fun _ => ?_) (fun c9 => absurd rfl c9)
  refine dr_iload la_452 rfl ?_
  refine di_if_ne la_454 rfl (by omega) (by omega) (fun c => ?_) (fun e0 => ?_)
  · clear c
    refine dr_goto la_470 rfl ?_
    refine dm_wk (ls2 := [some (.retAddr 2), some (.ref 0), some (.ref 26), some (.ref 36), some (dI i), none, none]) ⟨Or.inr rfl, Or.inr rfl, Or.inr rfl, Or.inr rfl, Or.inr rfl, Or.inl rfl, Or.inl rfl, trivial⟩ ?_
    refine dm_cew (ce2 := ce + 1000) (sl2 := sl + 60000) (by omega) (by omega) ?_
    exact K _ _ _ _ _ hI19 hS21 hM22 (by omega)
  · skip
    obtain ⟨v8, hv8⟩ := ho17 e0
    have hv9 := (hF20.2 36 (by decide)).trans hv8
    have ea9 : a24 = (spMore σ x1 x2 x3 x4).2.1 := a24e e0
    subst ea9
    refine di_aload_n la_457 rfl ?_
    refine dr_getf la_458 hv9 rfl ?_
    refine dr_iload la_461 rfl ?_
    refine dr_i2l la_463 rfl ?_
    refine dr_lcmpE la_464 rfl ?_
    refine di_if_eq la_465 rfl (by omega) (by omega) (fun _ => ?_) (fun c9 => absurd rfl c9)
    refine dr_goto la_470 rfl ?_
    refine dm_wk (ls2 := [some (.retAddr 2), some (.ref 0), some (.ref 26), some (.ref 36), some (dI i), none, none]) ⟨Or.inr rfl, Or.inr rfl, Or.inr rfl, Or.inr rfl, Or.inr rfl, Or.inl rfl, Or.inl rfl, trivial⟩ ?_
    refine dm_cew (ce2 := ce + 1000) (sl2 := sl + 60000) (by omega) (by omega) ?_
    exact K _ _ _ _ _ hI19 hS21 hM22 (by omega)
set_option maxHeartbeats 4000000 in
set_option maxRecDepth 100000 in
theorem lw_c3 (l : Launch) (hl : l.stackTraces = false) {L : Nat} {xs : Nat → Int32} (hL : L ≤ 384) {kc : Int} {h : dm_H} {B : Int} {σ : St} {th : Int} (hI : Inv kc kc h) (hS : CSt B σ h) (hM : MSt kc th σ h) {i : Int} (hi0 : 0 ≤ i) (hi6 : i + 6 ≤ L) (hB : 6 * B ≤ 20 * i) {ce sl : Nat} (hce : ce + 1000 ≤ 1200128) (hsl : sl + 60000 ≤ 5501098) (K : lw_K l L xs i (ce + 1000) (sl + 60000)) : dm_W (lw_E L xs) lw_PL l 329 420 1200128 5501098 473 [some (.retAddr 2), some (.ref 0), some (.ref 26), some (.ref 36), some (dI i), none, none] [] h ce sl := by
  obtain ⟨x1, x1a, x1b, x1e⟩ := sv_x xs (i + 1)
  obtain ⟨x2, x2a, x2b, x2e⟩ := sv_x xs (i + 2)
  obtain ⟨x3, x3a, x3b, x3e⟩ := sv_x xs (i + 3)
  obtain ⟨x4, x4a, x4b, x4e⟩ := sv_x xs (i + 4)
  refine di_aload_n la_473 rfl ?_
  refine dr_aload_n la_474 rfl (Or.inr (Or.inr ⟨_, rfl⟩)) ?_
  refine dr_iload la_475 rfl ?_
  refine di_const la_477 ?_
  refine di_iadd la_478 ?_
  refine dr_xldE la_479 (by omega) (by omega) hL x1e ?_
  refine dr_aload_n la_480 rfl (Or.inr (Or.inr ⟨_, rfl⟩)) ?_
  refine dr_iload la_481 rfl ?_
  refine di_const la_483 ?_
  refine di_iadd la_484 ?_
  refine dr_xldE la_485 (by omega) (by omega) hL x2e ?_
  refine dr_aload_n la_486 rfl (Or.inr (Or.inr ⟨_, rfl⟩)) ?_
  refine dr_iload la_487 rfl ?_
  refine di_const la_489 ?_
  refine di_iadd la_490 ?_
  refine dr_xldE la_491 (by omega) (by omega) hL x3e ?_
  refine dr_aload_n la_492 rfl (Or.inr (Or.inr ⟨_, rfl⟩)) ?_
  refine dr_iload la_493 rfl ?_
  refine di_const la_495 ?_
  refine di_iadd la_496 ?_
  refine dr_xldE la_497 (by omega) (by omega) hL x4e ?_
  refine di_aload_n la_498 rfl ?_
  refine dr_statH la_499 rfl (by decide +kernel) rfl (t_L_change l hl hI hS (by omega) (a1 := x1) (by omega) (by omega) (a2 := x2) (by omega) (by omega) (a3 := x3) (by omega) (by omega) (a4 := x4) (by omega) (by omega)) (by decide) (by omega) (by omega) (Nat.le_of_ble_eq_true rfl) kQLN (kQL (fun h11 hI12 hF13 hS14 hq16 ho17 => ?_))
  have hM15 := MSt_FL hM hF13
  refine di_istore (ls2 := [some (.retAddr 2), some (.ref 0), some (.ref 26), some (.ref 36), some (dI i), some (dI (spChange σ x1 x2 x3 x4).1), none]) la_502 rfl rfl ?_
  refine di_aload_n la_504 rfl ?_
  refine dr_aload_n la_505 rfl (Or.inr (Or.inr ⟨_, rfl⟩)) ?_
  refine dr_iload la_506 rfl ?_
  refine di_const la_508 ?_
  refine di_iadd la_509 ?_
  refine dr_xldE la_510 (by omega) (by omega) hL x1e ?_
  refine dr_aload_n la_511 rfl (Or.inr (Or.inr ⟨_, rfl⟩)) ?_
  refine dr_iload la_512 rfl ?_
  refine di_const la_514 ?_
  refine di_iadd la_515 ?_
  refine dr_xldE la_516 (by omega) (by omega) hL x2e ?_
  refine dr_aload_n la_517 rfl (Or.inr (Or.inr ⟨_, rfl⟩)) ?_
  refine dr_iload la_518 rfl ?_
  refine di_const la_520 ?_
  refine di_iadd la_521 ?_
  refine dr_xldE la_522 (by omega) (by omega) hL x3e ?_
  refine dr_aload_n la_523 rfl (Or.inr (Or.inr ⟨_, rfl⟩)) ?_
  refine dr_iload la_524 rfl ?_
  refine di_const la_526 ?_
  refine di_iadd la_527 ?_
  refine dr_xldE la_528 (by omega) (by omega) hL x4e ?_
  obtain ⟨nic23, c23, -⟩ := hM15.1
  refine dr_virt la_529 rfl rfl rfl c23 (n_X8_change l hl hI12 hM15 (a1 := x1) (by omega) (by omega) (a2 := x2) (by omega) (by omega) (a3 := x3) (by omega) (by omega) (a4 := x4) (by omega) (by omega) ) (by decide) (by omega) (by omega) (Nat.le_of_ble_eq_true rfl) kQM9N (kQM9 (fun a24 h18 hI19 hF20 hM22 a24a a24b a24e => ?_))
  have hS21 := CSt_FrM2 hS14 hF20
  refine di_istore (ls2 := [some (.retAddr 2), some (.ref 0), some (.ref 26), some (.ref 36), some (dI i), some (dI (spChange σ x1 x2 x3 x4).1), some (dI a24)]) la_532 rfl rfl ?_
  refine dr_goto la_534 rfl ?_
  refine dm_wk (ls2 := [some (.retAddr 2), some (.ref 0), some (.ref 26), some (.ref 36), some (dI i), none, none]) ⟨Or.inr rfl, Or.inr rfl, Or.inr rfl, Or.inr rfl, Or.inr rfl, Or.inl rfl, Or.inl rfl, trivial⟩ ?_
  refine dm_cew (ce2 := ce + 1000) (sl2 := sl + 60000) (by omega) (by omega) ?_
  exact K _ _ _ _ _ hI19 hS21 hM22 (by omega)
set_option maxHeartbeats 4000000 in
set_option maxRecDepth 100000 in
theorem lw_c4 (l : Launch) (hl : l.stackTraces = false) {L : Nat} {xs : Nat → Int32} (hL : L ≤ 384) {kc : Int} {h : dm_H} {B : Int} {σ : St} {th : Int} (hI : Inv kc kc h) (hS : CSt B σ h) (hM : MSt kc th σ h) {i : Int} (hi0 : 0 ≤ i) (hi6 : i + 6 ≤ L) (hB : 6 * B ≤ 20 * i) {ce sl : Nat} (hce : ce + 1000 ≤ 1200128) (hsl : sl + 60000 ≤ 5501098) (K : lw_K l L xs i (ce + 1000) (sl + 60000)) : dm_W (lw_E L xs) lw_PL l 329 420 1200128 5501098 537 [some (.retAddr 2), some (.ref 0), some (.ref 26), some (.ref 36), some (dI i), none, none] [] h ce sl := by
  obtain ⟨x1, x1a, x1b, x1e⟩ := sv_x xs (i + 1)
  obtain ⟨x2, x2a, x2b, x2e⟩ := sv_x xs (i + 2)
  obtain ⟨x3, x3a, x3b, x3e⟩ := sv_x xs (i + 3)
  obtain ⟨x4, x4a, x4b, x4e⟩ := sv_x xs (i + 4)
  obtain ⟨x5, x5a, x5b, x5e⟩ := sv_x xs (i + 5)
  refine di_aload_n la_537 rfl ?_
  refine dr_aload_n la_538 rfl (Or.inr (Or.inr ⟨_, rfl⟩)) ?_
  refine dr_iload la_539 rfl ?_
  refine di_const la_541 ?_
  refine di_iadd la_542 ?_
  refine dr_xldE la_543 (by omega) (by omega) hL x1e ?_
  refine dr_aload_n la_544 rfl (Or.inr (Or.inr ⟨_, rfl⟩)) ?_
  refine dr_iload la_545 rfl ?_
  refine di_const la_547 ?_
  refine di_iadd la_548 ?_
  refine dr_xldE la_549 (by omega) (by omega) hL x2e ?_
  refine dr_aload_n la_550 rfl (Or.inr (Or.inr ⟨_, rfl⟩)) ?_
  refine dr_iload la_551 rfl ?_
  refine di_const la_553 ?_
  refine di_iadd la_554 ?_
  refine dr_xldE la_555 (by omega) (by omega) hL x3e ?_
  refine dr_aload_n la_556 rfl (Or.inr (Or.inr ⟨_, rfl⟩)) ?_
  refine dr_iload la_557 rfl ?_
  refine di_const la_559 ?_
  refine di_iadd la_560 ?_
  refine dr_xldE la_561 (by omega) (by omega) hL x4e ?_
  refine dr_aload_n la_562 rfl (Or.inr (Or.inr ⟨_, rfl⟩)) ?_
  refine dr_iload la_563 rfl ?_
  refine di_const la_565 ?_
  refine di_iadd la_566 ?_
  refine dr_xldE la_567 (by omega) (by omega) hL x5e ?_
  refine di_aload_n la_568 rfl ?_
  refine dr_statH la_569 rfl (by decide +kernel) rfl (t_L_changeIf l hl hI hS (by omega) (a1 := x1) (by omega) (by omega) (a2 := x2) (by omega) (by omega) (a3 := x3) (by omega) (by omega) (a4 := x4) (by omega) (by omega) (a5 := x5) (by omega) (by omega)) (by decide) (by omega) (by omega) (Nat.le_of_ble_eq_true rfl) kQLN (kQL (fun h11 hI12 hF13 hS14 hq16 ho17 => ?_))
  have hM15 := MSt_FL hM hF13
  refine di_istore (ls2 := [some (.retAddr 2), some (.ref 0), some (.ref 26), some (.ref 36), some (dI i), some (dI (spChangeIf σ x1 x2 x3 x4 x5).1), none]) la_572 rfl rfl ?_
  refine di_aload_n la_574 rfl ?_
  refine dr_aload_n la_575 rfl (Or.inr (Or.inr ⟨_, rfl⟩)) ?_
  refine dr_iload la_576 rfl ?_
  refine di_const la_578 ?_
  refine di_iadd la_579 ?_
  refine dr_xldE la_580 (by omega) (by omega) hL x1e ?_
  refine dr_aload_n la_581 rfl (Or.inr (Or.inr ⟨_, rfl⟩)) ?_
  refine dr_iload la_582 rfl ?_
  refine di_const la_584 ?_
  refine di_iadd la_585 ?_
  refine dr_xldE la_586 (by omega) (by omega) hL x2e ?_
  refine dr_aload_n la_587 rfl (Or.inr (Or.inr ⟨_, rfl⟩)) ?_
  refine dr_iload la_588 rfl ?_
  refine di_const la_590 ?_
  refine di_iadd la_591 ?_
  refine dr_xldE la_592 (by omega) (by omega) hL x3e ?_
  refine dr_aload_n la_593 rfl (Or.inr (Or.inr ⟨_, rfl⟩)) ?_
  refine dr_iload la_594 rfl ?_
  refine di_const la_596 ?_
  refine di_iadd la_597 ?_
  refine dr_xldE la_598 (by omega) (by omega) hL x4e ?_
  refine dr_aload_n la_599 rfl (Or.inr (Or.inr ⟨_, rfl⟩)) ?_
  refine dr_iload la_600 rfl ?_
  refine di_const la_602 ?_
  refine di_iadd la_603 ?_
  refine dr_xldE la_604 (by omega) (by omega) hL x5e ?_
  obtain ⟨nic23, c23, -⟩ := hM15.1
  refine dr_virt la_605 rfl rfl rfl c23 (n_X8_changeIf l hl hI12 hM15 (a1 := x1) (by omega) (by omega) (a2 := x2) (by omega) (by omega) (a3 := x3) (by omega) (by omega) (a4 := x4) (by omega) (by omega) (a5 := x5) (by omega) (by omega) ) (by decide) (by omega) (by omega) (Nat.le_of_ble_eq_true rfl) kQM9N (kQM9 (fun a24 h18 hI19 hF20 hM22 a24a a24b a24e => ?_))
  have hS21 := CSt_FrM2 hS14 hF20
  refine di_istore (ls2 := [some (.retAddr 2), some (.ref 0), some (.ref 26), some (.ref 36), some (dI i), some (dI (spChangeIf σ x1 x2 x3 x4 x5).1), some (dI a24)]) la_608 rfl rfl ?_
  refine dr_goto la_610 rfl ?_
  refine dm_wk (ls2 := [some (.retAddr 2), some (.ref 0), some (.ref 26), some (.ref 36), some (dI i), none, none]) ⟨Or.inr rfl, Or.inr rfl, Or.inr rfl, Or.inr rfl, Or.inr rfl, Or.inl rfl, Or.inl rfl, trivial⟩ ?_
  refine dm_cew (ce2 := ce + 1000) (sl2 := sl + 60000) (by omega) (by omega) ?_
  exact K _ _ _ _ _ hI19 hS21 hM22 (by omega)
set_option maxHeartbeats 4000000 in
set_option maxRecDepth 100000 in
theorem lw_c5 (l : Launch) (hl : l.stackTraces = false) {L : Nat} {xs : Nat → Int32} (hL : L ≤ 384) {kc : Int} {h : dm_H} {B : Int} {σ : St} {th : Int} (hI : Inv kc kc h) (hS : CSt B σ h) (hM : MSt kc th σ h) {i : Int} (hi0 : 0 ≤ i) (hi6 : i + 6 ≤ L) (hB : 6 * B ≤ 20 * i) {ce sl : Nat} (hce : ce + 1000 ≤ 1200128) (hsl : sl + 60000 ≤ 5501098) (K : lw_K l L xs i (ce + 1000) (sl + 60000)) : dm_W (lw_E L xs) lw_PL l 329 420 1200128 5501098 613 [some (.retAddr 2), some (.ref 0), some (.ref 26), some (.ref 36), some (dI i), none, none] [] h ce sl := by
  obtain ⟨x1, x1a, x1b, x1e⟩ := sv_x xs (i + 1)
  obtain ⟨x2, x2a, x2b, x2e⟩ := sv_x xs (i + 2)
  obtain ⟨x3, x3a, x3b, x3e⟩ := sv_x xs (i + 3)
  refine di_aload_n la_613 rfl ?_
  refine dr_aload_n la_614 rfl (Or.inr (Or.inr ⟨_, rfl⟩)) ?_
  refine dr_iload la_615 rfl ?_
  refine di_const la_617 ?_
  refine di_iadd la_618 ?_
  refine dr_xldE la_619 (by omega) (by omega) hL x1e ?_
  refine dr_aload_n la_620 rfl (Or.inr (Or.inr ⟨_, rfl⟩)) ?_
  refine dr_iload la_621 rfl ?_
  refine di_const la_623 ?_
  refine di_iadd la_624 ?_
  refine dr_xldE la_625 (by omega) (by omega) hL x2e ?_
  refine dr_aload_n la_626 rfl (Or.inr (Or.inr ⟨_, rfl⟩)) ?_
  refine dr_iload la_627 rfl ?_
  refine di_const la_629 ?_
  refine di_iadd la_630 ?_
  refine dr_xldE la_631 (by omega) (by omega) hL x3e ?_
  refine di_aload_n la_632 rfl ?_
  refine dr_statH la_633 rfl (by decide +kernel) rfl (t_L_take l hl hI hS (by omega) (a1 := x1) (by omega) (by omega) (a2 := x2) (by omega) (by omega) (a3 := x3) (by omega) (by omega)) (by decide) (by omega) (by omega) (Nat.le_of_ble_eq_true rfl) kQLN (kQL (fun h11 hI12 hF13 hS14 hq16 ho17 => ?_))
  have hM15 := MSt_FL hM hF13
  refine di_istore (ls2 := [some (.retAddr 2), some (.ref 0), some (.ref 26), some (.ref 36), some (dI i), some (dI (spTake σ x1 x2 x3).1), none]) la_636 rfl rfl ?_
  refine di_aload_n la_638 rfl ?_
  refine dr_aload_n la_639 rfl (Or.inr (Or.inr ⟨_, rfl⟩)) ?_
  refine dr_iload la_640 rfl ?_
  refine di_const la_642 ?_
  refine di_iadd la_643 ?_
  refine dr_xldE la_644 (by omega) (by omega) hL x1e ?_
  refine dr_aload_n la_645 rfl (Or.inr (Or.inr ⟨_, rfl⟩)) ?_
  refine dr_iload la_646 rfl ?_
  refine di_const la_648 ?_
  refine di_iadd la_649 ?_
  refine dr_xldE la_650 (by omega) (by omega) hL x2e ?_
  refine dr_aload_n la_651 rfl (Or.inr (Or.inr ⟨_, rfl⟩)) ?_
  refine dr_iload la_652 rfl ?_
  refine di_const la_654 ?_
  refine di_iadd la_655 ?_
  refine dr_xldE la_656 (by omega) (by omega) hL x3e ?_
  obtain ⟨nic23, c23, -⟩ := hM15.1
  refine dr_virt la_657 rfl rfl rfl c23 (n_X8_take l hl hI12 hM15 (a1 := x1) (by omega) (by omega) (a2 := x2) (by omega) (by omega) (a3 := x3) (by omega) (by omega) ) (by decide) (by omega) (by omega) (Nat.le_of_ble_eq_true rfl) kQM9N (kQM9 (fun a24 h18 hI19 hF20 hM22 a24a a24b a24e => ?_))
  have hS21 := CSt_FrM2 hS14 hF20
  refine di_istore (ls2 := [some (.retAddr 2), some (.ref 0), some (.ref 26), some (.ref 36), some (dI i), some (dI (spTake σ x1 x2 x3).1), some (dI a24)]) la_660 rfl rfl ?_
  refine dr_goto la_662 rfl ?_
  refine dm_wk (ls2 := [some (.retAddr 2), some (.ref 0), some (.ref 26), some (.ref 36), some (dI i), none, none]) ⟨Or.inr rfl, Or.inr rfl, Or.inr rfl, Or.inr rfl, Or.inr rfl, Or.inl rfl, Or.inl rfl, trivial⟩ ?_
  refine dm_cew (ce2 := ce + 1000) (sl2 := sl + 60000) (by omega) (by omega) ?_
  exact K _ _ _ _ _ hI19 hS21 hM22 (by omega)
set_option maxHeartbeats 4000000 in
set_option maxRecDepth 100000 in
theorem lw_c6 (l : Launch) (hl : l.stackTraces = false) {L : Nat} {xs : Nat → Int32} (hL : L ≤ 384) {kc : Int} {h : dm_H} {B : Int} {σ : St} {th : Int} (hI : Inv kc kc h) (hS : CSt B σ h) (hM : MSt kc th σ h) {i : Int} (hi0 : 0 ≤ i) (hi6 : i + 6 ≤ L) (hB : 6 * B ≤ 20 * i) {ce sl : Nat} (hce : ce + 1000 ≤ 1200128) (hsl : sl + 60000 ≤ 5501098) (K : lw_K l L xs i (ce + 1000) (sl + 60000)) : dm_W (lw_E L xs) lw_PL l 329 420 1200128 5501098 665 [some (.retAddr 2), some (.ref 0), some (.ref 26), some (.ref 36), some (dI i), none, none] [] h ce sl := by
  obtain ⟨x1, x1a, x1b, x1e⟩ := sv_x xs (i + 1)
  obtain ⟨x2, x2a, x2b, x2e⟩ := sv_x xs (i + 2)
  obtain ⟨x3, x3a, x3b, x3e⟩ := sv_x xs (i + 3)
  obtain ⟨x4, x4a, x4b, x4e⟩ := sv_x xs (i + 4)
  refine di_aload_n la_665 rfl ?_
  refine dr_aload_n la_666 rfl (Or.inr (Or.inr ⟨_, rfl⟩)) ?_
  refine dr_iload la_667 rfl ?_
  refine di_const la_669 ?_
  refine di_iadd la_670 ?_
  refine dr_xldE la_671 (by omega) (by omega) hL x1e ?_
  refine dr_aload_n la_672 rfl (Or.inr (Or.inr ⟨_, rfl⟩)) ?_
  refine dr_iload la_673 rfl ?_
  refine di_const la_675 ?_
  refine di_iadd la_676 ?_
  refine dr_xldE la_677 (by omega) (by omega) hL x2e ?_
  refine dr_aload_n la_678 rfl (Or.inr (Or.inr ⟨_, rfl⟩)) ?_
  refine dr_iload la_679 rfl ?_
  refine di_const la_681 ?_
  refine di_iadd la_682 ?_
  refine dr_xldE la_683 (by omega) (by omega) hL x3e ?_
  refine dr_aload_n la_684 rfl (Or.inr (Or.inr ⟨_, rfl⟩)) ?_
  refine dr_iload la_685 rfl ?_
  refine di_const la_687 ?_
  refine di_iadd la_688 ?_
  refine dr_xldE la_689 (by omega) (by omega) hL x4e ?_
  refine di_aload_n la_690 rfl ?_
  refine dr_statH la_691 rfl (by decide +kernel) rfl (t_L_takeIf l hl hI hS (by omega) (a1 := x1) (by omega) (by omega) (a2 := x2) (by omega) (by omega) (a3 := x3) (by omega) (by omega) (a4 := x4) (by omega) (by omega)) (by decide) (by omega) (by omega) (Nat.le_of_ble_eq_true rfl) kQLN (kQL (fun h11 hI12 hF13 hS14 hq16 ho17 => ?_))
  have hM15 := MSt_FL hM hF13
  refine di_istore (ls2 := [some (.retAddr 2), some (.ref 0), some (.ref 26), some (.ref 36), some (dI i), some (dI (spTakeIf σ x1 x2 x3 x4).1), none]) la_694 rfl rfl ?_
  refine di_aload_n la_696 rfl ?_
  refine dr_aload_n la_697 rfl (Or.inr (Or.inr ⟨_, rfl⟩)) ?_
  refine dr_iload la_698 rfl ?_
  refine di_const la_700 ?_
  refine di_iadd la_701 ?_
  refine dr_xldE la_702 (by omega) (by omega) hL x1e ?_
  refine dr_aload_n la_703 rfl (Or.inr (Or.inr ⟨_, rfl⟩)) ?_
  refine dr_iload la_704 rfl ?_
  refine di_const la_706 ?_
  refine di_iadd la_707 ?_
  refine dr_xldE la_708 (by omega) (by omega) hL x2e ?_
  refine dr_aload_n la_709 rfl (Or.inr (Or.inr ⟨_, rfl⟩)) ?_
  refine dr_iload la_710 rfl ?_
  refine di_const la_712 ?_
  refine di_iadd la_713 ?_
  refine dr_xldE la_714 (by omega) (by omega) hL x3e ?_
  refine dr_aload_n la_715 rfl (Or.inr (Or.inr ⟨_, rfl⟩)) ?_
  refine dr_iload la_716 rfl ?_
  refine di_const la_718 ?_
  refine di_iadd la_719 ?_
  refine dr_xldE la_720 (by omega) (by omega) hL x4e ?_
  obtain ⟨nic23, c23, -⟩ := hM15.1
  refine dr_virt la_721 rfl rfl rfl c23 (n_X8_takeIf l hl hI12 hM15 (a1 := x1) (by omega) (by omega) (a2 := x2) (by omega) (by omega) (a3 := x3) (by omega) (by omega) (a4 := x4) (by omega) (by omega) ) (by decide) (by omega) (by omega) (Nat.le_of_ble_eq_true rfl) kQM9N (kQM9 (fun a24 h18 hI19 hF20 hM22 a24a a24b a24e => ?_))
  have hS21 := CSt_FrM2 hS14 hF20
  refine di_istore (ls2 := [some (.retAddr 2), some (.ref 0), some (.ref 26), some (.ref 36), some (dI i), some (dI (spTakeIf σ x1 x2 x3 x4).1), some (dI a24)]) la_724 rfl rfl ?_
  refine dr_goto la_726 rfl ?_
  refine dm_wk (ls2 := [some (.retAddr 2), some (.ref 0), some (.ref 26), some (.ref 36), some (dI i), none, none]) ⟨Or.inr rfl, Or.inr rfl, Or.inr rfl, Or.inr rfl, Or.inr rfl, Or.inl rfl, Or.inl rfl, trivial⟩ ?_
  refine dm_cew (ce2 := ce + 1000) (sl2 := sl + 60000) (by omega) (by omega) ?_
  exact K _ _ _ _ _ hI19 hS21 hM22 (by omega)
set_option maxHeartbeats 4000000 in
set_option maxRecDepth 100000 in
theorem lw_c7 (l : Launch) (hl : l.stackTraces = false) {L : Nat} {xs : Nat → Int32} (hL : L ≤ 384) {kc : Int} {h : dm_H} {B : Int} {σ : St} {th : Int} (hI : Inv kc kc h) (hS : CSt B σ h) (hM : MSt kc th σ h) {i : Int} (hi0 : 0 ≤ i) (hi6 : i + 6 ≤ L) (hB : 6 * B ≤ 20 * i) {ce sl : Nat} (hce : ce + 1000 ≤ 1200128) (hsl : sl + 60000 ≤ 5501098) (K : lw_K l L xs i (ce + 1000) (sl + 60000)) : dm_W (lw_E L xs) lw_PL l 329 420 1200128 5501098 729 [some (.retAddr 2), some (.ref 0), some (.ref 26), some (.ref 36), some (dI i), none, none] [] h ce sl := by
  obtain ⟨x1, x1a, x1b, x1e⟩ := sv_x xs (i + 1)
  obtain ⟨x2, x2a, x2b, x2e⟩ := sv_x xs (i + 2)
  refine di_aload_n la_729 rfl ?_
  refine dr_aload_n la_730 rfl (Or.inr (Or.inr ⟨_, rfl⟩)) ?_
  refine dr_iload la_731 rfl ?_
  refine di_const la_733 ?_
  refine di_iadd la_734 ?_
  refine dr_xldE la_735 (by omega) (by omega) hL x1e ?_
  refine dr_aload_n la_736 rfl (Or.inr (Or.inr ⟨_, rfl⟩)) ?_
  refine dr_iload la_737 rfl ?_
  refine di_const la_739 ?_
  refine di_iadd la_740 ?_
  refine dr_xldE la_741 (by omega) (by omega) hL x2e ?_
  refine di_aload_n la_742 rfl ?_
  refine dr_statH la_743 rfl (by decide +kernel) rfl (t_L_takeNote l hl hI hS (by omega) (a1 := x1) (by omega) (by omega) (a2 := x2) (by omega) (by omega)) (by decide) (by omega) (by omega) (Nat.le_of_ble_eq_true rfl) kQLN (kQL (fun h11 hI12 hF13 hS14 hq16 ho17 => ?_))
  have hM15 := MSt_FL hM hF13
  refine di_istore (ls2 := [some (.retAddr 2), some (.ref 0), some (.ref 26), some (.ref 36), some (dI i), some (dI (spTakeNote σ x1 x2).1), none]) la_746 rfl rfl ?_
  refine di_aload_n la_748 rfl ?_
  refine dr_aload_n la_749 rfl (Or.inr (Or.inr ⟨_, rfl⟩)) ?_
  refine dr_iload la_750 rfl ?_
  refine di_const la_752 ?_
  refine di_iadd la_753 ?_
  refine dr_xldE la_754 (by omega) (by omega) hL x1e ?_
  refine dr_aload_n la_755 rfl (Or.inr (Or.inr ⟨_, rfl⟩)) ?_
  refine dr_iload la_756 rfl ?_
  refine di_const la_758 ?_
  refine di_iadd la_759 ?_
  refine dr_xldE la_760 (by omega) (by omega) hL x2e ?_
  obtain ⟨nic23, c23, -⟩ := hM15.1
  refine dr_virt la_761 rfl rfl rfl c23 (n_X8_takeNote l hl hI12 hM15 (a1 := x1) (by omega) (by omega) (a2 := x2) (by omega) (by omega) (CSt_sSt hS)) (by decide) (by omega) (by omega) (Nat.le_of_ble_eq_true rfl) kQM9N (kQM9 (fun a24 h18 hI19 hF20 hM22 a24a a24b a24e => ?_))
  have hS21 := CSt_FrM2 hS14 hF20
  refine di_istore (ls2 := [some (.retAddr 2), some (.ref 0), some (.ref 26), some (.ref 36), some (dI i), some (dI (spTakeNote σ x1 x2).1), some (dI a24)]) la_764 rfl rfl ?_
  refine dr_goto la_766 rfl ?_
  refine dm_wk (ls2 := [some (.retAddr 2), some (.ref 0), some (.ref 26), some (.ref 36), some (dI i), none, none]) ⟨Or.inr rfl, Or.inr rfl, Or.inr rfl, Or.inr rfl, Or.inr rfl, Or.inl rfl, Or.inl rfl, trivial⟩ ?_
  refine dm_cew (ce2 := ce + 1000) (sl2 := sl + 60000) (by omega) (by omega) ?_
  exact K _ _ _ _ _ hI19 hS21 hM22 (by omega)
set_option maxHeartbeats 4000000 in
set_option maxRecDepth 100000 in
theorem lw_c8 (l : Launch) (hl : l.stackTraces = false) {L : Nat} {xs : Nat → Int32} (hL : L ≤ 384) {kc : Int} {h : dm_H} {B : Int} {σ : St} {th : Int} (hI : Inv kc kc h) (hS : CSt B σ h) (hM : MSt kc th σ h) {i : Int} (hi0 : 0 ≤ i) (hi6 : i + 6 ≤ L) (hB : 6 * B ≤ 20 * i) {ce sl : Nat} (hce : ce + 1000 ≤ 1200128) (hsl : sl + 60000 ≤ 5501098) (K : lw_K l L xs i (ce + 1000) (sl + 60000)) : dm_W (lw_E L xs) lw_PL l 329 420 1200128 5501098 769 [some (.retAddr 2), some (.ref 0), some (.ref 26), some (.ref 36), some (dI i), none, none] [] h ce sl := by
  obtain ⟨x1, x1a, x1b, x1e⟩ := sv_x xs (i + 1)
  obtain ⟨x2, x2a, x2b, x2e⟩ := sv_x xs (i + 2)
  refine di_aload_n la_769 rfl ?_
  refine dr_aload_n la_770 rfl (Or.inr (Or.inr ⟨_, rfl⟩)) ?_
  refine dr_iload la_771 rfl ?_
  refine di_const la_773 ?_
  refine di_iadd la_774 ?_
  refine dr_xldE la_775 (by omega) (by omega) hL x1e ?_
  refine dr_aload_n la_776 rfl (Or.inr (Or.inr ⟨_, rfl⟩)) ?_
  refine dr_iload la_777 rfl ?_
  refine di_const la_779 ?_
  refine di_iadd la_780 ?_
  refine dr_xldE la_781 (by omega) (by omega) hL x2e ?_
  refine di_if_eq la_782 rfl (by omega) (by omega) (fun cz11 => ?_) (fun cz11 => ?_)
  · skip
    refine di_const la_789 ?_
    refine di_aload_n la_790 rfl ?_
    refine dr_statH la_791 rfl (by decide +kernel) rfl (t_L_draw l hl hI hS (by omega) (a1 := x1) (by omega) (by omega) (a2 := 0) (by omega) (by omega)) (by decide) (by omega) (by omega) (Nat.le_of_ble_eq_true rfl) kQLN (kQL (fun h12 hI13 hF14 hS15 hq17 ho18 => ?_))
    have hM16 := MSt_FL hM hF14
    refine di_istore (ls2 := [some (.retAddr 2), some (.ref 0), some (.ref 26), some (.ref 36), some (dI i), some (dI (spDraw σ x1 0).1), none]) la_794 rfl rfl ?_
    refine di_aload_n la_796 rfl ?_
    refine dr_aload_n la_797 rfl (Or.inr (Or.inr ⟨_, rfl⟩)) ?_
    refine dr_iload la_798 rfl ?_
    refine di_const la_800 ?_
    refine di_iadd la_801 ?_
    refine dr_xldE la_802 (by omega) (by omega) hL x1e ?_
    refine dr_aload_n la_803 rfl (Or.inr (Or.inr ⟨_, rfl⟩)) ?_
    refine dr_iload la_804 rfl ?_
    refine di_const la_806 ?_
    refine di_iadd la_807 ?_
    refine dr_xldE la_808 (by omega) (by omega) hL x2e ?_
    refine di_if_eq la_809 rfl (by omega) (by omega) (fun _ => ?_) (fun c9 => absurd cz11 c9)
    refine di_const la_816 ?_
    obtain ⟨nic24, c24, -⟩ := hM16.1
    refine dr_virt la_817 rfl rfl rfl c24 (n_X8_draw l hl hI13 hM16 (a1 := x1) (by omega) (by omega) (a2 := 0) (by omega) (by omega) (CSt_sSt hS)) (by decide) (by omega) (by omega) (Nat.le_of_ble_eq_true rfl) kQM9N (kQM9 (fun a25 h19 hI20 hF21 hM23 a25a a25b a25e => ?_))
    have hS22 := CSt_FrM2 hS15 hF21
    refine di_istore (ls2 := [some (.retAddr 2), some (.ref 0), some (.ref 26), some (.ref 36), some (dI i), some (dI (spDraw σ x1 0).1), some (dI a25)]) la_820 rfl rfl ?_
    refine dr_goto la_822 rfl ?_
    refine dm_wk (ls2 := [some (.retAddr 2), some (.ref 0), some (.ref 26), some (.ref 36), some (dI i), none, none]) ⟨Or.inr rfl, Or.inr rfl, Or.inr rfl, Or.inr rfl, Or.inr rfl, Or.inl rfl, Or.inl rfl, trivial⟩ ?_
    refine dm_cew (ce2 := ce + 1000) (sl2 := sl + 60000) (by omega) (by omega) ?_
    exact K _ _ _ _ _ hI20 hS22 hM23 (by omega)
  · skip
    refine di_const la_785 ?_
    refine dr_goto la_786 rfl ?_
    refine di_aload_n la_790 rfl ?_
    refine dr_statH la_791 rfl (by decide +kernel) rfl (t_L_draw l hl hI hS (by omega) (a1 := x1) (by omega) (by omega) (a2 := 1) (by omega) (by omega)) (by decide) (by omega) (by omega) (Nat.le_of_ble_eq_true rfl) kQLN (kQL (fun h26 hI27 hF28 hS29 hq31 ho32 => ?_))
    have hM30 := MSt_FL hM hF28
    refine di_istore (ls2 := [some (.retAddr 2), some (.ref 0), some (.ref 26), some (.ref 36), some (dI i), some (dI (spDraw σ x1 1).1), none]) la_794 rfl rfl ?_
    refine di_aload_n la_796 rfl ?_
    refine dr_aload_n la_797 rfl (Or.inr (Or.inr ⟨_, rfl⟩)) ?_
    refine dr_iload la_798 rfl ?_
    refine di_const la_800 ?_
    refine di_iadd la_801 ?_
    refine dr_xldE la_802 (by omega) (by omega) hL x1e ?_
    refine dr_aload_n la_803 rfl (Or.inr (Or.inr ⟨_, rfl⟩)) ?_
    refine dr_iload la_804 rfl ?_
    refine di_const la_806 ?_
    refine di_iadd la_807 ?_
    refine dr_xldE la_808 (by omega) (by omega) hL x2e ?_
    refine di_if_eq la_809 rfl (by omega) (by omega) (fun c9 => absurd c9 cz11) (fun _ => ?_)
    refine di_const la_812 ?_
    refine dr_goto la_813 rfl ?_
    obtain ⟨nic38, c38, -⟩ := hM30.1
    refine dr_virt la_817 rfl rfl rfl c38 (n_X8_draw l hl hI27 hM30 (a1 := x1) (by omega) (by omega) (a2 := 1) (by omega) (by omega) (CSt_sSt hS)) (by decide) (by omega) (by omega) (Nat.le_of_ble_eq_true rfl) kQM9N (kQM9 (fun a39 h33 hI34 hF35 hM37 a39a a39b a39e => ?_))
    have hS36 := CSt_FrM2 hS29 hF35
    refine di_istore (ls2 := [some (.retAddr 2), some (.ref 0), some (.ref 26), some (.ref 36), some (dI i), some (dI (spDraw σ x1 1).1), some (dI a39)]) la_820 rfl rfl ?_
    refine dr_goto la_822 rfl ?_
    refine dm_wk (ls2 := [some (.retAddr 2), some (.ref 0), some (.ref 26), some (.ref 36), some (dI i), none, none]) ⟨Or.inr rfl, Or.inr rfl, Or.inr rfl, Or.inr rfl, Or.inr rfl, Or.inl rfl, Or.inl rfl, trivial⟩ ?_
    refine dm_cew (ce2 := ce + 1000) (sl2 := sl + 60000) (by omega) (by omega) ?_
    exact K _ _ _ _ _ hI34 hS36 hM37 (by omega)
set_option maxHeartbeats 4000000 in
set_option maxRecDepth 100000 in
theorem lw_c9 (l : Launch) (hl : l.stackTraces = false) {L : Nat} {xs : Nat → Int32} (hL : L ≤ 384) {kc : Int} {h : dm_H} {B : Int} {σ : St} {th : Int} (hI : Inv kc kc h) (hS : CSt B σ h) (hM : MSt kc th σ h) {i : Int} (hi0 : 0 ≤ i) (hi6 : i + 6 ≤ L) (hB : 6 * B ≤ 20 * i) {ce sl : Nat} (hce : ce + 1000 ≤ 1200128) (hsl : sl + 60000 ≤ 5501098) (K : lw_K l L xs i (ce + 1000) (sl + 60000)) : dm_W (lw_E L xs) lw_PL l 329 420 1200128 5501098 825 [some (.retAddr 2), some (.ref 0), some (.ref 26), some (.ref 36), some (dI i), none, none] [] h ce sl := by
  obtain ⟨x1, x1a, x1b, x1e⟩ := sv_x xs (i + 1)
  refine di_aload_n la_825 rfl ?_
  refine dr_aload_n la_826 rfl (Or.inr (Or.inr ⟨_, rfl⟩)) ?_
  refine dr_iload la_827 rfl ?_
  refine di_const la_829 ?_
  refine di_iadd la_830 ?_
  refine dr_xldE la_831 (by omega) (by omega) hL x1e ?_
  refine di_aload_n la_832 rfl ?_
  refine dr_statH la_833 rfl (by decide +kernel) rfl (t_L_clear l hl hI hS (by omega) (a1 := x1) (by omega) (by omega)) (by decide) (by omega) (by omega) (Nat.le_of_ble_eq_true rfl) kQLN (kQL (fun h11 hI12 hF13 hS14 hq16 ho17 => ?_))
  have hM15 := MSt_FL hM hF13
  refine di_istore (ls2 := [some (.retAddr 2), some (.ref 0), some (.ref 26), some (.ref 36), some (dI i), some (dI (spClear σ x1).1), none]) la_836 rfl rfl ?_
  refine di_aload_n la_838 rfl ?_
  refine dr_aload_n la_839 rfl (Or.inr (Or.inr ⟨_, rfl⟩)) ?_
  refine dr_iload la_840 rfl ?_
  refine di_const la_842 ?_
  refine di_iadd la_843 ?_
  refine dr_xldE la_844 (by omega) (by omega) hL x1e ?_
  obtain ⟨nic23, c23, -⟩ := hM15.1
  refine dr_virt la_845 rfl rfl rfl c23 (n_X8_clear l hl hI12 hM15 (a1 := x1) (by omega) (by omega) ) (by decide) (by omega) (by omega) (Nat.le_of_ble_eq_true rfl) kQM9N (kQM9 (fun a24 h18 hI19 hF20 hM22 a24a a24b a24e => ?_))
  have hS21 := CSt_FrM2 hS14 hF20
  refine di_istore (ls2 := [some (.retAddr 2), some (.ref 0), some (.ref 26), some (.ref 36), some (dI i), some (dI (spClear σ x1).1), some (dI a24)]) la_848 rfl rfl ?_
  refine dr_goto la_850 rfl ?_
  refine dm_wk (ls2 := [some (.retAddr 2), some (.ref 0), some (.ref 26), some (.ref 36), some (dI i), none, none]) ⟨Or.inr rfl, Or.inr rfl, Or.inr rfl, Or.inr rfl, Or.inr rfl, Or.inl rfl, Or.inl rfl, trivial⟩ ?_
  refine dm_cew (ce2 := ce + 1000) (sl2 := sl + 60000) (by omega) (by omega) ?_
  exact K _ _ _ _ _ hI19 hS21 hM22 (by omega)
set_option maxHeartbeats 4000000 in
set_option maxRecDepth 100000 in
theorem lw_c10 (l : Launch) (hl : l.stackTraces = false) {L : Nat} {xs : Nat → Int32} (hL : L ≤ 384) {kc : Int} {h : dm_H} {B : Int} {σ : St} {th : Int} (hI : Inv kc kc h) (hS : CSt B σ h) (hM : MSt kc th σ h) {i : Int} (hi0 : 0 ≤ i) (hi6 : i + 6 ≤ L) (hB : 6 * B ≤ 20 * i) {ce sl : Nat} (hce : ce + 1000 ≤ 1200128) (hsl : sl + 60000 ≤ 5501098) (K : lw_K l L xs i (ce + 1000) (sl + 60000)) : dm_W (lw_E L xs) lw_PL l 329 420 1200128 5501098 853 [some (.retAddr 2), some (.ref 0), some (.ref 26), some (.ref 36), some (dI i), none, none] [] h ce sl := by
  obtain ⟨x1, x1a, x1b, x1e⟩ := sv_x xs (i + 1)
  obtain ⟨x2, x2a, x2b, x2e⟩ := sv_x xs (i + 2)
  refine di_aload_n la_853 rfl ?_
  refine dr_aload_n la_854 rfl (Or.inr (Or.inr ⟨_, rfl⟩)) ?_
  refine dr_iload la_855 rfl ?_
  refine di_const la_857 ?_
  refine di_iadd la_858 ?_
  refine dr_xldE la_859 (by omega) (by omega) hL x1e ?_
  refine dr_aload_n la_860 rfl (Or.inr (Or.inr ⟨_, rfl⟩)) ?_
  refine dr_iload la_861 rfl ?_
  refine di_const la_863 ?_
  refine di_iadd la_864 ?_
  refine dr_xldE la_865 (by omega) (by omega) hL x2e ?_
  refine di_aload_n la_866 rfl ?_
  refine dr_statH la_867 rfl (by decide +kernel) rfl (t_L_pour l hl hI hS (by omega) (a1 := x1) (by omega) (by omega) (a2 := x2) (by omega) (by omega)) (by decide) (by omega) (by omega) (Nat.le_of_ble_eq_true rfl) kQLN (kQL (fun h11 hI12 hF13 hS14 hq16 ho17 => ?_))
  have hM15 := MSt_FL hM hF13
  refine di_istore (ls2 := [some (.retAddr 2), some (.ref 0), some (.ref 26), some (.ref 36), some (dI i), some (dI (spPour σ x1 x2).1), none]) la_870 rfl rfl ?_
  refine di_aload_n la_872 rfl ?_
  refine dr_aload_n la_873 rfl (Or.inr (Or.inr ⟨_, rfl⟩)) ?_
  refine dr_iload la_874 rfl ?_
  refine di_const la_876 ?_
  refine di_iadd la_877 ?_
  refine dr_xldE la_878 (by omega) (by omega) hL x1e ?_
  refine dr_aload_n la_879 rfl (Or.inr (Or.inr ⟨_, rfl⟩)) ?_
  refine dr_iload la_880 rfl ?_
  refine di_const la_882 ?_
  refine di_iadd la_883 ?_
  refine dr_xldE la_884 (by omega) (by omega) hL x2e ?_
  obtain ⟨nic23, c23, -⟩ := hM15.1
  refine dr_virt la_885 rfl rfl rfl c23 (n_X8_pour l hl hI12 hM15 (a1 := x1) (by omega) (by omega) (a2 := x2) (by omega) (by omega) ) (by decide) (by omega) (by omega) (Nat.le_of_ble_eq_true rfl) kQM9N (kQM9 (fun a24 h18 hI19 hF20 hM22 a24a a24b a24e => ?_))
  have hS21 := CSt_FrM2 hS14 hF20
  refine di_istore (ls2 := [some (.retAddr 2), some (.ref 0), some (.ref 26), some (.ref 36), some (dI i), some (dI (spPour σ x1 x2).1), some (dI a24)]) la_888 rfl rfl ?_
  refine dr_goto la_890 rfl ?_
  refine dm_wk (ls2 := [some (.retAddr 2), some (.ref 0), some (.ref 26), some (.ref 36), some (dI i), none, none]) ⟨Or.inr rfl, Or.inr rfl, Or.inr rfl, Or.inr rfl, Or.inr rfl, Or.inl rfl, Or.inl rfl, trivial⟩ ?_
  refine dm_cew (ce2 := ce + 1000) (sl2 := sl + 60000) (by omega) (by omega) ?_
  exact K _ _ _ _ _ hI19 hS21 hM22 (by omega)
set_option maxHeartbeats 4000000 in
set_option maxRecDepth 100000 in
theorem lw_c11 (l : Launch) (hl : l.stackTraces = false) {L : Nat} {xs : Nat → Int32} (hL : L ≤ 384) {kc : Int} {h : dm_H} {B : Int} {σ : St} {th : Int} (hI : Inv kc kc h) (hS : CSt B σ h) (hM : MSt kc th σ h) {i : Int} (hi0 : 0 ≤ i) (hi6 : i + 6 ≤ L) (hB : 6 * B ≤ 20 * i) {ce sl : Nat} (hce : ce + 1000 ≤ 1200128) (hsl : sl + 60000 ≤ 5501098) (K : lw_K l L xs i (ce + 1000) (sl + 60000)) : dm_W (lw_E L xs) lw_PL l 329 420 1200128 5501098 893 [some (.retAddr 2), some (.ref 0), some (.ref 26), some (.ref 36), some (dI i), none, none] [] h ce sl := by
  obtain ⟨x1, x1a, x1b, x1e⟩ := sv_x xs (i + 1)
  obtain ⟨x2, x2a, x2b, x2e⟩ := sv_x xs (i + 2)
  refine di_aload_n la_893 rfl ?_
  refine dr_aload_n la_894 rfl (Or.inr (Or.inr ⟨_, rfl⟩)) ?_
  refine dr_iload la_895 rfl ?_
  refine di_const la_897 ?_
  refine di_iadd la_898 ?_
  refine dr_xldE la_899 (by omega) (by omega) hL x1e ?_
  refine dr_aload_n la_900 rfl (Or.inr (Or.inr ⟨_, rfl⟩)) ?_
  refine dr_iload la_901 rfl ?_
  refine di_const la_903 ?_
  refine di_iadd la_904 ?_
  refine dr_xldE la_905 (by omega) (by omega) hL x2e ?_
  refine di_aload_n la_906 rfl ?_
  refine dr_statH la_907 rfl (by decide +kernel) rfl (t_L_copy l hl hI hS (by omega) (a1 := x1) (by omega) (by omega) (a2 := x2) (by omega) (by omega)) (by decide) (by omega) (by omega) (Nat.le_of_ble_eq_true rfl) kQLN (kQL (fun h11 hI12 hF13 hS14 hq16 ho17 => ?_))
  have hM15 := MSt_FL hM hF13
  refine di_istore (ls2 := [some (.retAddr 2), some (.ref 0), some (.ref 26), some (.ref 36), some (dI i), some (dI (spCopy σ x1 x2).1), none]) la_910 rfl rfl ?_
  refine di_aload_n la_912 rfl ?_
  refine dr_aload_n la_913 rfl (Or.inr (Or.inr ⟨_, rfl⟩)) ?_
  refine dr_iload la_914 rfl ?_
  refine di_const la_916 ?_
  refine di_iadd la_917 ?_
  refine dr_xldE la_918 (by omega) (by omega) hL x1e ?_
  refine dr_aload_n la_919 rfl (Or.inr (Or.inr ⟨_, rfl⟩)) ?_
  refine dr_iload la_920 rfl ?_
  refine di_const la_922 ?_
  refine di_iadd la_923 ?_
  refine dr_xldE la_924 (by omega) (by omega) hL x2e ?_
  obtain ⟨nic23, c23, -⟩ := hM15.1
  refine dr_virt la_925 rfl rfl rfl c23 (n_X8_copy l hl hI12 hM15 (a1 := x1) (by omega) (by omega) (a2 := x2) (by omega) (by omega) ) (by decide) (by omega) (by omega) (Nat.le_of_ble_eq_true rfl) kQM9N (kQM9 (fun a24 h18 hI19 hF20 hM22 a24a a24b a24e => ?_))
  have hS21 := CSt_FrM2 hS14 hF20
  refine di_istore (ls2 := [some (.retAddr 2), some (.ref 0), some (.ref 26), some (.ref 36), some (dI i), some (dI (spCopy σ x1 x2).1), some (dI a24)]) la_928 rfl rfl ?_
  refine dr_goto la_930 rfl ?_
  refine dm_wk (ls2 := [some (.retAddr 2), some (.ref 0), some (.ref 26), some (.ref 36), some (dI i), none, none]) ⟨Or.inr rfl, Or.inr rfl, Or.inr rfl, Or.inr rfl, Or.inr rfl, Or.inl rfl, Or.inl rfl, trivial⟩ ?_
  refine dm_cew (ce2 := ce + 1000) (sl2 := sl + 60000) (by omega) (by omega) ?_
  exact K _ _ _ _ _ hI19 hS21 hM22 (by omega)
set_option maxHeartbeats 4000000 in
set_option maxRecDepth 100000 in
theorem lw_c12 (l : Launch) (hl : l.stackTraces = false) {L : Nat} {xs : Nat → Int32} (hL : L ≤ 384) {kc : Int} {h : dm_H} {B : Int} {σ : St} {th : Int} (hI : Inv kc kc h) (hS : CSt B σ h) (hM : MSt kc th σ h) {i : Int} (hi0 : 0 ≤ i) (hi6 : i + 6 ≤ L) (hB : 6 * B ≤ 20 * i) {ce sl : Nat} (hce : ce + 1000 ≤ 1200128) (hsl : sl + 60000 ≤ 5501098) (K : lw_K l L xs i (ce + 1000) (sl + 60000)) : dm_W (lw_E L xs) lw_PL l 329 420 1200128 5501098 933 [some (.retAddr 2), some (.ref 0), some (.ref 26), some (.ref 36), some (dI i), none, none] [] h ce sl := by
  obtain ⟨x1, x1a, x1b, x1e⟩ := sv_x xs (i + 1)
  obtain ⟨x2, x2a, x2b, x2e⟩ := sv_x xs (i + 2)
  obtain ⟨x3, x3a, x3b, x3e⟩ := sv_x xs (i + 3)
  refine di_aload_n la_933 rfl ?_
  refine dr_aload_n la_934 rfl (Or.inr (Or.inr ⟨_, rfl⟩)) ?_
  refine dr_iload la_935 rfl ?_
  refine di_const la_937 ?_
  refine di_iadd la_938 ?_
  refine dr_xldE la_939 (by omega) (by omega) hL x1e ?_
  refine dr_aload_n la_940 rfl (Or.inr (Or.inr ⟨_, rfl⟩)) ?_
  refine dr_iload la_941 rfl ?_
  refine di_const la_943 ?_
  refine di_iadd la_944 ?_
  refine dr_xldE la_945 (by omega) (by omega) hL x2e ?_
  refine dr_aload_n la_946 rfl (Or.inr (Or.inr ⟨_, rfl⟩)) ?_
  refine dr_iload la_947 rfl ?_
  refine di_const la_949 ?_
  refine di_iadd la_950 ?_
  refine dr_xldE la_951 (by omega) (by omega) hL x3e ?_
  refine di_if_eq la_952 rfl (by omega) (by omega) (fun cz11 => ?_) (fun cz11 => ?_)
  · skip
    refine di_const la_959 ?_
    refine di_aload_n la_960 rfl ?_
    refine dr_statH la_961 rfl (by decide +kernel) rfl (t_L_sift l hl hI hS (by omega) (a1 := x1) (by omega) (by omega) (a2 := x2) (by omega) (by omega) (a3 := 0) (by omega) (by omega)) (by decide) (by omega) (by omega) (Nat.le_of_ble_eq_true rfl) kQLN (kQL (fun h12 hI13 hF14 hS15 hq17 ho18 => ?_))
    have hM16 := MSt_FL hM hF14
    refine di_istore (ls2 := [some (.retAddr 2), some (.ref 0), some (.ref 26), some (.ref 36), some (dI i), some (dI (spSift σ x1 x2 0).1), none]) la_964 rfl rfl ?_
    refine di_aload_n la_966 rfl ?_
    refine dr_aload_n la_967 rfl (Or.inr (Or.inr ⟨_, rfl⟩)) ?_
    refine dr_iload la_968 rfl ?_
    refine di_const la_970 ?_
    refine di_iadd la_971 ?_
    refine dr_xldE la_972 (by omega) (by omega) hL x1e ?_
    refine dr_aload_n la_973 rfl (Or.inr (Or.inr ⟨_, rfl⟩)) ?_
    refine dr_iload la_974 rfl ?_
    refine di_const la_976 ?_
    refine di_iadd la_977 ?_
    refine dr_xldE la_978 (by omega) (by omega) hL x2e ?_
    refine dr_aload_n la_979 rfl (Or.inr (Or.inr ⟨_, rfl⟩)) ?_
    refine dr_iload la_980 rfl ?_
    refine di_const la_982 ?_
    refine di_iadd la_983 ?_
    refine dr_xldE la_984 (by omega) (by omega) hL x3e ?_
    refine di_if_eq la_985 rfl (by omega) (by omega) (fun _ => ?_) (fun c9 => absurd cz11 c9)
    refine di_const la_992 ?_
    obtain ⟨nic24, c24, -⟩ := hM16.1
    refine dr_virt la_993 rfl rfl rfl c24 (n_X8_sift l hl hI13 hM16 (a1 := x1) (by omega) (by omega) (a2 := x2) (by omega) (by omega) (a3 := 0) (by omega) (by omega) ) (by decide) (by omega) (by omega) (Nat.le_of_ble_eq_true rfl) kQM9N (kQM9 (fun a25 h19 hI20 hF21 hM23 a25a a25b a25e => ?_))
    have hS22 := CSt_FrM2 hS15 hF21
    refine di_istore (ls2 := [some (.retAddr 2), some (.ref 0), some (.ref 26), some (.ref 36), some (dI i), some (dI (spSift σ x1 x2 0).1), some (dI a25)]) la_996 rfl rfl ?_
    refine dr_goto la_998 rfl ?_
    refine dm_wk (ls2 := [some (.retAddr 2), some (.ref 0), some (.ref 26), some (.ref 36), some (dI i), none, none]) ⟨Or.inr rfl, Or.inr rfl, Or.inr rfl, Or.inr rfl, Or.inr rfl, Or.inl rfl, Or.inl rfl, trivial⟩ ?_
    refine dm_cew (ce2 := ce + 1000) (sl2 := sl + 60000) (by omega) (by omega) ?_
    exact K _ _ _ _ _ hI20 hS22 hM23 (by omega)
  · skip
    refine di_const la_955 ?_
    refine dr_goto la_956 rfl ?_
    refine di_aload_n la_960 rfl ?_
    refine dr_statH la_961 rfl (by decide +kernel) rfl (t_L_sift l hl hI hS (by omega) (a1 := x1) (by omega) (by omega) (a2 := x2) (by omega) (by omega) (a3 := 1) (by omega) (by omega)) (by decide) (by omega) (by omega) (Nat.le_of_ble_eq_true rfl) kQLN (kQL (fun h26 hI27 hF28 hS29 hq31 ho32 => ?_))
    have hM30 := MSt_FL hM hF28
    refine di_istore (ls2 := [some (.retAddr 2), some (.ref 0), some (.ref 26), some (.ref 36), some (dI i), some (dI (spSift σ x1 x2 1).1), none]) la_964 rfl rfl ?_
    refine di_aload_n la_966 rfl ?_
    refine dr_aload_n la_967 rfl (Or.inr (Or.inr ⟨_, rfl⟩)) ?_
    refine dr_iload la_968 rfl ?_
    refine di_const la_970 ?_
    refine di_iadd la_971 ?_
    refine dr_xldE la_972 (by omega) (by omega) hL x1e ?_
    refine dr_aload_n la_973 rfl (Or.inr (Or.inr ⟨_, rfl⟩)) ?_
    refine dr_iload la_974 rfl ?_
    refine di_const la_976 ?_
    refine di_iadd la_977 ?_
    refine dr_xldE la_978 (by omega) (by omega) hL x2e ?_
    refine dr_aload_n la_979 rfl (Or.inr (Or.inr ⟨_, rfl⟩)) ?_
    refine dr_iload la_980 rfl ?_
    refine di_const la_982 ?_
    refine di_iadd la_983 ?_
    refine dr_xldE la_984 (by omega) (by omega) hL x3e ?_
    refine di_if_eq la_985 rfl (by omega) (by omega) (fun c9 => absurd c9 cz11) (fun _ => ?_)
    refine di_const la_988 ?_
    refine dr_goto la_989 rfl ?_
    obtain ⟨nic38, c38, -⟩ := hM30.1
    refine dr_virt la_993 rfl rfl rfl c38 (n_X8_sift l hl hI27 hM30 (a1 := x1) (by omega) (by omega) (a2 := x2) (by omega) (by omega) (a3 := 1) (by omega) (by omega) ) (by decide) (by omega) (by omega) (Nat.le_of_ble_eq_true rfl) kQM9N (kQM9 (fun a39 h33 hI34 hF35 hM37 a39a a39b a39e => ?_))
    have hS36 := CSt_FrM2 hS29 hF35
    refine di_istore (ls2 := [some (.retAddr 2), some (.ref 0), some (.ref 26), some (.ref 36), some (dI i), some (dI (spSift σ x1 x2 1).1), some (dI a39)]) la_996 rfl rfl ?_
    refine dr_goto la_998 rfl ?_
    refine dm_wk (ls2 := [some (.retAddr 2), some (.ref 0), some (.ref 26), some (.ref 36), some (dI i), none, none]) ⟨Or.inr rfl, Or.inr rfl, Or.inr rfl, Or.inr rfl, Or.inr rfl, Or.inl rfl, Or.inl rfl, trivial⟩ ?_
    refine dm_cew (ce2 := ce + 1000) (sl2 := sl + 60000) (by omega) (by omega) ?_
    exact K _ _ _ _ _ hI34 hS36 hM37 (by omega)
set_option maxHeartbeats 4000000 in
set_option maxRecDepth 100000 in
theorem lw_c13 (l : Launch) (hl : l.stackTraces = false) {L : Nat} {xs : Nat → Int32} (hL : L ≤ 384) {kc : Int} {h : dm_H} {B : Int} {σ : St} {th : Int} (hI : Inv kc kc h) (hS : CSt B σ h) (hM : MSt kc th σ h) {i : Int} (hi0 : 0 ≤ i) (hi6 : i + 6 ≤ L) (hB : 6 * B ≤ 20 * i) {ce sl : Nat} (hce : ce + 1000 ≤ 1200128) (hsl : sl + 60000 ≤ 5501098) (K : lw_K l L xs i (ce + 1000) (sl + 60000)) : dm_W (lw_E L xs) lw_PL l 329 420 1200128 5501098 1001 [some (.retAddr 2), some (.ref 0), some (.ref 26), some (.ref 36), some (dI i), none, none] [] h ce sl := by
  obtain ⟨x1, x1a, x1b, x1e⟩ := sv_x xs (i + 1)
  obtain ⟨x2, x2a, x2b, x2e⟩ := sv_x xs (i + 2)
  obtain ⟨x3, x3a, x3b, x3e⟩ := sv_x xs (i + 3)
  refine di_aload_n la_1001 rfl ?_
  refine dr_aload_n la_1002 rfl (Or.inr (Or.inr ⟨_, rfl⟩)) ?_
  refine dr_iload la_1003 rfl ?_
  refine di_const la_1005 ?_
  refine di_iadd la_1006 ?_
  refine dr_xldE la_1007 (by omega) (by omega) hL x1e ?_
  refine dr_aload_n la_1008 rfl (Or.inr (Or.inr ⟨_, rfl⟩)) ?_
  refine dr_iload la_1009 rfl ?_
  refine di_const la_1011 ?_
  refine di_iadd la_1012 ?_
  refine dr_xldE la_1013 (by omega) (by omega) hL x2e ?_
  refine dr_aload_n la_1014 rfl (Or.inr (Or.inr ⟨_, rfl⟩)) ?_
  refine dr_iload la_1015 rfl ?_
  refine di_const la_1017 ?_
  refine di_iadd la_1018 ?_
  refine dr_xldE la_1019 (by omega) (by omega) hL x3e ?_
  refine di_aload_n la_1020 rfl ?_
  refine dr_statH la_1021 rfl (by decide +kernel) rfl (t_L_part l hl hI hS (by omega) (a1 := x1) (by omega) (by omega) (a2 := x2) (by omega) (by omega) (a3 := x3) (by omega) (by omega)) (by decide) (by omega) (by omega) (Nat.le_of_ble_eq_true rfl) kQLN (kQL (fun h11 hI12 hF13 hS14 hq16 ho17 => ?_))
  have hM15 := MSt_FL hM hF13
  refine di_istore (ls2 := [some (.retAddr 2), some (.ref 0), some (.ref 26), some (.ref 36), some (dI i), some (dI (spPart σ x1 x2 x3).1), none]) la_1024 rfl rfl ?_
  refine di_aload_n la_1026 rfl ?_
  refine dr_aload_n la_1027 rfl (Or.inr (Or.inr ⟨_, rfl⟩)) ?_
  refine dr_iload la_1028 rfl ?_
  refine di_const la_1030 ?_
  refine di_iadd la_1031 ?_
  refine dr_xldE la_1032 (by omega) (by omega) hL x1e ?_
  refine dr_aload_n la_1033 rfl (Or.inr (Or.inr ⟨_, rfl⟩)) ?_
  refine dr_iload la_1034 rfl ?_
  refine di_const la_1036 ?_
  refine di_iadd la_1037 ?_
  refine dr_xldE la_1038 (by omega) (by omega) hL x2e ?_
  refine dr_aload_n la_1039 rfl (Or.inr (Or.inr ⟨_, rfl⟩)) ?_
  refine dr_iload la_1040 rfl ?_
  refine di_const la_1042 ?_
  refine di_iadd la_1043 ?_
  refine dr_xldE la_1044 (by omega) (by omega) hL x3e ?_
  obtain ⟨nic23, c23, -⟩ := hM15.1
  refine dr_virt la_1045 rfl rfl rfl c23 (n_X8_part l hl hI12 hM15 (a1 := x1) (by omega) (by omega) (a2 := x2) (by omega) (by omega) (a3 := x3) (by omega) (by omega) ) (by decide) (by omega) (by omega) (Nat.le_of_ble_eq_true rfl) kQM9N (kQM9 (fun a24 h18 hI19 hF20 hM22 a24a a24b a24e => ?_))
  have hS21 := CSt_FrM2 hS14 hF20
  refine di_istore (ls2 := [some (.retAddr 2), some (.ref 0), some (.ref 26), some (.ref 36), some (dI i), some (dI (spPart σ x1 x2 x3).1), some (dI a24)]) la_1048 rfl rfl ?_
  refine dr_goto la_1050 rfl ?_
  refine dm_wk (ls2 := [some (.retAddr 2), some (.ref 0), some (.ref 26), some (.ref 36), some (dI i), none, none]) ⟨Or.inr rfl, Or.inr rfl, Or.inr rfl, Or.inr rfl, Or.inr rfl, Or.inl rfl, Or.inl rfl, trivial⟩ ?_
  refine dm_cew (ce2 := ce + 1000) (sl2 := sl + 60000) (by omega) (by omega) ?_
  exact K _ _ _ _ _ hI19 hS21 hM22 (by omega)
set_option maxHeartbeats 4000000 in
set_option maxRecDepth 100000 in
theorem lw_c14 (l : Launch) (hl : l.stackTraces = false) {L : Nat} {xs : Nat → Int32} (hL : L ≤ 384) {kc : Int} {h : dm_H} {B : Int} {σ : St} {th : Int} (hI : Inv kc kc h) (hS : CSt B σ h) (hM : MSt kc th σ h) {i : Int} (hi0 : 0 ≤ i) (hi6 : i + 6 ≤ L) (hB : 6 * B ≤ 20 * i) {ce sl : Nat} (hce : ce + 1000 ≤ 1200128) (hsl : sl + 60000 ≤ 5501098) (K : lw_K l L xs i (ce + 1000) (sl + 60000)) : dm_W (lw_E L xs) lw_PL l 329 420 1200128 5501098 1053 [some (.retAddr 2), some (.ref 0), some (.ref 26), some (.ref 36), some (dI i), none, none] [] h ce sl := by
  obtain ⟨x1, x1a, x1b, x1e⟩ := sv_x xs (i + 1)
  obtain ⟨x2, x2a, x2b, x2e⟩ := sv_x xs (i + 2)
  refine di_aload_n la_1053 rfl ?_
  refine dr_aload_n la_1054 rfl (Or.inr (Or.inr ⟨_, rfl⟩)) ?_
  refine dr_iload la_1055 rfl ?_
  refine di_const la_1057 ?_
  refine di_iadd la_1058 ?_
  refine dr_xldE la_1059 (by omega) (by omega) hL x1e ?_
  refine dr_aload_n la_1060 rfl (Or.inr (Or.inr ⟨_, rfl⟩)) ?_
  refine dr_iload la_1061 rfl ?_
  refine di_const la_1063 ?_
  refine di_iadd la_1064 ?_
  refine dr_xldE la_1065 (by omega) (by omega) hL x2e ?_
  refine di_aload_n la_1066 rfl ?_
  refine dr_statH la_1067 rfl (by decide +kernel) rfl (t_L_narrow l hl hI hS (by omega) (a1 := x1) (by omega) (by omega) (a2 := x2) (by omega) (by omega)) (by decide) (by omega) (by omega) (Nat.le_of_ble_eq_true rfl) kQLN (kQL (fun h11 hI12 hF13 hS14 hq16 ho17 => ?_))
  have hM15 := MSt_FL hM hF13
  refine di_istore (ls2 := [some (.retAddr 2), some (.ref 0), some (.ref 26), some (.ref 36), some (dI i), some (dI (spNarrow σ x1 x2).1), none]) la_1070 rfl rfl ?_
  refine di_aload_n la_1072 rfl ?_
  refine dr_aload_n la_1073 rfl (Or.inr (Or.inr ⟨_, rfl⟩)) ?_
  refine dr_iload la_1074 rfl ?_
  refine di_const la_1076 ?_
  refine di_iadd la_1077 ?_
  refine dr_xldE la_1078 (by omega) (by omega) hL x1e ?_
  refine dr_aload_n la_1079 rfl (Or.inr (Or.inr ⟨_, rfl⟩)) ?_
  refine dr_iload la_1080 rfl ?_
  refine di_const la_1082 ?_
  refine di_iadd la_1083 ?_
  refine dr_xldE la_1084 (by omega) (by omega) hL x2e ?_
  obtain ⟨nic23, c23, -⟩ := hM15.1
  refine dr_virt la_1085 rfl rfl rfl c23 (n_X8_narrow l hl hI12 hM15 (a1 := x1) (by omega) (by omega) (a2 := x2) (by omega) (by omega) ) (by decide) (by omega) (by omega) (Nat.le_of_ble_eq_true rfl) kQM9N (kQM9 (fun a24 h18 hI19 hF20 hM22 a24a a24b a24e => ?_))
  have hS21 := CSt_FrM2 hS14 hF20
  refine di_istore (ls2 := [some (.retAddr 2), some (.ref 0), some (.ref 26), some (.ref 36), some (dI i), some (dI (spNarrow σ x1 x2).1), some (dI a24)]) la_1088 rfl rfl ?_
  refine dr_goto la_1090 rfl ?_
  refine dm_wk (ls2 := [some (.retAddr 2), some (.ref 0), some (.ref 26), some (.ref 36), some (dI i), none, none]) ⟨Or.inr rfl, Or.inr rfl, Or.inr rfl, Or.inr rfl, Or.inr rfl, Or.inl rfl, Or.inl rfl, trivial⟩ ?_
  refine dm_cew (ce2 := ce + 1000) (sl2 := sl + 60000) (by omega) (by omega) ?_
  exact K _ _ _ _ _ hI19 hS21 hM22 (by omega)
set_option maxHeartbeats 4000000 in
set_option maxRecDepth 100000 in
theorem lw_c15 (l : Launch) (hl : l.stackTraces = false) {L : Nat} {xs : Nat → Int32} (hL : L ≤ 384) {kc : Int} {h : dm_H} {B : Int} {σ : St} {th : Int} (hI : Inv kc kc h) (hS : CSt B σ h) (hM : MSt kc th σ h) {i : Int} (hi0 : 0 ≤ i) (hi6 : i + 6 ≤ L) (hB : 6 * B ≤ 20 * i) {ce sl : Nat} (hce : ce + 1000 ≤ 1200128) (hsl : sl + 60000 ≤ 5501098) (K : lw_K l L xs i (ce + 1000) (sl + 60000)) : dm_W (lw_E L xs) lw_PL l 329 420 1200128 5501098 1093 [some (.retAddr 2), some (.ref 0), some (.ref 26), some (.ref 36), some (dI i), none, none] [] h ce sl := by
  obtain ⟨x1, x1a, x1b, x1e⟩ := sv_x xs (i + 1)
  obtain ⟨x2, x2a, x2b, x2e⟩ := sv_x xs (i + 2)
  obtain ⟨x3, x3a, x3b, x3e⟩ := sv_x xs (i + 3)
  refine di_aload_n la_1093 rfl ?_
  refine dr_aload_n la_1094 rfl (Or.inr (Or.inr ⟨_, rfl⟩)) ?_
  refine dr_iload la_1095 rfl ?_
  refine di_const la_1097 ?_
  refine di_iadd la_1098 ?_
  refine dr_xldE la_1099 (by omega) (by omega) hL x1e ?_
  refine dr_aload_n la_1100 rfl (Or.inr (Or.inr ⟨_, rfl⟩)) ?_
  refine dr_iload la_1101 rfl ?_
  refine di_const la_1103 ?_
  refine di_iadd la_1104 ?_
  refine dr_xldE la_1105 (by omega) (by omega) hL x2e ?_
  refine dr_aload_n la_1106 rfl (Or.inr (Or.inr ⟨_, rfl⟩)) ?_
  refine dr_iload la_1107 rfl ?_
  refine di_const la_1109 ?_
  refine di_iadd la_1110 ?_
  refine dr_xldE la_1111 (by omega) (by omega) hL x3e ?_
  refine di_aload_n la_1112 rfl ?_
  refine dr_statH la_1113 rfl (by decide +kernel) rfl (t_L_partPut l hl hI hS (by omega) (a1 := x1) (by omega) (by omega) (a2 := x2) (by omega) (by omega) (a3 := x3) (by omega) (by omega)) (by decide) (by omega) (by omega) (Nat.le_of_ble_eq_true rfl) kQLN (kQL (fun h11 hI12 hF13 hS14 hq16 ho17 => ?_))
  have hM15 := MSt_FL hM hF13
  refine di_istore (ls2 := [some (.retAddr 2), some (.ref 0), some (.ref 26), some (.ref 36), some (dI i), some (dI (spPartPut σ x1 x2 x3).1), none]) la_1116 rfl rfl ?_
  refine di_aload_n la_1118 rfl ?_
  refine dr_aload_n la_1119 rfl (Or.inr (Or.inr ⟨_, rfl⟩)) ?_
  refine dr_iload la_1120 rfl ?_
  refine di_const la_1122 ?_
  refine di_iadd la_1123 ?_
  refine dr_xldE la_1124 (by omega) (by omega) hL x1e ?_
  refine dr_aload_n la_1125 rfl (Or.inr (Or.inr ⟨_, rfl⟩)) ?_
  refine dr_iload la_1126 rfl ?_
  refine di_const la_1128 ?_
  refine di_iadd la_1129 ?_
  refine dr_xldE la_1130 (by omega) (by omega) hL x2e ?_
  refine dr_aload_n la_1131 rfl (Or.inr (Or.inr ⟨_, rfl⟩)) ?_
  refine dr_iload la_1132 rfl ?_
  refine di_const la_1134 ?_
  refine di_iadd la_1135 ?_
  refine dr_xldE la_1136 (by omega) (by omega) hL x3e ?_
  obtain ⟨nic23, c23, -⟩ := hM15.1
  refine dr_virt la_1137 rfl rfl rfl c23 (n_X8_partPut l hl hI12 hM15 (a1 := x1) (by omega) (by omega) (a2 := x2) (by omega) (by omega) (a3 := x3) (by omega) (by omega) ) (by decide) (by omega) (by omega) (Nat.le_of_ble_eq_true rfl) kQM9N (kQM9 (fun a24 h18 hI19 hF20 hM22 a24a a24b a24e => ?_))
  have hS21 := CSt_FrM2 hS14 hF20
  refine di_istore (ls2 := [some (.retAddr 2), some (.ref 0), some (.ref 26), some (.ref 36), some (dI i), some (dI (spPartPut σ x1 x2 x3).1), some (dI a24)]) la_1140 rfl rfl ?_
  refine dr_goto la_1142 rfl ?_
  refine dm_wk (ls2 := [some (.retAddr 2), some (.ref 0), some (.ref 26), some (.ref 36), some (dI i), none, none]) ⟨Or.inr rfl, Or.inr rfl, Or.inr rfl, Or.inr rfl, Or.inr rfl, Or.inl rfl, Or.inl rfl, trivial⟩ ?_
  refine dm_cew (ce2 := ce + 1000) (sl2 := sl + 60000) (by omega) (by omega) ?_
  exact K _ _ _ _ _ hI19 hS21 hM22 (by omega)
