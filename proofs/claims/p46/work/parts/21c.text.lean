/-! ===== StringBuilder's and String's own methods keep their tables ===== -/
set_option maxRecDepth 100000
theorem dk_225 : dm_ok 225 = true := dm_ok_of dpn_9 (by decide +kernel)
theorem dk_226 : dm_ok 226 = true := dm_ok_of dpn_9 (by decide +kernel)
theorem dk_227 : dm_ok 227 = true := dm_ok_of dpn_9 (by decide +kernel)
theorem dk_228 : dm_ok 228 = true := dm_ok_of dpn_9 (by decide +kernel)
theorem dk_232 : dm_ok 232 = true := dm_ok_of dpn_9 (by decide +kernel)
theorem dk_233 : dm_ok 233 = true := dm_ok_of dpn_9 (by decide +kernel)
theorem dk_234 : dm_ok 234 = true := dm_ok_of dpn_9 (by decide +kernel)
theorem dk_235 : dm_ok 235 = true := dm_ok_of dpn_9 (by decide +kernel)
theorem dk_238 : dm_ok 238 = true := dm_ok_of dpn_10 (by decide +kernel)
theorem dk_239 : dm_ok 239 = true := dm_ok_of dpn_10 (by decide +kernel)
theorem dk_243 : dm_ok 243 = true := dm_ok_of dpn_12 (by decide +kernel)
theorem dk_246 : dm_ok 246 = true := dm_ok_of dpn_12 (by decide +kernel)
theorem dk_251 : dm_ok 251 = true := dm_ok_of dpn_13 (by decide +kernel)
theorem dk_253 : dm_ok 253 = true := dm_ok_of dpn_13 (by decide +kernel)
theorem dk_254 : dm_ok 254 = true := dm_ok_of dpn_13 (by decide +kernel)
theorem dk_255 : dm_ok 255 = true := dm_ok_of dpn_13 (by decide +kernel)
theorem dk_256 : dm_ok 256 = true := dm_ok_of dpn_13 (by decide +kernel)
theorem dk_257 : dm_ok 257 = true := dm_ok_of dpn_14 (by decide +kernel)
theorem dk_275 : dm_ok 275 = true := dm_ok_of dpn_16 (by decide +kernel)
theorem dk_276 : dm_ok 276 = true := dm_ok_of dpn_16 (by decide +kernel)
theorem dk_277 : dm_ok 277 = true := dm_ok_of dpn_16 (by decide +kernel)
theorem dk_278 : dm_ok 278 = true := dm_ok_of dpn_16 (by decide +kernel)
theorem dk_279 : dm_ok 279 = true := dm_ok_of dpn_17 (by decide +kernel)
section MM
variable {E : dm_Ex} {P : dm_Po} {l : Launch} {z d MC MS pc ce sl : Nat} {ls : List (Option Value)} {st : List Value} {h : dm_H}
theorem i32_lt {a b : Int} (a1 : -2147483648 ≤ a) (a2 : a < 2147483648) (b1 : -2147483648 ≤ b) (b2 : b < 2147483648) : (Int32.ofInt a < Int32.ofInt b) ↔ a < b := by
  rw [Int32.lt_iff_toInt_lt, dI_toInt ⟨a1, a2⟩, dI_toInt ⟨b1, b2⟩]
/-- Math.max, what it answers -/
theorem dr_maxE {idx w1 w2 w3 w4 : Nat} {a b : Int} (hi : dm_at z pc = some (.invokestatic idx, 3, [241, 0, w1, w2, w3, w4])) (a1 : -2147483648 ≤ a) (a2 : a < 2147483648) (b1 : -2147483648 ≤ b) (b2 : b < 2147483648) (hd1 : 1 ≤ d) (hc : ce ≤ MC) (hs : sl ≤ MS) (hr : dm_sum st ≤ 8) (kk : ∀ q : Int, (a < b ∧ q = b ∨ b ≤ a ∧ q = a) → dm_W E P l z d MC MS (pc + 3) ls (dI q :: st) h ce sl) : dm_W E P l z d MC MS pc ls (dI b :: dI a :: st) h ce sl := by
  intro p e s m args below meth c D g tys L0 L ws A H locs lsC stC hK hw hls hst
  obtain ⟨hok, hst9, hx, hb, hre, hml, hown, hts, hS9, hlk, htb, hnm, hA, hE⟩ := id hK
  obtain ⟨hd, hR⟩ := dm_ok_at hok hi
  have hR : (dm_g w1 (.methodLink (dm_m z).1.cls idx (dm_m 241).1) && dm_g w2 (.static (dm_m 241).1) && dm_okY 241 w3 w4) = true := hR
  simp only [Bool.and_eq_true] at hR
  obtain ⟨⟨r1, r2⟩, r3⟩ := hR
  obtain ⟨y1, y2, -⟩ := dm_okY_use (n := 2) (k := 99) hts r3 rfl
  obtain ⟨y9, sc, rfl, hv, hs1⟩ := dm_st_cons hst
  have hv : y9 = dI b := hv
  subst hv
  obtain ⟨y8, sc, rfl, hv2, hs2⟩ := dm_st_cons hs1
  have hv2 : y8 = dI a := hv2
  subst hv2
  have hsz : lsC.size = c.maxLocals := by obtain ⟨lv, k1, -, -⟩ := hls; exact k1.1.trans hml.symm
  have hcode : (Cond.code Lib.Math.max.name Lib.Math.max.code 2 (some .int)).before args s = true := by
    have e9 : dm_cw 241 = Cond.code Lib.Math.max.name Lib.Math.max.code 2 (some .int) := by decide +kernel
    rw [← e9]
    exact hts _ y2
  refine va_mmax hx hb hsz.symm hown (hts _ (dm_g_mem r1)) (hts _ (dm_g_mem r2)) y1 hcode (by show 1 ≤ 4 * d + 368; omega) (by show _ + 13 ≤ 200 * d; rw [dm_st_sum hs2]; omega) hc hs hd ?_
  by_cases q : a < b
  · rw [if_pos ((i32_lt a1 a2 b1 b2).mpr q)]
    exact kk b (Or.inl ⟨q, rfl⟩) _ _ _ _ _ _ _ _ _ _ _ _ _ _ _ _ _ _ _ hK hw hls ⟨rfl, hs2⟩
  · rw [if_neg (fun w => q ((i32_lt a1 a2 b1 b2).mp w))]
    exact kk a (Or.inr ⟨by omega, rfl⟩) _ _ _ _ _ _ _ _ _ _ _ _ _ _ _ _ _ _ _ hK hw hls ⟨rfl, hs2⟩
/-- Math.min, what it answers -/
theorem dr_minE {idx w1 w2 w3 w4 : Nat} {a b : Int} (hi : dm_at z pc = some (.invokestatic idx, 3, [242, 0, w1, w2, w3, w4])) (a1 : -2147483648 ≤ a) (a2 : a < 2147483648) (b1 : -2147483648 ≤ b) (b2 : b < 2147483648) (hd1 : 1 ≤ d) (hc : ce ≤ MC) (hs : sl ≤ MS) (hr : dm_sum st ≤ 8) (kk : ∀ q : Int, (b < a ∧ q = b ∨ a ≤ b ∧ q = a) → dm_W E P l z d MC MS (pc + 3) ls (dI q :: st) h ce sl) : dm_W E P l z d MC MS pc ls (dI b :: dI a :: st) h ce sl := by
  intro p e s m args below meth c D g tys L0 L ws A H locs lsC stC hK hw hls hst
  obtain ⟨hok, hst9, hx, hb, hre, hml, hown, hts, hS9, hlk, htb, hnm, hA, hE⟩ := id hK
  obtain ⟨hd, hR⟩ := dm_ok_at hok hi
  have hR : (dm_g w1 (.methodLink (dm_m z).1.cls idx (dm_m 242).1) && dm_g w2 (.static (dm_m 242).1) && dm_okY 242 w3 w4) = true := hR
  simp only [Bool.and_eq_true] at hR
  obtain ⟨⟨r1, r2⟩, r3⟩ := hR
  obtain ⟨y1, y2, -⟩ := dm_okY_use (n := 2) (k := 99) hts r3 rfl
  obtain ⟨y9, sc, rfl, hv, hs1⟩ := dm_st_cons hst
  have hv : y9 = dI b := hv
  subst hv
  obtain ⟨y8, sc, rfl, hv2, hs2⟩ := dm_st_cons hs1
  have hv2 : y8 = dI a := hv2
  subst hv2
  have hsz : lsC.size = c.maxLocals := by obtain ⟨lv, k1, -, -⟩ := hls; exact k1.1.trans hml.symm
  have hcode : (Cond.code Lib.Math.min.name Lib.Math.min.code 2 (some .int)).before args s = true := by
    have e9 : dm_cw 242 = Cond.code Lib.Math.min.name Lib.Math.min.code 2 (some .int) := by decide +kernel
    rw [← e9]
    exact hts _ y2
  refine va_mmin hx hb hsz.symm hown (hts _ (dm_g_mem r1)) (hts _ (dm_g_mem r2)) y1 hcode (by show 1 ≤ 4 * d + 368; omega) (by show _ + 13 ≤ 200 * d; rw [dm_st_sum hs2]; omega) hc hs hd ?_
  by_cases q : b < a
  · rw [if_pos ((i32_lt b1 b2 a1 a2).mpr q)]
    exact kk b (Or.inl ⟨q, rfl⟩) _ _ _ _ _ _ _ _ _ _ _ _ _ _ _ _ _ _ _ hK hw hls ⟨rfl, hs2⟩
  · rw [if_neg (fun w => q ((i32_lt b1 b2 a1 a2).mp w))]
    exact kk a (Or.inr ⟨by omega, rfl⟩) _ _ _ _ _ _ _ _ _ _ _ _ _ _ _ _ _ _ _ hK hw hls ⟨rfl, hs2⟩
theorem dI_neg (a : Int) : -(Int32.ofInt a) = Int32.ofInt (-a) := by
  rw [Int32.ofInt_neg]
theorem dn_ineg {a : Int} (hi : dm_at z pc = some (.ineg, 1, [])) (kk : dm_W E P l z d MC MS (pc + 1) ls (dI (-a) :: st) h ce sl) : dm_W E P l z d MC MS pc ls (dI a :: st) h ce sl := by
  intro p e s m args below meth c D g tys L0 L ws A H locs lsC stC hK hw hls hst
  obtain ⟨y9, sc, rfl, hv, hs1⟩ := dm_st_cons hst
  have hv : y9 = dI a := hv
  subst hv
  refine lv_ineg hK.2.2.1 hK.2.2.2.1 (dm_ok_at hK.1 hi).1 ?_
  rw [dI_neg]
  exact kk _ _ _ _ _ _ _ _ _ _ _ _ _ _ _ _ _ _ _ hK hw hls ⟨rfl, hs1⟩
end MM
