abbrev XB : String := "java/lang/IndexOutOfBoundsException"
abbrev XA : String := "java/lang/IllegalArgumentException"
abbrev XS : String := "java/lang/IllegalStateException"
/-! ===== more on ends and steps ===== -/
section KK2
variable {E : dm_Ex} {P : dm_Po} {l : Launch} {z d MC MS pc ce sl : Nat} {ls : List (Option Value)} {st : List Value} {h : dm_H} {kc km : Int} {X : List String}
/-- one shifted by at most eight places -/
theorem di_shl1 {b : Int} (hi : dm_at z pc = some (.ishl, 1, [])) (h0 : 0 ≤ b) (h1 : b ≤ 8) (kk : ∀ x : Int, 1 ≤ x → x ≤ 256 → x = 2 ^ b.toNat → dm_W E P l z d MC MS (pc + 1) ls (dI x :: st) h ce sl) : dm_W E P l z d MC MS pc ls (dI b :: dI 1 :: st) h ce sl := by
  rcases (by omega : b = 0 ∨ b = 1 ∨ b = 2 ∨ b = 3 ∨ b = 4 ∨ b = 5 ∨ b = 6 ∨ b = 7 ∨ b = 8) with rfl | rfl | rfl | rfl | rfl | rfl | rfl | rfl | rfl
  · exact dr_ishl (v := Int32.ofInt 1) hi (by decide) (kk 1 (by decide) (by decide) (by decide))
  · exact dr_ishl (v := Int32.ofInt 2) hi (by decide) (kk 2 (by decide) (by decide) (by decide))
  · exact dr_ishl (v := Int32.ofInt 4) hi (by decide) (kk 4 (by decide) (by decide) (by decide))
  · exact dr_ishl (v := Int32.ofInt 8) hi (by decide) (kk 8 (by decide) (by decide) (by decide))
  · exact dr_ishl (v := Int32.ofInt 16) hi (by decide) (kk 16 (by decide) (by decide) (by decide))
  · exact dr_ishl (v := Int32.ofInt 32) hi (by decide) (kk 32 (by decide) (by decide) (by decide))
  · exact dr_ishl (v := Int32.ofInt 64) hi (by decide) (kk 64 (by decide) (by decide) (by decide))
  · exact dr_ishl (v := Int32.ofInt 128) hi (by decide) (kk 128 (by decide) (by decide) (by decide))
  · exact dr_ishl (v := Int32.ofInt 256) hi (by decide) (kk 256 (by decide) (by decide) (by decide))
theorem dr_ldcwI {idx w v : Nat} (hi : dm_at z pc = some (.ldc_w idx, 3, [1, w, v])) (hR : dm_g w (.constant (dm_m z).1.cls idx (Int32.ofNat v)) = true) (kk : dm_W E P l z d MC MS (pc + 3) ls (dI (v : Int) :: st) h ce sl) : dm_W E P l z d MC MS pc ls st h ce sl := by
  intro p e s m args below meth c D g tys L0 L ws A H locs lsC stC hK hw hls hst
  have hd := dm_ok_at hK.1 hi
  exact lv_ldcw hK.2.2.1 hK.2.2.2.1 hK.2.2.2.2.2.2.1 (hK.2.2.2.2.2.2.2.1 _ (dm_g_mem hR)) hd.1 (kk _ _ _ _ _ _ _ _ _ _ _ _ _ _ _ _ _ _ _ hK hw hls ⟨congrArg Value.int (dI_nI v).symm, hst⟩)
end KK2
theorem cl_B : Cond.classLink "EarlyendsLaw" 19 XB ∈ dm_G := dm_g_mem (c := 3106) (by decide +kernel)
theorem cl_A : Cond.classLink "EarlyendsLaw" 21 XA ∈ dm_G := dm_g_mem (c := 3107) (by decide +kernel)
theorem cl_S : Cond.classLink "EarlyendsLaw" 71 XS ∈ dm_G := dm_g_mem (c := 4021) (by decide +kernel)
theorem ca_A : Cond.castable XA XA ∈ dm_N := dm_n_mem (c := 2125) (by decide +kernel)
theorem ca_B : Cond.castable XB XB ∈ dm_N := dm_n_mem (c := 2222) (by decide +kernel)
theorem ca_S : Cond.castable XS XS ∈ dm_N := dm_n_mem (c := 3069) (by decide +kernel)
theorem dk_240 : dm_ok 240 = true := dm_ok_of dpn_10 (by decide +kernel)
