/-! ===== what StringBuilder's own code needs ===== -/
theorem bt_fit (x : Int32) : fits .byte (.int (vp_nar .byte x)) = true := by
  rw [vp_nar_byte]
  exact pk_fb x
section SB
variable {E : dm_Ex} {P : dm_Po} {l : Launch} {z d MC MS pc ce sl : Nat} {ls : List (Option Value)} {st : List Value} {h : dm_H}
theorem dr_null (hi : dm_at z pc = some (.aconst_null, 1, [])) (kk : dm_W E P l z d MC MS (pc + 1) ls (.null :: st) h ce sl) : dm_W E P l z d MC MS pc ls st h ce sl := by
  intro p e s m args below meth c D g tys L0 L ws A H locs lsC stC hK hw hls hst
  obtain ⟨hok, hst9, hx, hb, hre, hml, hown, hts, hS9, hlk, htb, hnm, hA, hE⟩ := id hK
  obtain ⟨hle, hKK, hP, hD, hS, hh0⟩ := id hw
  obtain ⟨hd, -⟩ := dm_ok_at hok hi
  exact lv_null hx hb hd (kk _ _ _ _ _ _ _ _ _ _ _ _ _ _ _ _ _ _ _ hK hw hls ⟨rfl, hst⟩)
theorem dr_getsC {idx w : Nat} (hi : dm_at z pc = some (.getstatic idx, 3, [0, w])) (hR : dm_g w (.fieldLink (dm_m z).1.cls idx "java/lang/String" "COMPACT_STRINGS" "Z") = true) (kk : dm_W E P l z d MC MS (pc + 3) ls (dI 1 :: st) h ce sl) : dm_W E P l z d MC MS pc ls st h ce sl := by
  intro p e s m args below meth c D g tys L0 L ws A H locs lsC stC hK hw hls hst
  obtain ⟨hok, hst9, hx, hb, hre, hml, hown, hts, hS9, hlk, htb, hnm, hA, hE⟩ := id hK
  obtain ⟨hle, hKK, hP, hD, hS, hh0⟩ := id hw
  obtain ⟨hd, -⟩ := dm_ok_at hok hi
  exact va_gets hx hb hS9.2.2.2.2.2.2.2.1 hS hown (hts _ (dm_g_mem hR)) (fun _ h => h) hd (kk _ _ _ _ _ _ _ _ _ _ _ _ _ _ _ _ _ _ _ hK hw hls ⟨rfl, hst⟩)
theorem dr_gets0 {idx w : Nat} (hi : dm_at z pc = some (.getstatic idx, 3, [1, w])) (hR : dm_g w (.fieldLink (dm_m z).1.cls idx "java/lang/Integer" "DigitOnes" "[B") = true) (kk : dm_W E P l z d MC MS (pc + 3) ls (.retAddr 0 :: st) h ce sl) : dm_W E P l z d MC MS pc ls st h ce sl := by
  intro p e s m args below meth c D g tys L0 L ws A H locs lsC stC hK hw hls hst
  obtain ⟨hok, hst9, hx, hb, hre, hml, hown, hts, hS9, hlk, htb, hnm, hA, hE⟩ := id hK
  obtain ⟨hle, hKK, hP, hD, hS, hh0⟩ := id hw
  obtain ⟨hd, -⟩ := dm_ok_at hok hi
  exact va_gets hx hb hS9.2.2.2.2.2.2.2.2.1 hS hown (hts _ (dm_g_mem hR)) (fun _ h => h) hd (kk _ _ _ _ _ _ _ _ _ _ _ _ _ _ _ _ _ _ _ hK hw hls ⟨rfl, hst⟩)
theorem dr_gets1 {idx w : Nat} (hi : dm_at z pc = some (.getstatic idx, 3, [2, w])) (hR : dm_g w (.fieldLink (dm_m z).1.cls idx "java/lang/Integer" "DigitTens" "[B") = true) (kk : dm_W E P l z d MC MS (pc + 3) ls (.retAddr 1 :: st) h ce sl) : dm_W E P l z d MC MS pc ls st h ce sl := by
  intro p e s m args below meth c D g tys L0 L ws A H locs lsC stC hK hw hls hst
  obtain ⟨hok, hst9, hx, hb, hre, hml, hown, hts, hS9, hlk, htb, hnm, hA, hE⟩ := id hK
  obtain ⟨hle, hKK, hP, hD, hS, hh0⟩ := id hw
  obtain ⟨hd, -⟩ := dm_ok_at hok hi
  exact va_gets hx hb hS9.2.2.2.2.2.2.2.2.2.1 hS hown (hts _ (dm_g_mem hR)) (fun _ h => h) hd (kk _ _ _ _ _ _ _ _ _ _ _ _ _ _ _ _ _ _ _ hK hw hls ⟨rfl, hst⟩)
/-- a digit out of the tables -/
theorem dr_digit {k : Nat} {u : Int} (hi : dm_at z pc = some (.baload, 1, [])) (hk : k = 0 ∨ k = 1) (h0 : 0 ≤ u) (h1 : u ≤ 99) (kk : ∀ x : Int, -2147483648 ≤ x → x < 2147483648 → dm_W E P l z d MC MS (pc + 1) ls (dI x :: st) h ce sl) : dm_W E P l z d MC MS pc ls (dI u :: .retAddr k :: st) h ce sl := by
  intro p e s m args below meth c D g tys L0 L ws A H locs lsC stC hK hw hls hst
  obtain ⟨hok, hst9, hx, hb, hre, hml, hown, hts, hS9, hlk, htb, hnm, hA, hE⟩ := id hK
  obtain ⟨hle, hKK, hP, hD, hS, hh0⟩ := id hw
  obtain ⟨hd, -⟩ := dm_ok_at hok hi
  obtain ⟨y, sc, rfl, hj, hs1⟩ := dm_st_cons hst
  have hj : y = dI u := hj
  subst hj
  obtain ⟨y, sc, rfl, hj, hs2⟩ := dm_st_cons hs1
  have hj : y = .ref (g k) := hj
  subst hj
  obtain ⟨n, rfl⟩ := Int.eq_ofNat_of_zero_le h0
  have hT : ∃ f : Nat → Int32, va_T .byte (g k) 100 (fun j => .int (f j)) A s s.heap := by
    rcases hk with rfl | rfl
    · exact hS9.2.2.2.2.2.2.2.2.2.2.1
    · exact hS9.2.2.2.2.2.2.2.2.2.2.2
  obtain ⟨f, hT⟩ := hT
  have e1 : (nI n).toNatClampNeg = n := nI_clamp (by omega)
  obtain ⟨q, hq, hq2⟩ := bd_of (f n)
  have e2 : dI (n : Int) = .int (nI n) := congrArg Value.int (dI_nI n)
  rw [e2]
  refine va_tb hx hb hT hS (i := nI n) (dm_vpin (by omega) (by omega)) (v := dI q) (by rw [e1]; exact congrArg Value.int hq2) hd (kk q hq.1 hq.2 _ _ _ _ _ _ _ _ _ _ _ _ _ _ _ _ _ _ _ hK hw hls ⟨rfl, hs2⟩)
theorem dr_bast {i : Nat} {vs : List Value} {u x : Int} (hi : dm_at z pc = some (.bastore, 1, [])) (hh : h[i]? = some (21, vs)) (h0 : 0 ≤ u) (h1 : u < vs.length) (kk : ∀ us : List Value, us.length = vs.length → dm_W E P l z d MC MS (pc + 1) ls st (h.set i (21, us)) ce sl) : dm_W E P l z d MC MS pc ls (dI x :: dI u :: .ref i :: st) h ce sl := by
  intro p e s m args below meth c D g tys L0 L ws A H locs lsC stC hK hw hls hst
  obtain ⟨hok, hst9, hx, hb, hre, hml, hown, hts, hS9, hlk, htb, hnm, hA, hE⟩ := id hK
  obtain ⟨hle, hKK, hP, hD, hS, hh0⟩ := id hw
  obtain ⟨hd, -⟩ := dm_ok_at hok hi
  obtain ⟨y, sc, rfl, hj, hs1⟩ := dm_st_cons hst
  have hj : y = dI x := hj
  subst hj
  obtain ⟨y, sc, rfl, hj, hs2⟩ := dm_st_cons hs1
  have hj : y = dI u := hj
  subst hj
  obtain ⟨y9, sc, rfl, ⟨a, ha, rfl⟩, hs3⟩ := dm_st_cons hs2
  obtain ⟨a', cA, f, k1, k2, k3, k4, k5⟩ := dm_arrB hh0 hh
  cases ha.symm.trans k1
  obtain ⟨t0, ht⟩ := List.getElem?_of_mem k4
  obtain ⟨n, rfl⟩ := Int.eq_ofNat_of_zero_le h0
  have hn : n < vs.length := by omega
  have e1 : (nI n).toNatClampNeg = n := nI_clamp (by omega)
  have e2 : dI (n : Int) = .int (nI n) := congrArg Value.int (dI_nI n)
  rw [e2]
  refine va_bast hx hb hKK hP hD hS i t0 k2 ht (dm_vpin hn k3) hd (fun H1 locs1 hP1 hD1 hS1 => ?_)
  rw [e1] at hP1 hD1
  have hlen : (vs.set n (.int (vp_nar .byte (Int32.ofInt x)))).length = vs.length := List.length_set
  refine kk (vs.set n (.int (vp_nar .byte (Int32.ofInt x)))) hlen _ _ _ _ _ _ _ _ _ _ _ _ _ _ _ _ _ _ _ hK ⟨hle, hKK, hP1, hD1, hS1, dm_h_set hh0 k1 ⟨hlen.symm, k3, Or.inr (Or.inl ⟨rfl, k4, _, rfl, fun j v9 hj => ?_⟩)⟩⟩ hls hs3
  have hj : (vs.set n (.int (vp_nar .byte (Int32.ofInt x))))[j]? = some v9 := hj
  rw [List.getElem?_set] at hj
  by_cases q : n = j
  · subst q
    rw [if_pos rfl, if_pos hn] at hj
    cases hj
    refine ⟨by rw [upd, if_pos rfl], ?_⟩
    rw [upd, if_pos rfl]
    exact bt_fit _
  · rw [if_neg q] at hj
    rw [upd, if_neg (fun w => q w.symm)]
    exact k5 j v9 hj

/-- one row of bytes copied into another -/
theorem dr_copy {idx w1 w2 w3 w4 i0 i1 : Nat} {vs us : List Value} {sp dp n : Int} (hi : dm_at z pc = some (.invokestatic idx, 3, [0, 8, w1, w2, w3, w4])) (hR : (dm_g w1 (.methodLink (dm_m z).1.cls idx arraycopyName) && dm_g w2 (.native arraycopyName) && dm_g w3 (.static arraycopyName) && dm_g w4 (.initialized "java/lang/System")) = true)
    (hh0 : h[i0]? = some (21, vs)) (hh1 : h[i1]? = some (21, us)) (p0 : 0 ≤ sp) (p1 : 0 ≤ dp) (p2 : 0 ≤ n) (p3 : sp + n ≤ vs.length) (p4 : dp + n ≤ us.length) (hd1 : 1 ≤ d) (hr : dm_sum st ≤ 8)
    (kk : ∀ us2 : List Value, us2.length = us.length → dm_W E P l z d MC MS (pc + 3) ls st (h.set i1 (21, us2)) ce sl) : dm_W E P l z d MC MS pc ls (dI n :: dI dp :: .ref i1 :: dI sp :: .ref i0 :: st) h ce sl := by
  intro p e s m args below meth c D g tys L0 L ws A H locs lsC stC hK hw hls hst
  obtain ⟨hok, hst9, hx, hb, hre, hml, hown, hts, hS9, hlk, htb, hnm, hA, hE⟩ := id hK
  obtain ⟨hle, hKK, hP, hD, hS, hh9⟩ := id hw
  obtain ⟨hd, -⟩ := dm_ok_at hok hi
  simp only [Bool.and_eq_true] at hR
  obtain ⟨⟨⟨r1, r2⟩, r3⟩, r4⟩ := hR
  obtain ⟨y, sc, rfl, hj, hs1⟩ := dm_st_cons hst
  have hj : y = dI n := hj
  subst hj
  obtain ⟨y, sc, rfl, hj, hs2⟩ := dm_st_cons hs1
  have hj : y = dI dp := hj
  subst hj
  obtain ⟨y9, sc, rfl, ⟨a, ha, rfl⟩, hs3⟩ := dm_st_cons hs2
  obtain ⟨y, sc, rfl, hj, hs4⟩ := dm_st_cons hs3
  have hj : y = dI sp := hj
  subst hj
  obtain ⟨y9, sc, rfl, ⟨a0, ha0, rfl⟩, hs5⟩ := dm_st_cons hs4
  obtain ⟨a', cA, f, k1, k2, k3, k4, k5⟩ := dm_arrB hh9 hh0
  cases ha0.symm.trans k1
  obtain ⟨a', cB, f2, j1, j2, j3, j4, j5⟩ := dm_arrB hh9 hh1
  cases ha.symm.trans j1
  obtain ⟨t0, ht0⟩ := List.getElem?_of_mem k4
  obtain ⟨t1, ht1⟩ := List.getElem?_of_mem j4
  have hsz : lsC.size = (dm_m z).2.2.1 := by obtain ⟨lv, q1, -, -⟩ := hls; exact q1.1
  obtain ⟨N, rfl⟩ := Int.eq_ofNat_of_zero_le p2
  obtain ⟨S, rfl⟩ := Int.eq_ofNat_of_zero_le p0
  obtain ⟨U, rfl⟩ := Int.eq_ofNat_of_zero_le p1
  have eN : dI (N : Int) = .int (nI N) := congrArg Value.int (dI_nI N)
  have eS : dI (S : Int) = .int (nI S) := congrArg Value.int (dI_nI S)
  have eU : dI (U : Int) = .int (nI U) := congrArg Value.int (dI_nI U)
  rw [eN, eS, eU]
  have cN : (nI N).toNatClampNeg = N := nI_clamp (by omega)
  have cS : (nI S).toNatClampNeg = S := nI_clamp (by omega)
  have cU : (nI U).toNatClampNeg = U := nI_clamp (by omega)
  have fit0 : ∀ i, i < N → fits .byte (.int (f (S + i))) = true := fun i hi2 => (k5 (S + i) _ (List.getElem?_eq_getElem (by omega))).2
  refine va_copyi hx hb (hml.trans hsz.symm) hown (hts _ (dm_g_mem r1)) (hts _ (dm_g_mem r2)) (hts _ (dm_g_mem r3)) (hts _ (dm_g_mem r4)) hKK hP hD hS i0 i1 t0 t1 k2 j2 ht0 ht1 rfl (nI_pos (by omega)) (nI_pos (by omega)) (nI_pos (by omega)) (by rw [cS, cN]; omega) (by rw [cU, cN]; omega) (by rw [cS, cN]; exact fit0) (by show 1 ≤ 4 * d + 368; omega) (by show _ + (_ + 11) ≤ 200 * d; rw [dm_st_sum hs5]; have q9 : nativeFrameWords "java/lang/System" "arraycopy" 5 ≤ 100 := (by decide +kernel); omega) hd (fun H1 locs1 hP1 hD1 hS1 => ?_)
  rw [cS, cU, cN] at hP1 hD1
  have hlen : ((List.range us.length).map (fun j => Value.int (va_cpy f f2 S U N j))).length = us.length := by rw [List.length_map, List.length_range]
  refine kk ((List.range us.length).map (fun j => Value.int (va_cpy f f2 S U N j))) hlen _ _ _ _ _ _ _ _ _ _ _ _ _ _ _ _ _ _ _ hK ⟨hle, hKK, hP1, hD1, hS1, dm_h_set hh9 j1 ⟨hlen.symm, j3, Or.inr (Or.inl ⟨rfl, j4, _, rfl, fun j v9 hj => ?_⟩)⟩⟩ hls hs5
  have hj : ((List.range us.length).map (fun j => Value.int (va_cpy f f2 S U N j)))[j]? = some v9 := hj
  rw [List.getElem?_map] at hj
  by_cases q : j < us.length
  · rw [List.getElem?_range q] at hj
    cases hj
    refine ⟨rfl, ?_⟩
    unfold va_cpy
    split
    · rename_i w; exact fit0 _ (by omega)
    · exact (j5 j _ (List.getElem?_eq_getElem q)).2
  · rw [List.getElem?_eq_none (by rw [List.length_range]; omega)] at hj
    cases hj
/-- a row of bytes, once more -/
theorem dr_cloneB {idx w1 w2 w3 w4 w5 i : Nat} {vs : List Value} (hi : dm_at z pc = some (.invokevirtual idx, 3, [])) (hR : (dm_g w1 (.methodLink (dm_m z).1.cls idx ⟨"[B", "clone", "()Ljava/lang/Object;"⟩) && dm_g w2 (.sameMethod "[B" "java/lang/Object" "clone" "()Ljava/lang/Object;") && dm_g w3 (.native ⟨"java/lang/Object", "clone", "()Ljava/lang/Object;"⟩) && dm_g w4 (.instanceMethod ⟨"java/lang/Object", "clone", "()Ljava/lang/Object;"⟩) && dm_g w5 (.selects "[B" ⟨"[B", "clone", "()Ljava/lang/Object;"⟩ ⟨"java/lang/Object", "clone", "()Ljava/lang/Object;"⟩)) = true)
    (hcl : Cond.castable "[B" "java/lang/Cloneable" ∈ dm_N) (hh : h[i]? = some (21, vs)) (hd1 : 1 ≤ d) (hr : dm_sum st ≤ 8) (hc : ce + 1 ≤ MC) (hs : sl + vs.length ≤ MS)
    (kk : dm_W E P l z d MC MS (pc + 3) ls (.ref h.length :: st) (h ++ [(21, vs)]) (ce + 1) (sl + vs.length)) : dm_W E P l z d MC MS pc ls (.ref i :: st) h ce sl := by
  intro p e s m args below meth c D g tys L0 L ws A H locs lsC stC hK hw hls hst
  obtain ⟨hok, hst9, hx, hb, hre, hml, hown, hts, hS9, hlk, htb, hnm, hA, hE⟩ := id hK
  obtain ⟨hle, hKK, hP, hD, hS, hh9⟩ := id hw
  obtain ⟨hd, -⟩ := dm_ok_at hok hi
  simp only [Bool.and_eq_true] at hR
  obtain ⟨⟨⟨⟨r1, r2⟩, r3⟩, r4⟩, r5⟩ := hR
  obtain ⟨y9, sc, rfl, ⟨a, ha, rfl⟩, hs1⟩ := dm_st_cons hst
  obtain ⟨a', cA, f, k1, k2, k3, k4, k5⟩ := dm_arrB hh9 hh
  cases ha.symm.trans k1
  obtain ⟨t0, ht0⟩ := List.getElem?_of_mem k4
  have hsz : lsC.size = (dm_m z).2.2.1 := by obtain ⟨lv, q1, -, -⟩ := hls; exact q1.1
  refine va_clone hx hb (hml.trans hsz.symm) hown (hts _ (dm_g_mem r1)) (hts _ (dm_g_mem r2)) (hts _ (dm_g_mem r3)) (hts _ (dm_g_mem r4)) (hts _ (dm_g_mem r5)) (hS9.1 _ hcl) hKK hP hD hS hA i t0 k2 ht0 (va_nm_byte (hKK.2 t0 _ ht0).2) (fun j v9 hv => va_fit (F := fun j => .int (f j)) (fun q hq => (k5 q _ (List.getElem?_eq_getElem hq)).2) j v9 hv) (by show 1 ≤ 4 * d + 368; omega) (by show _ + 14 ≤ 200 * d; rw [dm_st_sum hs1]; omega) hc hs hd (fun q H1 hK1 hP1 hD1 hS1 => ?_)
  have hT : ∀ t ∈ tys, t ∈ tys ++ [(cA, FieldType.byte)] := fun t ht => List.mem_append_left _ ht
  refine kk _ _ _ _ _ _ _ _ _ _ _ (L0 := L0) (L ++ [q]) _ _ _ _ _ _ hK ⟨dm_le_tr hle (dm_le_app _ _), hK1, hP1, hD1, hS1, dm_h_push hh9 hT ⟨rfl, k3, Or.inr (Or.inl ⟨rfl, List.mem_append_left _ k4, _, rfl, k5⟩)⟩⟩ (dm_ls_up (dm_le_app _ _) hls) ⟨⟨q, ?_, rfl⟩, dm_st_up (dm_le_app _ _) hs1⟩
  rw [← hh9.1, List.getElem?_append_right (Nat.le_refl _), Nat.sub_self]; rfl
theorem dr_castB {idx w i : Nat} {vs : List Value} (hi : dm_at z pc = some (.checkcast idx, 3, [])) (hR : dm_g w (.classLink (dm_m z).1.cls idx "[B") = true) (hh : h[i]? = some (21, vs)) (kk : dm_W E P l z d MC MS (pc + 3) ls (.ref i :: st) h ce sl) : dm_W E P l z d MC MS pc ls (.ref i :: st) h ce sl := by
  intro p e s m args below meth c D g tys L0 L ws A H locs lsC stC hK hw hls hst
  obtain ⟨hok, hst9, hx, hb, hre, hml, hown, hts, hS9, hlk, htb, hnm, hA, hE⟩ := id hK
  obtain ⟨hle, hKK, hP, hD, hS, hh9⟩ := id hw
  obtain ⟨hd, -⟩ := dm_ok_at hok hi
  obtain ⟨y9, sc, rfl, ⟨a, ha, rfl⟩, hs1⟩ := dm_st_cons hst
  obtain ⟨a', cA, f, k1, k2, k3, k4, k5⟩ := dm_arrB hh9 hh
  cases ha.symm.trans k1
  obtain ⟨t0, ht0⟩ := List.getElem?_of_mem k4
  exact va_castA hx hb hown (hts _ (dm_g_mem hR)) hP i k2 (va_nm_byte (hKK.2 t0 _ ht0).2) hd (kk _ _ _ _ _ _ _ _ _ _ _ _ _ _ _ _ _ _ _ hK hw hls ⟨⟨a, ha, rfl⟩, hs1⟩)
end SB
