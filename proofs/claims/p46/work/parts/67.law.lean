/-! ===== what stands at the start ===== -/
theorem lw_inst : ∀ (ci : Nat) (q : vw_C), vwCl[ci]? = some q → Cond.instantiable q.1 q.2.2 ∈ lw_tbl := by
  intro ci q h
  match ci, h with
  | 0, h => cases h; exact dm_T_mem (c := 4238) (by decide +kernel)
  | 1, h => cases h; exact dm_T_mem (c := 4075) (by decide +kernel)
  | 2, h => cases h; exact dm_T_mem (c := 1140) (by decide +kernel)
  | 3, h => cases h; exact dm_T_mem (c := 1078) (by decide +kernel)
  | 4, h => cases h; exact dm_T_mem (c := 1057) (by decide +kernel)
  | 5, h => cases h; exact dm_T_mem (c := 1094) (by decide +kernel)
  | 6, h => cases h; exact dm_T_mem (c := 1038) (by decide +kernel)
  | 7, h => cases h; exact dm_T_mem (c := 1112) (by decide +kernel)
  | 8, h => cases h; exact dm_T_mem (c := 1028) (by decide +kernel)
  | 9, h => cases h; exact dm_T_mem (c := 3091) (by decide +kernel)
  | 10, h => cases h; exact dm_T_mem (c := 6027) (by decide +kernel)
  | _ + 11, h => cases h
theorem va_AO_of2 {t : FieldType} {A : Array Value} {U : State} (h : (Cond.arrayOver (.array t)).before A U = true) : va_AOA t U := h
theorem lw_know {s : State} {args : Array Value} (hts : ∀ w ∈ lw_tbl, w.before args s = true) : ∃ D : va_G, ∀ (k : Nat) (q : vw_C), vwCl[k]? = some q → u_Kn s q.1 q.2.1 q.2.2 (D.1 k) (D.2 k) := by
  have hk : ∀ k : Nat, ∃ x : ClassId × (Nat → Nat), ∀ q, vwCl[k]? = some q → u_Kn s q.1 q.2.1 q.2.2 x.1 x.2 := by
    intro k
    cases hq : vwCl[k]? with
    | none => exact ⟨(0, fun _ => 0), fun q h => by cases h⟩
    | some q =>
      obtain ⟨c, i, h⟩ := u_known (C := q.1) (T := q.2.1) (N := q.2.2) (n := q.2.2) hts (fun w hw => (List.mem_filter.mp (dm_clw k q hq w hw)).1) (hts _ (lw_inst k q hq))
      exact ⟨(c, i), fun q2 h2 => by cases h2; exact h⟩
  obtain ⟨f, hf⟩ := Classical.axiomOfChoice hk
  exact ⟨(fun k => (f k).1, fun k => (f k).2), fun k q h => hf k q h⟩
set_option maxRecDepth 100000 in
theorem lw_d1 : ∀ j : Nat, j < 100 → (flatC (Jvm.Cond.and given_1 narrow_1))[14 + j]? = some (Cond.eq (.elem (.static "java/lang/Integer" "DigitOnes" "[B") (.int (Int32.ofNat j))) (.int (Int32.ofNat (48 + j % 10)))) := by decide +kernel
set_option maxRecDepth 100000 in
theorem lw_d2 : ∀ j : Nat, j < 100 → (flatC (Jvm.Cond.and given_1 narrow_1))[117 + j]? = some (Cond.eq (.elem (.static "java/lang/Integer" "DigitTens" "[B") (.int (Int32.ofNat j))) (.int (Int32.ofNat (48 + j / 10)))) := by decide +kernel
set_option maxRecDepth 100000 in
theorem lw_s1 : ∀ q ∈ dm_strs, Cond.stringRef q.1 q.2.1 q.2.2 ∈ lw_tbl := by decide +kernel
set_option maxRecDepth 100000 in
theorem lw_s2 : ∀ q ∈ dm_strs, Cond.exactly (.string q.1 q.2.1) "java/lang/String" ∈ (flatC (Jvm.Cond.and given_1 narrow_1)) := by decide +kernel
set_option maxHeartbeats 4000000 in
set_option maxRecDepth 100000 in
theorem lw_S {s : State} {b : Nat} (hts : ∀ w ∈ lw_tbl, w.before #[Value.ref b] s = true) (hgv : (Jvm.Cond.and given_1 narrow_1).before #[Value.ref b] s = true) : ∃ g : Nat → Nat, g 2 = b ∧ dm_S g (fun q => s.heap.size ≤ q) s s.heap := by
  have hs := flat_of_before _ hgv
  have hA : ∀ a : Nat, a < s.heap.size → ¬ (fun q : Nat => s.heap.size ≤ q) a := fun a h => Nat.not_le.mpr h
  obtain ⟨t1, e1, T1⟩ := va_Tof (tm := .static "java/lang/Integer" "DigitOnes" "[B") (ty := .byte) (N := 100) (f := fun j => .int (Int32.ofNat (48 + j % 10))) (by decide) (hs _ (by decide +kernel)) (va_eqt (hs _ (by decide +kernel))) (fun j hj => va_eqt (hs _ (List.mem_of_getElem? (lw_d1 j hj)))) hA
  obtain ⟨t2, e2, T2⟩ := va_Tof (tm := .static "java/lang/Integer" "DigitTens" "[B") (ty := .byte) (N := 100) (f := fun j => .int (Int32.ofNat (48 + j / 10))) (by decide) (hs _ (by decide +kernel)) (va_eqt (hs _ (by decide +kernel))) (fun j hj => va_eqt (hs _ (List.mem_of_getElem? (lw_d2 j hj)))) hA
  have hstr : ∀ q ∈ dm_strs, ∃ a, vk_R q.1 q.2.1 q.2.2 a s := by
    intro q hq
    obtain ⟨a, c, cA, kA, q1, -⟩ := Cond.exactly_spec (hs _ (lw_s2 q hq))
    exact ⟨a, vk_R.of (hts _ (lw_s1 q hq)) q1⟩
  have hnc : ∀ E ∈ dm_exs, ∀ F ∈ dm_exs, E ≠ F → va_Nc E F s := by
    intro E hE F hF n
    simp only [dm_exs, List.mem_cons, List.not_mem_nil, or_false] at hE hF
    rcases hE with rfl | rfl | rfl <;> rcases hF with rfl | rfl | rfl <;> first | exact absurd rfl n | exact va_Nc.of (hs _ (by decide +kernel))
  refine ⟨fun k => match k with | 0 => t1 | 1 => t2 | _ => b, rfl, ?_⟩
  refine ⟨fun w hw => va_Nw.of (dm_nw_tab (List.mem_filter.mp hw).2) (hts w (List.mem_filter.mp hw).1), va_AO.of (hts _ (by decide +kernel)), va_AO_of2 (hts _ (by decide +kernel)),
    vx_Zqof (hts _ (by decide +kernel)) (hts _ (by decide +kernel)) (hs _ (by decide +kernel)) hA, vx_Zqof (hts _ (by decide +kernel)) (hts _ (by decide +kernel)) (hs _ (by decide +kernel)) hA, hstr, hnc,
    va_Zof (hts _ (by decide +kernel)) (hts _ (by decide +kernel)) (va_eqt (hs _ (by decide +kernel))) hA,
    va_Zof (hts _ (by decide +kernel)) (hts _ (by decide +kernel)) e1 hA, va_Zof (hts _ (by decide +kernel)) (hts _ (by decide +kernel)) e2 hA, ⟨_, T1⟩, ⟨_, T2⟩⟩
