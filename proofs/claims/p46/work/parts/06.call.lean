/-! ===== contracts: from a body; ends; throws; calls; handlers ===== -/
theorem dm_cw0 {z : Nat} (hh : (dm_m z).2.2.2.2 = []) : dm_cw z = .code (dm_m z).1 (dm_m z).2.1 (dm_m z).2.2.1 (dm_m z).2.2.2.1 := by
  unfold dm_cw
  rw [hh]
theorem dm_cw1 {z : Nat} (hh : (dm_m z).2.2.2.2 ≠ []) : dm_cw z = .codeWith (dm_m z).1 (dm_m z).2.1 (dm_m z).2.2.1 (dm_m z).2.2.2.1 (dm_m z).2.2.2.2 := by
  unfold dm_cw
  split
  · rename_i h; exact absurd h hh
  · rename_i h; rfl
/-- a body that keeps its contract -/
theorem dm_M_of {l : Launch} {z d mc ms : Nat} {av : List Value} {h : dm_H} {Q : dm_Rs} (hok : dm_ok z = true) (hl : l.stackTraces = false) (hh : (dm_m z).2.2.2.2 = []) (hn : dm_sz av ≤ (dm_m z).2.2.1)
    (b : dm_W (fun _ _ _ => True) (dm_P Q mc ms) l z d mc ms 0 (dm_in0 (dm_m z).2.2.1 av) [] h 0 0) : dm_M l z d mc ms av h Q := by
  intro D g tys L ws sz avC hhr hst
  have hpl : plainName (dm_m z).1.cls = true := by simp only [dm_ok, Bool.and_eq_true] at hok; exact hok.2
  refine vx_ofW (cc := (dm_m z).2.1) (maxL := (dm_m z).2.2.1) (ret := (dm_m z).2.2.2.1) (ws' := dm_G) hpl (by rw [dm_ws, dm_cw0 hh]) ?_
  intro p e s m args below meth c s₁ B hml htb hv
  obtain ⟨rfl, hsz, hP, hK, hD0, hS9⟩ := hv
  subst hsz
  have hD := hD0.self (sz := s.heap.size)
  generalize hAe : va_A ws s.heap.size = A at hD hS9 ⊢
  have hA : ∀ q : Nat, s.heap.size ≤ q → A q := fun q h => by rw [← hAe]; exact Or.inr h
  rw [lg_entry_eq]
  have hts := atoms_spec (ws := dm_ws z) B.pre
  have ht : c.exceptionTable.toList = tableOf (dm_m z).2.2.2.2 := by
    rw [hh]
    exact List.eq_nil_iff_forall_not_mem.mpr htb
  exact b p e s m _ below meth c D g tys L L ws A s.heap [] _ [] ⟨hok, hl, B.exec, B.bytes, B.returns, hml, findClass_of_methodNamed B.named, fun w hw => hts w (List.mem_cons_of_mem _ hw), hS9, B.notSynchronized, ht, (name_of_methodNamed B.named B.method).1, hA, trivial⟩
    ⟨dm_le_rf, hK, hP, hD, va_S.rf, hhr⟩ (dm_ls_in hst hn) trivial
/-- the same, with handlers -/
theorem dm_M_ofH {l : Launch} {z d mc ms : Nat} {av : List Value} {h : dm_H} {Q : dm_Rs} (hok : dm_ok z = true) (hl : l.stackTraces = false) (hh : (dm_m z).2.2.2.2 ≠ []) (hn : dm_sz av ≤ (dm_m z).2.2.1)
    (b : dm_W (fun _ _ _ => True) (dm_P Q mc ms) l z d mc ms 0 (dm_in0 (dm_m z).2.2.1 av) [] h 0 0) : dm_M l z d mc ms av h Q := by
  intro D g tys L ws sz avC hhr hst
  have hpl : plainName (dm_m z).1.cls = true := by simp only [dm_ok, Bool.and_eq_true] at hok; exact hok.2
  refine vx_ofWH (cc := (dm_m z).2.1) (maxL := (dm_m z).2.2.1) (ret := (dm_m z).2.2.2.1) (hh := (dm_m z).2.2.2.2) (ws' := dm_G) hpl (by rw [dm_ws, dm_cw1 hh]) ?_
  intro p e s m args below meth c s₁ B hml hv
  obtain ⟨rfl, hsz, hP, hK, hD0, hS9⟩ := hv
  subst hsz
  have hD := hD0.self (sz := s.heap.size)
  generalize hAe : va_A ws s.heap.size = A at hD hS9 ⊢
  have hA : ∀ q : Nat, s.heap.size ≤ q → A q := fun q h => by rw [← hAe]; exact Or.inr h
  rw [lg_entry_eq]
  have hts := atoms_spec (ws := dm_ws z) B.pre
  have ht : c.exceptionTable.toList = tableOf (dm_m z).2.2.2.2 := vx_table (x := (dm_m z).1) B (by rw [← dm_cw1 hh]; exact hts _ List.mem_cons_self)
  exact b p e s m _ below meth c D g tys L L ws A s.heap [] _ [] ⟨hok, hl, B.exec, B.bytes, B.returns, hml, findClass_of_methodNamed B.named, fun w hw => hts w (List.mem_cons_of_mem _ hw), hS9, B.notSynchronized, ht, (name_of_methodNamed B.named B.method).1, hA, trivial⟩
    ⟨dm_le_rf, hK, hP, hD, va_S.rf, hhr⟩ (dm_ls_in hst hn) trivial
theorem dm_M_imp {l : Launch} {z d mc ms : Nat} {av : List Value} {h : dm_H} {Q Q2 : dm_Rs} (hM : dm_M l z d mc ms av h Q) (hi : ∀ r h', Q r h' → Q2 r h') : dm_M l z d mc ms av h Q2 := by
  intro D g tys L ws sz avC hhr hst p e h1 h2 h3 s m args below h4 h5 h6 h7
  obtain ⟨n, o, a1, a2, a3, a4⟩ := hM D g tys L ws sz avC hhr hst p e h1 h2 h3 s m args below h4 h5 h6 h7
  refine ⟨n, o, a1, a2, a3, ?_⟩
  rcases a4 with ⟨⟨⟨v, x, h', L', tys', ws', b1, b2, b3⟩, b4⟩, b5⟩ | ⟨q, rfl, X, ce, LL, ⟨⟨h', L', tys', ws', b2, b3⟩, b4⟩, b5⟩
  · exact Or.inl ⟨⟨⟨v, x, h', L', tys', ws', b1, hi _ _ b2, b3⟩, b4⟩, b5⟩
  · exact Or.inr ⟨q, rfl, X, ce, LL, ⟨⟨h', L', tys', ws', hi _ _ b2, b3⟩, b4⟩, b5⟩
section DMC
variable {E : dm_Ex} {P : dm_Po} {Q : dm_Rs} {l : Launch} {z d MC MS pc ce sl : Nat} {ls : List (Option Value)} {st : List Value} {h : dm_H}
/-! ends -/
theorem dr_iret {ty : FieldType} {x : Int32} (hi : dm_at z pc = some (.ireturn, 1, [])) (hr : (dm_m z).2.2.2.1 = some ty) (hn : narrow ty (.int x) = .int x) (hc : ce ≤ MC) (hs : sl ≤ MS) (hq : Q (.inl (some (.int x))) h) : dm_W E (dm_P Q MC MS) l z d MC MS pc ls [.int x] h ce sl := by
  intro p e s m args below meth c D g tys L0 L ws A H locs lsC stC hK hw hls hst
  obtain ⟨hok, hst9, hx, hb, hre, hml, hown, hts, hS9, hlk, htb, hnm, hA, hE⟩ := id hK
  obtain ⟨hle, hKK, hP, hD, hS, hh0⟩ := id hw
  obtain ⟨hd, -⟩ := dm_ok_at hok hi
  obtain ⟨y, sc, rfl, hv, hs1⟩ := dm_st_cons hst
  have hv : y = .int x := hv
  subst hv
  rw [dm_st_nil hs1]
  refine W.widen hc hs (vx_ret (W.zret hx hb (hre.trans hr) hn (fun t ht hW => ⟨⟨_, _, h, L, tys, ws, rfl, hq, hle, va_K.moved hW.alike hKK, by rw [ht]; exact hP, hD, hh0, rfl⟩, hS.F ht⟩) hS.2.2 hd))
theorem dr_lret {x : Int64} (hi : dm_at z pc = some (.lreturn, 1, [])) (hr : (dm_m z).2.2.2.1 = some .long) (hc : ce ≤ MC) (hs : sl ≤ MS) (hq : Q (.inl (some (.long x))) h) : dm_W E (dm_P Q MC MS) l z d MC MS pc ls [.long x] h ce sl := by
  intro p e s m args below meth c D g tys L0 L ws A H locs lsC stC hK hw hls hst
  obtain ⟨hok, hst9, hx, hb, hre, hml, hown, hts, hS9, hlk, htb, hnm, hA, hE⟩ := id hK
  obtain ⟨hle, hKK, hP, hD, hS, hh0⟩ := id hw
  obtain ⟨hd, -⟩ := dm_ok_at hok hi
  obtain ⟨y, sc, rfl, hv, hs1⟩ := dm_st_cons hst
  have hv : y = .long x := hv
  subst hv
  rw [dm_st_nil hs1]
  refine W.widen hc hs (vx_ret (W.lret hx hb (hre.trans hr) (fun t ht hW => ⟨⟨_, _, h, L, tys, ws, rfl, hq, hle, va_K.moved hW.alike hKK, by rw [ht]; exact hP, hD, hh0, rfl⟩, hS.F ht⟩) hS.2.2 hd))
theorem dr_vret (hi : dm_at z pc = some (.return_, 1, [])) (hr : (dm_m z).2.2.2.1 = none) (hc : ce ≤ MC) (hs : sl ≤ MS) (hq : Q (.inl none) h) : dm_W E (dm_P Q MC MS) l z d MC MS pc ls [] h ce sl := by
  intro p e s m args below meth c D g tys L0 L ws A H locs lsC stC hK hw hls hst
  obtain ⟨hok, hst9, hx, hb, hre, hml, hown, hts, hS9, hlk, htb, hnm, hA, hE⟩ := id hK
  obtain ⟨hle, hKK, hP, hD, hS, hh0⟩ := id hw
  obtain ⟨hd, -⟩ := dm_ok_at hok hi
  rw [dm_st_nil hst]
  refine W.widen hc hs (vx_ret (W.vret hx hb (hre.trans hr) (fun t ht hW => ⟨⟨_, _, h, L, tys, ws, rfl, hq, hle, va_K.moved hW.alike hKK, by rw [ht]; exact hP, hD, hh0, trivial⟩, hS.F ht⟩) hS.2.2 hd))
theorem dr_aret {rt : FieldType} {v : Value} (hi : dm_at z pc = some (.areturn, 1, [])) (hr : (dm_m z).2.2.2.1 = some rt) (hrt : (∃ n, rt = .object n) ∨ ∃ t, rt = .array t) (hv0 : (∃ i, v = .ref i) ∨ ∃ i, v = .float i) (hc : ce ≤ MC) (hs : sl ≤ MS) (hq : Q (.inl (some v)) h) : dm_W E (dm_P Q MC MS) l z d MC MS pc ls [v] h ce sl := by
  intro p e s m args below meth c D g tys L0 L ws A H locs lsC stC hK hw hls hst
  obtain ⟨hok, hst9, hx, hb, hre, hml, hown, hts, hS9, hlk, htb, hnm, hA, hE⟩ := id hK
  obtain ⟨hle, hKK, hP, hD, hS, hh0⟩ := id hw
  obtain ⟨hd, -⟩ := dm_ok_at hok hi
  obtain ⟨y, sc, rfl, hv, hs1⟩ := dm_st_cons hst
  rw [dm_st_nil hs1]
  have h3 : ∃ b, y = .ref b := by
    rcases hv0 with ⟨i, q⟩ | ⟨i, q⟩
    · rw [q] at hv; obtain ⟨b, -, hv⟩ := hv; exact ⟨b, hv⟩
    · rw [q] at hv; exact hv
  refine W.widen hc hs (vx_ret (W.aret hx hb (hre.trans hr) hrt (Or.inr h3) (fun t ht hW => ⟨⟨_, _, h, L, tys, ws, rfl, hq, hle, va_K.moved hW.alike hKK, by rw [ht]; exact hP, hD, hh0, hv⟩, hS.F ht⟩) hS.2.2 hd))
/-! exceptions -/
theorem dm_E_fit (k : Nat) : Bundle.fit (dm_E k) = true := by
  unfold dm_E
  split <;> decide +kernel
theorem dm_atS {args : Array Value} {s : State} {g : Nat → Nat} {A : Nat → Prop} {own X : String} {ic : Nat} {cs : List Nat} (hts : ∀ w ∈ dm_G, w.before args s = true) (hS9 : dm_S g A s s.heap) (he : vx_atS own ic X dm_nms = cs.filterMap dm_T) (hg : (vx_atS own ic X dm_nms).all (fun w => goodWord w || dm_nw w) = true) :
    ∀ w ∈ vx_atS own ic X dm_nms, w.before args s = true := by
  intro w hw
  have h1 := List.all_eq_true.mp hg w hw
  rw [he] at hw
  obtain ⟨c, -, hc⟩ := List.mem_filterMap.mp hw
  rcases Bool.or_eq_true _ _ ▸ h1 with q | q
  · exact hts w (List.mem_filter.mpr ⟨dm_T_mem hc, q⟩)
  · exact va_Nw.use (dm_nw_tab q) (hS9.1 w (List.mem_filter.mpr ⟨dm_T_mem hc, q⟩))
theorem dr_throw {idx ex wide is ic st9 wk wi : Nat} {cs : List Nat} (hi : dm_at z pc = some (.new idx, 3, ex :: wide :: is :: ic :: st9 :: wk :: wi :: cs)) (hcs : 1 ≤ cs.length) (hh : (dm_m z).2.2.2.2 = []) (hd1 : 1 ≤ d) (hc : ce + 1 ≤ MC) (hs : sl + 6 ≤ MS) (hr9 : dm_sum st ≤ 8) (hq : Q (.inr (dm_E (ex - 200))) h) : dm_W E (dm_P Q MC MS) l z d MC MS pc ls st h ce sl := by
  intro p e s m args below meth c D g tys L0 L ws A H locs lsC stC hK hw hls hst
  obtain ⟨hok, hst9, hx, hb, hre, hml, hown, hts, hS9, hlk, htb, hnm, hA, hE⟩ := id hK
  obtain ⟨hle, hKK, hP, hD, hS, hh0⟩ := id hw
  obtain ⟨hd, hR⟩ := dm_ok_at hok hi
  cases cs with
  | nil => cases hcs
  | cons c0 cs =>
  have hR : (decide ((dm_strs[st9]?).map (fun q => (q.1, q.2.1)) = some ((dm_m z).1.cls, is)) && dm_g wk (.classLink (dm_m z).1.cls idx (dm_E (ex - 200))) && dm_g wi (.initialized (dm_E (ex - 200))) &&
      decide (vx_atS (dm_m z).1.cls ic (dm_E (ex - 200)) dm_nms = (c0 :: cs).filterMap dm_T) && (vx_atS (dm_m z).1.cls ic (dm_E (ex - 200)) dm_nms).all (fun w => goodWord w || dm_nw w) &&
      (Cond.classLink (dm_m z).1.cls idx (dm_E (ex - 200)) :: Cond.initialized (dm_E (ex - 200)) :: vx_atS (dm_m z).1.cls ic (dm_E (ex - 200)) dm_nms).all vx_ot &&
      (if wide = 0 then decide (decode (dm_m z).2.1 (pc + 3) = .ok (.dup, 1) ∧ decode (dm_m z).2.1 (pc + 4) = .ok (.ldc is, 2) ∧ decode (dm_m z).2.1 (pc + 6) = .ok (.invokespecial ic, 3) ∧ decode (dm_m z).2.1 (pc + 9) = .ok (.athrow, 1))
        else decide (decode (dm_m z).2.1 (pc + 3) = .ok (.dup, 1) ∧ decode (dm_m z).2.1 (pc + 4) = .ok (.ldc_w is, 3) ∧ decode (dm_m z).2.1 (pc + 7) = .ok (.invokespecial ic, 3) ∧ decode (dm_m z).2.1 (pc + 10) = .ok (.athrow, 1)))) = true := hR
  simp only [Bool.and_eq_true, decide_eq_true_eq] at hR
  obtain ⟨⟨⟨⟨⟨⟨r1, r2⟩, r3⟩, r4⟩, r5⟩, r6⟩, r7⟩ := hR
  obtain ⟨q, hq1, hq2⟩ := Option.map_eq_some_iff.mp r1
  obtain ⟨sa, hsa⟩ := hS9.2.2.2.2.2.1 q (List.mem_of_getElem? hq1)
  have e1 : q.1 = (dm_m z).1.cls := congrArg Prod.fst hq2
  have e2 : q.2.1 = is := congrArg Prod.snd hq2
  rw [e1, e2] at hsa
  have hout : ∀ (k : Nat), ∀ x ∈ c.exceptionTable.toList, covers x k = false := fun k x hx9 => by
    rw [htb, hh] at hx9
    cases hx9
  have hlen : lsC.size = c.maxLocals := by
    obtain ⟨lv, k1, -, -⟩ := hls
    rw [hml]
    exact k1.1
  have hX : ∀ t : State, s.vm.Alike t.vm → H.size ≤ t.heap.size → (∀ q : Nat, q < H.size → t.heap[q]? = H[q]?) → dm_X D g L0 A Q (dm_E (ex - 200)) s t := fun t k1 k2 k3 =>
    ⟨⟨h, L, tys, ws, hq, hle, va_K.moved k1 hKK, fun k q9 hq9 => (hP k q9 hq9).kept (k3 _ (hP k q9 hq9).lt), hD, hh0⟩, Nat.le_trans hS.1 k2, fun q9 n1 n2 => by rw [k3 q9 (Nat.lt_of_lt_of_le n1 hS.1)]; exact hS.2.1 q9 n1 n2⟩
  have hsum : (stC.map fun v => v.category).sum ≤ 8 := by rw [dm_st_sum hst]; exact hr9
  have hrl : (stC.map fun v => v.category).sum + (13 * (dm_nms.length + 1) + 43) ≤ (dm_R d MC MS).locals := by
    show _ + (13 * (2 + 1) + 43) ≤ 200 * d
    omega
  have hrf : dm_nms.length + 3 < (dm_R d MC MS).frames := by
    show 2 + 3 < 4 * d + 368
    omega
  have hgo : ∀ w ∈ Cond.classLink (dm_m z).1.cls idx (dm_E (ex - 200)) :: Cond.initialized (dm_E (ex - 200)) :: vx_atS (dm_m z).1.cls ic (dm_E (ex - 200)) dm_nms, vx_ot w = true := List.all_eq_true.mp r6
  have hnm2 : ∀ n ∈ dm_nms, Bundle.fit n = true := by decide +kernel
  split at r7
  · simp only [decide_eq_true_eq] at r7
    exact vx_throwS hx hb hst9 hown (dm_E_fit _) hnm2 (hts _ (dm_g_mem r2)) (hts _ (dm_g_mem r3)) hsa (dm_atS hts hS9 r4 r5) hgo hS9.2.2.2.1 hS9.2.2.2.2.1 hS hlen hd r7.1 r7.2.1 r7.2.2.1 r7.2.2.2 (hout _) hrf hrl hc hs hlk hX hS.2.2 hc hs
  · simp only [decide_eq_true_eq] at r7
    exact vx_throwSW hx hb hst9 hown (dm_E_fit _) hnm2 (hts _ (dm_g_mem r2)) (hts _ (dm_g_mem r3)) hsa (dm_atS hts hS9 r4 r5) hgo hS9.2.2.2.1 hS9.2.2.2.2.1 hS hlen hd r7.1 r7.2.1 r7.2.2.1 r7.2.2.2 (hout _) hrf hrl hc hs hlk hX hS.2.2 hc hs
/-- an exception goes on to the caller -/
theorem dr_out {X : String} (hh : (dm_m z).2.2.2.2 = []) (hc : ce ≤ MC) (hs : sl ≤ MS) (hq : Q (.inr X) h) : dm_T9 E (dm_P Q MC MS) l z d MC MS X pc ls h ce sl := by
  intro p e s m args below meth c D g tys L0 L ws A H locs lsC stC cx q hK hw hls hcx hcv hcl
  obtain ⟨hok, hst9, hx, hb, hre, hml, hown, hts, hS9, hlk, htb, hnm, hA, hE⟩ := id hK
  obtain ⟨hle, hKK, hP, hD, hS, hh0⟩ := id hw
  exact vx_out (fun x hx9 => by rw [htb, hh] at hx9; cases hx9) hlk hcx hcv hcl (fun t ht hv => ⟨⟨h, L, tys, ws, hq, hle, va_K.moved hv hKK, by rw [ht]; exact hP, hD, hh0⟩, hS.F ht⟩) hS.2.2 hc hs
/-- .. or is caught here -/
theorem dr_catch {X : String} {pre suf : List ExceptionTableEntry} {x : ExceptionTableEntry} (hsp : tableOf (dm_m z).2.2.2.2 = pre ++ x :: suf) (hX : X ∈ dm_exs)
    (hpass : ∀ y ∈ pre, covers y pc = false ∨ (y.catchType ≠ 0 ∧ ∃ nm ∈ dm_exs, X ≠ nm ∧ Cond.classLink (dm_m z).1.cls y.catchType nm ∈ dm_G)) (hx : covers x pc = true) (h0 : x.catchType ≠ 0) (hl : Cond.classLink (dm_m z).1.cls x.catchType X ∈ dm_G) (hcs : Cond.castable X X ∈ dm_N)
    (kk : dm_W E P l z d MC MS x.handlerPc ls [.float 0] h ce sl) : dm_T9 E P l z d MC MS X pc ls h ce sl := by
  intro p e s m args below meth c D g tys L0 L ws A H locs lsC stC cx q hK hw hls hcx hcv hcl
  obtain ⟨hok, hst9, hx9, hb, hre, hml, hown, hts, hS9, hlk, htb, hnm, hA, hE⟩ := id hK
  refine vx_catch hown pre x suf (by rw [htb, hsp]) (fun y hy => ?_) hx h0 (hts _ hl) (va_Nw.use rfl (hS9.1 _ hcs)) hcx hcv hcl (kk _ _ _ _ _ _ _ _ _ _ _ _ _ _ _ _ _ _ _ hK hw hls ⟨⟨q, rfl⟩, trivial⟩)
  rcases hpass y hy with q | ⟨q1, nm, q2, q3, q4⟩
  · exact Or.inl q
  · exact Or.inr ⟨q1, nm, hts _ q4, hS9.2.2.2.2.2.2.1 X hX nm q2 q3⟩
/-! calls -/
def dm_split : Nat → List Value → List Value → Option (List Value × List Value)
  | 0, r, acc => some (acc, r)
  | n + 1, v :: r, acc => dm_split n r (v :: acc)
  | _ + 1, [], _ => none
theorem dm_split_ok : ∀ {n : Nat} {st acc av r : List Value}, dm_split n st acc = some (av, r) → ∃ b, st = b ++ r ∧ av = b.reverse ++ acc ∧ b.length = n
  | 0, st, acc, av, r, h => by
    cases h
    exact ⟨[], rfl, rfl, rfl⟩
  | n + 1, v :: st, acc, av, r, h => by
    obtain ⟨b, h1, h2, h3⟩ := dm_split_ok (n := n) h
    exact ⟨v :: b, by rw [h1]; rfl, by rw [h2, List.reverse_cons, List.append_assoc]; rfl, by rw [List.length_cons, h3]⟩
  | n + 1, [], acc, av, r, h => by cases h
theorem dm_o_st {g : Nat → Nat} {L : List Nat} : ∀ {v x : Option Value}, dm_o g L v x → dm_st g L v.toList x.toList
  | none, none, _ => trivial
  | some _, some _, h => ⟨h, trivial⟩
  | none, some _, h => h.elim
  | some _, none, h => h.elim
theorem dm_A_in {A : Nat → Prop} {s : State} {ws : va_W} {H : Heap} {locs : List Loc} (hD : va_D A ws) (hS : va_S A s.heap H locs) (hA : ∀ q, s.heap.size ≤ q → A q) : ∀ q, va_A ws H.size q → A q := by
  intro q hq
  rcases hq with ⟨k, e, h⟩ | h
  · exact hD.2 k (q, e) h
  · exact hA q (Nat.le_trans hS.1 h)
theorem dm_go {p : Program} {e : Env} {R : Room} {s : State} {m : MethodId} {args : Array Value} {below : List Frame} {meth : Method} {c : Code} {D : va_G} {g : Nat → Nat} {L : List Nat} {ws : va_W} {A : Nat → Prop} {H : Heap} {locs : List Loc} {lsC : Array Slot} {stC restC : List Value} {mc2 ms2 : Nat} {aC : Array Value} {Q2 : dm_Rs} {PQ : State → Prop}
    (hr : vx_Run p l e R s m args below meth c H locs ce sl mc2 ms2 (F0 m pc lsC stC) restC (dm_Q D g L (va_A ws H.size) Q2 aC) (dm_X D g L (va_A ws H.size) Q2) (va_A ws H.size))
    (hD : va_D A ws) (hS : va_S A s.heap H locs) (hA : ∀ q, s.heap.size ≤ q → A q)
    (kx : ∀ (X : String) (cx : Cell) (q : Addr) (h' : dm_H) (L' : List Nat) (tys' : List (ClassId × FieldType)) (ws' : va_W) (H1 : Heap) (locs1 : List Loc), Q2 (.inr X) h' → dm_wd D g tys' L L' ws' A s H1 locs1 h' → H1[q]? = some cx → cx.vm = .none → s.vm.findClass X = some cx.cls → vx_W p l e R s m args below meth c H1 locs1 (ce + mc2) (sl + ms2) PQ (F0 m pc lsC restC) q)
    (kk : ∀ (v x : Option Value) (h' : dm_H) (L' : List Nat) (tys' : List (ClassId × FieldType)) (ws' : va_W) (H1 : Heap) (locs1 : List Loc), Q2 (.inl v) h' → dm_wd D g tys' L L' ws' A s H1 locs1 h' → dm_o g L' v x → W p l e R s m args below meth c H1 locs1 (ce + mc2) (sl + ms2) PQ (F0 m (pc + 3) lsC (x.toList ++ restC))) :
    W p l e R s m args below meth c H locs ce sl PQ (F0 m pc lsC stC) := by
  have hA1 := dm_A_in hD hS hA
  intro T hT X
  rcases hr T hT X with ⟨v, st₀, t, T', LL, h0, X', hL, e1, e2, ⟨⟨va, vx, h', L', tys', ws', ho, hq, hle, hk, hp, hd, hh, hov⟩, hF⟩, stp⟩ | ⟨q, st₀, t, T', LL, EX, cx, h0, X', hL, e1, e2, ⟨⟨h', L', tys', ws', hq, hle, hk, hp, hd, hh⟩, hF⟩, hce, hcv, hcl, stp⟩
  · cases ho
    obtain ⟨k1, k2, k3⟩ := vx_keep h0 e1 hS (fun q _ z9 => hA1 q z9) hA1 hL hF
    have hvm : s.vm.Alike t.vm := by rw [← e2]; exact X'.warmed.alike
    obtain ⟨t2, a1, b1⟩ := kk va v h' L' tys' ws' T'.heap (locs ++ LL) hq ⟨hle, va_K.moved hvm.symm hk, by rw [e1]; exact hp, hd.weaken (fun _ q9 _ w9 => hA1 q9.1 w9), k3, hh⟩ hov T' rfl X'
    exact ⟨t2, stp t2 a1, b1⟩
  · obtain ⟨k1, k2, k3⟩ := vx_keep h0 e1 hS (fun q _ z9 => hA1 q z9) hA1 hL hF
    have hvm : s.vm.Alike t.vm := by rw [← e2]; exact X'.warmed.alike
    obtain ⟨t2, a1, b1⟩ := kx EX cx q h' L' tys' ws' T'.heap (locs ++ LL) hq ⟨hle, va_K.moved hvm.symm hk, by rw [e1]; exact hp, hd.weaken (fun _ q9 _ w9 => hA1 q9.1 w9), k3, hh⟩ (by rw [e1]; exact hce) hcv hcl T' rfl X'
    exact ⟨t2, stp.trans a1, b1⟩
abbrev dm_Pc (D : va_G) (g : Nat → Nat) (tys : List (ClassId × FieldType)) (ws : va_W) (sz : Nat) (avC : List Value) : Array Value → State → Prop := va_Pc avC (fun U => U.heap.size = sz ∧ va_P D vwCl ws U.heap ∧ va_K D vwCl tys U ∧ va_D (fun _ => True) ws ∧ dm_S g (va_A ws sz) U U.heap)
theorem dm_blind {D : va_G} {g : Nat → Nat} {tys : List (ClassId × FieldType)} {ws : va_W} {sz : Nat} {avC : List Value} : FrameBlind (dm_Pc D g tys ws sz avC) := fun a U g9 mk q => by
  obtain ⟨q1, q2, q3, q4, q5, q6⟩ := q
  exact ⟨q1, q2, q3, va_K.moved (u := U) (U := U.calling g9 mk a) (Vm.Alike.refl U.vm) q4, q5, dm_S_same q6 rfl⟩
theorem dm_pre {s : State} {D : va_G} {g : Nat → Nat} {tys : List (ClassId × FieldType)} {ws : va_W} {A : Nat → Prop} {H : Heap} {locs : List Loc} (hS9 : dm_S g A s s.heap) (hKK : va_K D vwCl tys s) (hP : va_P D vwCl ws H) (hD : va_D A ws) (hS : va_S A s.heap H locs) (hA : ∀ q, s.heap.size ≤ q → A q) (avC : List Value) :
    ∀ U : State, U.heap = H → s.WarmedH U.vm → dm_Pc D g tys ws H.size avC avC.toArray U := fun U hU hW =>
  ⟨rfl, by rw [hU], by rw [hU]; exact hP, va_K.moved hW.alike hKK, hD.weaken (fun _ _ _ _ => trivial), by rw [hU]; exact dm_S_go hS9 hW hS.2.1 (dm_A_in hD hS hA)⟩
theorem dm_okY_use {z2 wi wc n k : Nat} {args : Array Value} {s : State} (hts : ∀ w ∈ dm_G, w.before args s = true) (hY : dm_okY z2 wi wc = true) (hnr : dm_nr[z2]? = some (n, k)) :
    (Cond.initialized (dm_m z2).1.cls).before args s = true ∧ dm_cw z2 ∈ dm_G ∧ ((dm_m z2).1.cls ≠ "java/lang/invoke/MethodHandle" ∧ (dm_m z2).1.cls ≠ "java/lang/invoke/VarHandle") ∧ (dm_m z2).2.2.1 ≤ 100 ∧ (∀ sig, parseMethodDescriptor (dm_m z2).1.desc = some sig → n = sig.parameters.length) ∧
    (∀ w ∈ dm_ws z2, ∀ (a' : Array Value) (U : State), s.WarmedH U.vm → w.before a' U = true) := by
  simp only [dm_okY, Bool.and_eq_true, decide_eq_true_eq] at hY
  obtain ⟨⟨⟨⟨r1, r2⟩, r3⟩, r4⟩, r5⟩ := hY
  have hc := dm_g_mem r2
  refine ⟨hts _ (dm_g_mem r1), hc, r3, r4, fun sig hs => ?_, fun w hw a' U hW => ?_⟩
  · rw [hs, hnr] at r5
    exact (Option.some.inj r5).symm
  · have hw' : w ∈ dm_G := by
      rcases List.mem_cons.mp hw with q | q
      · rw [q]; exact hc
      · exact q
    exact word_at hW (good_of_word (dm_G_good hw')) (hts w hw')
/-- from the run of a callee -/
theorem dm_fin {p : Program} {e : Env} {s : State} {m : MethodId} {args : Array Value} {below : List Frame} {meth : Method} {c : Code} {D : va_G} {g : Nat → Nat} {tys : List (ClassId × FieldType)} {L0 L : List Nat} {ws : va_W} {A : Nat → Prop} {H : Heap} {locs : List Loc} {lsC : Array Slot} {stC restC rest : List Value} {mc2 ms2 : Nat} {aC : Array Value} {Q2 : dm_Rs}
    (hr : vx_Run p l e (dm_R d MC MS) s m args below meth c H locs ce sl mc2 ms2 (F0 m pc lsC stC) restC (dm_Q D g L (va_A ws H.size) Q2 aC) (dm_X D g L (va_A ws H.size) Q2) (va_A ws H.size))
    (hK : dm_K E l z p s m args meth c g A) (hw : dm_wd D g tys L0 L ws A s H locs h) (hls : dm_ls g L (dm_m z).2.2.1 ls lsC) (hrs : dm_st g L rest restC)
    (kx : ∀ (X : String) (h' : dm_H), Q2 (.inr X) h' → dm_T9 E P l z d MC MS X pc ls h' (ce + mc2) (sl + ms2))
    (kk : ∀ (v : Option Value) (h' : dm_H), Q2 (.inl v) h' → dm_W E P l z d MC MS (pc + 3) ls (v.toList ++ rest) h' (ce + mc2) (sl + ms2)) :
    W p l e (dm_R d MC MS) s m args below meth c H locs ce sl (P D g L0 A below args s) (F0 m pc lsC stC) := by
  obtain ⟨hle, hKK, hP, hD, hS, hh0⟩ := id hw
  obtain ⟨hok, hst9, hx, hb, hre, hml, hown, hts, hS9, hlk, htb, hnm, hA, hE⟩ := id hK
  refine dm_go hr hD hS hA (fun X cx q h' L' tys' ws' H1 locs1 hq hw' h1 h2 h3 => ?_) (fun v x h' L' tys' ws' H1 locs1 hq hw' ho => ?_)
  · exact kx X h' hq _ _ _ _ _ _ _ _ _ _ _ L0 _ _ _ _ _ _ _ _ _ hK ⟨dm_le_tr hle hw'.1, hw'.2⟩ (dm_ls_up hw'.1 hls) h1 h2 h3
  · exact kk v h' hq _ _ _ _ _ _ _ _ _ _ _ L0 _ _ _ _ _ _ _ hK ⟨dm_le_tr hle hw'.1, hw'.2⟩ (dm_ls_up hw'.1 hls) (dm_st_join (dm_o_st ho) (dm_st_up hw'.1 hrs))
theorem dm_met {z2 d2 mc2 ms2 : Nat} {av avC : List Value} {Q2 : dm_Rs} {D : va_G} {g : Nat → Nat} {tys : List (ClassId × FieldType)} {L : List Nat} {ws : va_W} {sz : Nat} (hM : dm_M l z2 d2 mc2 ms2 av h Q2) (hno : ∀ X h', ¬ Q2 (.inr X) h') (hh0 : dm_h g tys L h ws) (hst : dm_st g L av avC) :
    Met l (dm_m z2).1 (dm_ws z2) (dm_R d2 mc2 ms2) (dm_Pc D g tys ws sz avC) (dm_Q D g L (va_A ws sz) Q2) mc2 ms2 (va_A ws sz) := by
  intro p e h1 h2 h3 s m args below h4 h5 h6 h7
  obtain ⟨n, o, a1, a2, a3, a4⟩ := hM D g tys L ws sz avC hh0 hst p e h1 h2 h3 s m args below h4 h5 h6 h7
  refine ⟨n, o, a1, a2, a3, ?_⟩
  rcases a4 with a4 | ⟨q, rfl, EX, cx, LL, ⟨⟨h', _, _, _, hq, _⟩, _⟩, _⟩
  · exact a4
  · exact absurd hq (hno _ _)
theorem dm_args {g : Nat → Nat} {L : List Nat} {n : Nat} {stC av rest : List Value} (hsp : dm_split n st [] = some (av, rest)) (hst : dm_st g L st stC) : ∃ avC restC, stC = avC.reverse ++ restC ∧ dm_st g L av avC ∧ dm_st g L rest restC ∧ avC.length = n := by
  obtain ⟨b, h1, h2, h3⟩ := dm_split_ok hsp
  rw [h1] at hst
  obtain ⟨c, dd, rfl, h4, h5⟩ := dm_st_app hst
  rw [List.append_nil] at h2
  refine ⟨c.reverse, dd, by rw [List.reverse_reverse], by rw [h2]; exact dm_st_rev h4, h5, ?_⟩
  rw [List.length_reverse, dm_st_len h4, h3]
theorem dr_stat {idx z2 w1 w2 w3 w4 d2 mc2 ms2 n k : Nat} {av rest : List Value} {Q2 : dm_Rs} (hi : dm_at z pc = some (.invokestatic idx, 3, [z2, 0, w1, w2, w3, w4])) (hnr : dm_nr[z2]? = some (n, k)) (hh2 : (dm_m z2).2.2.2.2 = []) (hsp : dm_split n st [] = some (av, rest)) (hM : dm_M l z2 d2 mc2 ms2 av h Q2)
    (hd2 : d2 < d) (hc : ce + mc2 ≤ MC) (hs : sl + ms2 ≤ MS) (hr : dm_sum rest ≤ 8)
    (kx : ∀ (X : String) (h' : dm_H), Q2 (.inr X) h' → dm_T9 E P l z d MC MS X pc ls h' (ce + mc2) (sl + ms2))
    (kk : ∀ (v : Option Value) (h' : dm_H), Q2 (.inl v) h' → dm_W E P l z d MC MS (pc + 3) ls (v.toList ++ rest) h' (ce + mc2) (sl + ms2)) : dm_W E P l z d MC MS pc ls st h ce sl := by
  intro p e s m args below meth c D g tys L0 L ws A H locs lsC stC hK hw hls hst
  obtain ⟨hok, hst9, hx, hb, hre, hml, hown, hts, hS9, hlk, htb, hnm, hA, hE⟩ := id hK
  obtain ⟨hle, hKK, hP, hD, hS, hh0⟩ := id hw
  obtain ⟨hd, hR⟩ := dm_ok_at hok hi
  have hR : (dm_g w1 (.methodLink (dm_m z).1.cls idx (dm_m z2).1) && dm_g w2 (.static (dm_m z2).1) && dm_okY z2 w3 w4) = true := hR
  simp only [Bool.and_eq_true] at hR
  obtain ⟨⟨r1, r2⟩, r3⟩ := hR
  obtain ⟨y1, y2, y3, y4, y5, y6⟩ := dm_okY_use hts r3 hnr
  obtain ⟨avC, restC, rfl, ha, hrs, hlen⟩ := dm_args hsp hst
  have hsz : lsC.size = (dm_m z).2.2.1 := by obtain ⟨lv, k1, -, -⟩ := hls; exact k1.1
  rw [dm_cw0 hh2] at y2
  refine dm_fin (vx_runS (As := avC) ⟨hx, hb, hml, hown, hts⟩ (hM D g tys L ws H.size avC hh0 ha) ⟨⟨rfl, rfl, by show 4 * d2 + 368 + 1 ≤ 4 * d + 368; omega, by show 8 + ((dm_m z2).2.2.1 + 11) + 200 * d2 ≤ 200 * d; omega, y6, by rw [dm_ws, dm_cw0 hh2]; exact List.mem_cons_self, hts _ y2, y1, y3, y5, hts _ (dm_g_mem r1)⟩, hts _ (dm_g_mem r2)⟩
    ⟨dm_blind, dm_pre hS9 hKK hP hD hS hA avC⟩ rfl hlen hsz rfl (lv_room (by rw [dm_st_sum hrs]; exact hr)) hd ⟨hc, hs⟩) hK hw hls hrs kx kk
theorem dr_virt {idx z2 w1 w2 w3 w4 w5 d2 mc2 ms2 n ci i : Nat} {av rest vs : List Value} {Q2 : dm_Rs} (hi : dm_at z pc = some (.invokevirtual idx, 3, [z2, 1, w1, w2, w3, w4, w5])) (hnr : dm_nr[z2]? = some (n, ci)) (hh2 : (dm_m z2).2.2.2.2 = []) (hsp : dm_split n st [] = some (av, .ref i :: rest)) (hob : h[i]? = some (ci, vs)) (hM : dm_M l z2 d2 mc2 ms2 (.ref i :: av) h Q2)
    (hd2 : d2 < d) (hc : ce + mc2 ≤ MC) (hs : sl + ms2 ≤ MS) (hr : dm_sum rest ≤ 8)
    (kx : ∀ (X : String) (h' : dm_H), Q2 (.inr X) h' → dm_T9 E P l z d MC MS X pc ls h' (ce + mc2) (sl + ms2))
    (kk : ∀ (v : Option Value) (h' : dm_H), Q2 (.inl v) h' → dm_W E P l z d MC MS (pc + 3) ls (v.toList ++ rest) h' (ce + mc2) (sl + ms2)) : dm_W E P l z d MC MS pc ls st h ce sl := by
  intro p e s m args below meth c D g tys L0 L ws A H locs lsC stC hK hw hls hst
  obtain ⟨hok, hst9, hx, hb, hre, hml, hown, hts, hS9, hlk, htb, hnm, hA, hE⟩ := id hK
  obtain ⟨hle, hKK, hP, hD, hS, hh0⟩ := id hw
  obtain ⟨hd, hR⟩ := dm_ok_at hok hi
  have hR : (dm_g w1 (.methodLink (dm_m z).1.cls idx (dm_m z2).1) && dm_g w2 (.instanceMethod (dm_m z2).1) && dm_g w3 (.selects (dm_m z2).1.cls (dm_m z2).1 (dm_m z2).1) && dm_okY z2 w4 w5 && dm_okC z2) = true := hR
  simp only [Bool.and_eq_true] at hR
  obtain ⟨⟨⟨⟨r1, r2⟩, r3⟩, r4⟩, r5⟩ := hR
  obtain ⟨y1, y2, y3, y4, y5, y6⟩ := dm_okY_use hts r4 hnr
  obtain ⟨avC, restC0, rfl, ha, hrs0, hlen⟩ := dm_args hsp hst
  obtain ⟨y9, restC, rfl, ⟨a, hia, rfl⟩, hrs⟩ := dm_st_cons hrs0
  have hsz : lsC.size = (dm_m z).2.2.1 := by obtain ⟨lv, k1, -, -⟩ := hls; exact k1.1
  rw [dm_cw0 hh2] at y2
  unfold dm_okC at r5
  rw [hnr] at r5
  simp only [decide_eq_true_eq] at r5
  obtain ⟨q, hq1, hq2⟩ := Option.map_eq_some_iff.mp r5
  obtain ⟨a', fs, g1, g2, g3, g4⟩ := dm_obj hh0 hob (Nat.lt_of_lt_of_le (dm_vwlt hq1) (by decide))
  cases hia.symm.trans g1
  obtain ⟨cb, b1, b2, b3⟩ := va_recv hKK hP hq1 g2
  rw [hq2] at b3
  refine dm_fin (vx_runV (As := avC) (C := (dm_m z2).1.cls) ⟨hx, hb, hml, hown, hts⟩ (hM D g tys L ws H.size (.ref a :: avC) hh0 ⟨⟨a, hia, rfl⟩, ha⟩) ⟨⟨rfl, rfl, by show 4 * d2 + 368 + 1 ≤ 4 * d + 368; omega, by show 8 + ((dm_m z2).2.2.1 + 11) + 200 * d2 ≤ 200 * d; omega, y6, by rw [dm_ws, dm_cw0 hh2]; exact List.mem_cons_self, hts _ y2, y1, y3, y5, hts _ (dm_g_mem r1)⟩, hts _ (dm_g_mem r2), hts _ (dm_g_mem r3)⟩
    ⟨dm_blind, ⟨cb, b1, b2, b3⟩, dm_pre hS9 hKK hP hD hS hA (.ref a :: avC)⟩ rfl hlen hsz rfl (lv_room (by rw [dm_st_sum hrs]; exact hr)) hd ⟨hc, hs⟩) hK hw hls hrs kx kk
theorem dm_ofMet {p : Program} {e : Env} {R : Room} {s : State} {m : MethodId} {args : Array Value} {below : List Frame} {meth : Method} {c : Code} {H : Heap} {locs : List Loc} {cells slots mc ms : Nat} {g : JFrame} {rest : List Value} {Qa : State → Outcome → State → Prop} {XC : String → State → State → Prop} {free : Addr → Prop} (hr : va_Run p l e R s m args below meth c H locs cells slots mc ms g rest Qa free) : vx_Run p l e R s m args below meth c H locs cells slots mc ms g rest Qa XC free :=
  fun T hT X => Or.inl (hr T hT X)
theorem dr_init {idx z2 w1 w2 w3 w4 d2 mc2 ms2 n k i : Nat} {av rest : List Value} {Q2 : dm_Rs} (hi : dm_at z pc = some (.invokespecial idx, 3, [z2, 2, w1, w2, w3, w4])) (hnr : dm_nr[z2]? = some (n, k)) (hh2 : (dm_m z2).2.2.2.2 = []) (hrt : (dm_m z2).2.2.2.1 = none) (hsp : dm_split n st [] = some (av, .ref i :: rest)) (hM : dm_M l z2 d2 mc2 ms2 (.ref i :: av) h Q2) (hno : ∀ X h', ¬ Q2 (.inr X) h')
    (hd2 : d2 < d) (hc : ce + mc2 ≤ MC) (hs : sl + ms2 ≤ MS) (hr : dm_sum rest ≤ 8)
    (kk : ∀ (v : Option Value) (h' : dm_H), Q2 (.inl v) h' → dm_W E P l z d MC MS (pc + 3) ls (v.toList ++ rest) h' (ce + mc2) (sl + ms2)) : dm_W E P l z d MC MS pc ls st h ce sl := by
  intro p e s m args below meth c D g tys L0 L ws A H locs lsC stC hK hw hls hst
  obtain ⟨hok, hst9, hx, hb, hre, hml, hown, hts, hS9, hlk, htb, hnm, hA, hE⟩ := id hK
  obtain ⟨hle, hKK, hP, hD, hS, hh0⟩ := id hw
  obtain ⟨hd, hR⟩ := dm_ok_at hok hi
  have hR : (dm_g w1 (.methodLink (dm_m z).1.cls idx (dm_m z2).1) && dm_g w2 (.instanceMethod (dm_m z2).1) && dm_okY z2 w3 w4 && decide ((dm_m z2).1.name = "<init>")) = true := hR
  simp only [Bool.and_eq_true, decide_eq_true_eq] at hR
  obtain ⟨⟨⟨r1, r2⟩, r3⟩, r4⟩ := hR
  obtain ⟨y1, y2, y3, y4, y5, y6⟩ := dm_okY_use hts r3 hnr
  obtain ⟨avC, restC0, rfl, ha, hrs0, hlen⟩ := dm_args hsp hst
  obtain ⟨y9, restC, rfl, ⟨a, hia, rfl⟩, hrs⟩ := dm_st_cons hrs0
  have hsz : lsC.size = (dm_m z).2.2.1 := by obtain ⟨lv, k1, -, -⟩ := hls; exact k1.1
  rw [dm_cw0 hh2, hrt] at y2
  refine dm_fin (dm_ofMet (va_runI (As := avC) ⟨hx, hb, hml, hown, hts⟩ (dm_met hM hno hh0 (avC := .ref a :: avC) ⟨⟨a, hia, rfl⟩, ha⟩) ⟨⟨rfl, rfl, by show 4 * d2 + 368 + 1 ≤ 4 * d + 368; omega, by show 8 + ((dm_m z2).2.2.1 + 11) + 200 * d2 ≤ 200 * d; omega, y6, by rw [dm_ws, dm_cw0 hh2, hrt]; exact List.mem_cons_self, hts _ y2, y1, y3, y5, hts _ (dm_g_mem r1)⟩, r4, hts _ (dm_g_mem r2)⟩
    ⟨dm_blind, dm_pre hS9 hKK hP hD hS hA (.ref a :: avC)⟩ rfl hlen hsz rfl (lv_room (by rw [dm_st_sum hrs]; exact hr)) hd ⟨hc, hs⟩)) hK hw hls hrs (fun X h' q => absurd q (hno X h')) kk
theorem dm_nh_use {own : String} {idx w : Nat} {y : MethodName} {args : Array Value} {s : State} {g : Nat → Nat} {A : Nat → Prop} (hS9 : dm_S g A s s.heap) (h : dm_nh own idx y w = true) : ∃ host, (Cond.methodLinkNest own idx y host).before args s = true := by
  unfold dm_nh at h
  split at h
  · rename_i o i x host hT
    simp only [decide_eq_true_eq] at h
    obtain ⟨rfl, rfl, rfl⟩ := h
    exact ⟨host, va_Nw.use rfl (hS9.1 _ (List.mem_filter.mpr ⟨dm_T_mem hT, rfl⟩))⟩
  · cases h
theorem dr_initN {idx z2 w1 w2 w3 w4 d2 mc2 ms2 n k i : Nat} {av rest : List Value} {Q2 : dm_Rs} (hi : dm_at z pc = some (.invokespecial idx, 3, [z2, 5, w1, w2, w3, w4])) (hnr : dm_nr[z2]? = some (n, k)) (hh2 : (dm_m z2).2.2.2.2 = []) (hrt : (dm_m z2).2.2.2.1 = none) (hsp : dm_split n st [] = some (av, .ref i :: rest)) (hM : dm_M l z2 d2 mc2 ms2 (.ref i :: av) h Q2) (hno : ∀ X h', ¬ Q2 (.inr X) h')
    (hd2 : d2 < d) (hc : ce + mc2 ≤ MC) (hs : sl + ms2 ≤ MS) (hr : dm_sum rest ≤ 8)
    (kk : ∀ (v : Option Value) (h' : dm_H), Q2 (.inl v) h' → dm_W E P l z d MC MS (pc + 3) ls (v.toList ++ rest) h' (ce + mc2) (sl + ms2)) : dm_W E P l z d MC MS pc ls st h ce sl := by
  intro p e s m args below meth c D g tys L0 L ws A H locs lsC stC hK hw hls hst
  obtain ⟨hok, hst9, hx, hb, hre, hml, hown, hts, hS9, hlk, htb, hnm, hA, hE⟩ := id hK
  obtain ⟨hle, hKK, hP, hD, hS, hh0⟩ := id hw
  obtain ⟨hd, hR⟩ := dm_ok_at hok hi
  have hR : (dm_nh (dm_m z).1.cls idx (dm_m z2).1 w1 && dm_g w2 (.instanceMethod (dm_m z2).1) && dm_okY z2 w3 w4 && decide ((dm_m z2).1.name = "<init>")) = true := hR
  simp only [Bool.and_eq_true, decide_eq_true_eq] at hR
  obtain ⟨⟨⟨r1, r2⟩, r3⟩, r4⟩ := hR
  obtain ⟨host, r1⟩ := dm_nh_use (args := args) hS9 r1
  obtain ⟨y1, y2, y3, y4, y5, y6⟩ := dm_okY_use hts r3 hnr
  obtain ⟨avC, restC0, rfl, ha, hrs0, hlen⟩ := dm_args hsp hst
  obtain ⟨y9, restC, rfl, ⟨a, hia, rfl⟩, hrs⟩ := dm_st_cons hrs0
  have hsz : lsC.size = (dm_m z).2.2.1 := by obtain ⟨lv, k1, -, -⟩ := hls; exact k1.1
  rw [dm_cw0 hh2, hrt] at y2
  refine dm_fin (dm_ofMet (va_runIN (As := avC) ⟨hx, hb, hml, hown, hts⟩ (dm_met hM hno hh0 (avC := .ref a :: avC) ⟨⟨a, hia, rfl⟩, ha⟩) ⟨⟨⟨rfl, rfl, by show 4 * d2 + 368 + 1 ≤ 4 * d + 368; omega, by show 8 + ((dm_m z2).2.2.1 + 11) + 200 * d2 ≤ 200 * d; omega, y6, by rw [dm_ws, dm_cw0 hh2, hrt]; exact List.mem_cons_self⟩, hts _ y2, y1, y3, y5, r1⟩, r4, hts _ (dm_g_mem r2)⟩
    ⟨dm_blind, dm_pre hS9 hKK hP hD hS hA (.ref a :: avC)⟩ rfl hlen hsz rfl (lv_room (by rw [dm_st_sum hrs]; exact hr)) hd ⟨hc, hs⟩)) hK hw hls hrs (fun X h' q => absurd q (hno X h')) kk
theorem dr_statN {idx z2 w1 w2 w3 w4 d2 mc2 ms2 n k : Nat} {av rest : List Value} {Q2 : dm_Rs} (hi : dm_at z pc = some (.invokestatic idx, 3, [z2, 4, w1, w2, w3, w4])) (hnr : dm_nr[z2]? = some (n, k)) (hh2 : (dm_m z2).2.2.2.2 = []) (hsp : dm_split n st [] = some (av, rest)) (hM : dm_M l z2 d2 mc2 ms2 av h Q2) (hno : ∀ X h', ¬ Q2 (.inr X) h')
    (hd2 : d2 < d) (hc : ce + mc2 ≤ MC) (hs : sl + ms2 ≤ MS) (hr : dm_sum rest ≤ 8)
    (kk : ∀ (v : Option Value) (h' : dm_H), Q2 (.inl v) h' → dm_W E P l z d MC MS (pc + 3) ls (v.toList ++ rest) h' (ce + mc2) (sl + ms2)) : dm_W E P l z d MC MS pc ls st h ce sl := by
  intro p e s m args below meth c D g tys L0 L ws A H locs lsC stC hK hw hls hst
  obtain ⟨hok, hst9, hx, hb, hre, hml, hown, hts, hS9, hlk, htb, hnm, hA, hE⟩ := id hK
  obtain ⟨hle, hKK, hP, hD, hS, hh0⟩ := id hw
  obtain ⟨hd, hR⟩ := dm_ok_at hok hi
  have hR : (dm_nh (dm_m z).1.cls idx (dm_m z2).1 w1 && dm_g w2 (.static (dm_m z2).1) && dm_okY z2 w3 w4) = true := hR
  simp only [Bool.and_eq_true] at hR
  obtain ⟨⟨r1, r2⟩, r3⟩ := hR
  obtain ⟨host, r1⟩ := dm_nh_use (args := args) hS9 r1
  obtain ⟨y1, y2, y3, y4, y5, y6⟩ := dm_okY_use hts r3 hnr
  obtain ⟨avC, restC, rfl, ha, hrs, hlen⟩ := dm_args hsp hst
  have hsz : lsC.size = (dm_m z).2.2.1 := by obtain ⟨lv, k1, -, -⟩ := hls; exact k1.1
  rw [dm_cw0 hh2] at y2
  refine dm_fin (dm_ofMet (va_runSN (As := avC) ⟨hx, hb, hml, hown, hts⟩ (dm_met hM hno hh0 ha) ⟨⟨⟨rfl, rfl, by show 4 * d2 + 368 + 1 ≤ 4 * d + 368; omega, by show 8 + ((dm_m z2).2.2.1 + 11) + 200 * d2 ≤ 200 * d; omega, y6, by rw [dm_ws, dm_cw0 hh2]; exact List.mem_cons_self⟩, hts _ y2, y1, y3, y5, r1⟩, hts _ (dm_g_mem r2), trivial⟩
    ⟨dm_blind, dm_pre hS9 hKK hP hD hS hA avC⟩ rfl hlen hsz rfl (lv_room (by rw [dm_st_sum hrs]; exact hr)) hd ⟨hc, hs⟩)) hK hw hls hrs (fun X h' q => absurd q (hno X h')) kk
theorem dr_virtN {idx z2 w1 w2 w3 w4 w5 d2 mc2 ms2 n ci i : Nat} {av rest vs : List Value} {Q2 : dm_Rs} (hi : dm_at z pc = some (.invokevirtual idx, 3, [z2, 6, w1, w2, w3, w4, w5])) (hnr : dm_nr[z2]? = some (n, ci)) (hh2 : (dm_m z2).2.2.2.2 = []) (hsp : dm_split n st [] = some (av, .ref i :: rest)) (hob : h[i]? = some (ci, vs)) (hM : dm_M l z2 d2 mc2 ms2 (.ref i :: av) h Q2) (hno : ∀ X h', ¬ Q2 (.inr X) h')
    (hd2 : d2 < d) (hc : ce + mc2 ≤ MC) (hs : sl + ms2 ≤ MS) (hr : dm_sum rest ≤ 8)
    (kk : ∀ (v : Option Value) (h' : dm_H), Q2 (.inl v) h' → dm_W E P l z d MC MS (pc + 3) ls (v.toList ++ rest) h' (ce + mc2) (sl + ms2)) : dm_W E P l z d MC MS pc ls st h ce sl := by
  intro p e s m args below meth c D g tys L0 L ws A H locs lsC stC hK hw hls hst
  obtain ⟨hok, hst9, hx, hb, hre, hml, hown, hts, hS9, hlk, htb, hnm, hA, hE⟩ := id hK
  obtain ⟨hle, hKK, hP, hD, hS, hh0⟩ := id hw
  obtain ⟨hd, hR⟩ := dm_ok_at hok hi
  have hR : (dm_nh (dm_m z).1.cls idx (dm_m z2).1 w1 && dm_g w2 (.instanceMethod (dm_m z2).1) && dm_g w3 (.selects (dm_m z2).1.cls (dm_m z2).1 (dm_m z2).1) && dm_okY z2 w4 w5 && dm_okC z2) = true := hR
  simp only [Bool.and_eq_true] at hR
  obtain ⟨⟨⟨⟨r1, r2⟩, r3⟩, r4⟩, r5⟩ := hR
  obtain ⟨host, r1⟩ := dm_nh_use (args := args) hS9 r1
  obtain ⟨y1, y2, y3, y4, y5, y6⟩ := dm_okY_use hts r4 hnr
  obtain ⟨avC, restC0, rfl, ha, hrs0, hlen⟩ := dm_args hsp hst
  obtain ⟨y9, restC, rfl, ⟨a, hia, rfl⟩, hrs⟩ := dm_st_cons hrs0
  have hsz : lsC.size = (dm_m z).2.2.1 := by obtain ⟨lv, k1, -, -⟩ := hls; exact k1.1
  rw [dm_cw0 hh2] at y2
  unfold dm_okC at r5
  rw [hnr] at r5
  simp only [decide_eq_true_eq] at r5
  obtain ⟨q, hq1, hq2⟩ := Option.map_eq_some_iff.mp r5
  obtain ⟨a', fs, g1, g2, g3, g4⟩ := dm_obj hh0 hob (Nat.lt_of_lt_of_le (dm_vwlt hq1) (by decide))
  cases hia.symm.trans g1
  obtain ⟨cb, b1, b2, b3⟩ := va_recv hKK hP hq1 g2
  rw [hq2] at b3
  refine dm_fin (dm_ofMet (va_runVN (As := avC) (C := (dm_m z2).1.cls) ⟨hx, hb, hml, hown, hts⟩ (dm_met hM hno hh0 (avC := .ref a :: avC) ⟨⟨a, hia, rfl⟩, ha⟩) ⟨⟨⟨rfl, rfl, by show 4 * d2 + 368 + 1 ≤ 4 * d + 368; omega, by show 8 + ((dm_m z2).2.2.1 + 11) + 200 * d2 ≤ 200 * d; omega, y6, by rw [dm_ws, dm_cw0 hh2]; exact List.mem_cons_self⟩, hts _ y2, y1, y3, y5, r1⟩, hts _ (dm_g_mem r2), hts _ (dm_g_mem r3)⟩
    ⟨dm_blind, ⟨cb, b1, b2, b3⟩, dm_pre hS9 hKK hP hD hS hA (.ref a :: avC)⟩ rfl hlen hsz rfl (lv_room (by rw [dm_st_sum hrs]; exact hr)) hd ⟨hc, hs⟩)) hK hw hls hrs (fun X h' q => absurd q (hno X h')) kk
/-- Object's own constructor -/
theorem dr_oinit {idx w1 w2 w3 i : Nat} (hi : dm_at z pc = some (.invokespecial idx, 3, [0, 3, w1, w2, w3])) (hd1 : 1 ≤ d) (hr : dm_sum st ≤ 8) (kk : dm_W E P l z d MC MS (pc + 3) ls st h ce sl) : dm_W E P l z d MC MS pc ls (.ref i :: st) h ce sl := by
  intro p e s m args below meth c D g tys L0 L ws A H locs lsC stC hK hw hls hst
  obtain ⟨hok, hst9, hx, hb, hre, hml, hown, hts, hS9, hlk, htb, hnm, hA, hE⟩ := id hK
  obtain ⟨hd, hR⟩ := dm_ok_at hok hi
  have hR : (dm_g w1 (.methodLink (dm_m z).1.cls idx objectInit) && dm_g w2 (.instanceMethod objectInit) && dm_g w3 (.code objectInit ⟨#[0xb1]⟩ 1 none)) = true := hR
  simp only [Bool.and_eq_true] at hR
  obtain ⟨⟨r1, r2⟩, r3⟩ := hR
  obtain ⟨y9, restC, rfl, ⟨a, hia, rfl⟩, hrs⟩ := dm_st_cons hst
  have hsz : lsC.size = c.maxLocals := by obtain ⟨lv, k1, -, -⟩ := hls; exact k1.1.trans hml.symm
  refine W.objInit hx hb hown (hts _ (dm_g_mem r1)) (hts _ (dm_g_mem r2)) (hts _ (dm_g_mem r3)) rfl hsz rfl hd (by show 1 ≤ 4 * d + 368; omega) ?_ (kk _ _ _ _ _ _ _ _ _ _ _ _ _ _ _ _ _ _ _ hK hw hls hrs)
  show 2 * 0 + _ + 12 ≤ 200 * d
  rw [dm_st_sum hrs]
  omega
/-- a method with handlers, called by its name -/
theorem dr_statH {idx z2 w1 w2 w3 w4 d2 mc2 ms2 n k : Nat} {av rest : List Value} {Q2 : dm_Rs} (hi : dm_at z pc = some (.invokestatic idx, 3, [z2, 0, w1, w2, w3, w4])) (hnr : dm_nr[z2]? = some (n, k)) (hh2 : (dm_m z2).2.2.2.2 ≠ []) (hsp : dm_split n st [] = some (av, rest)) (hM : dm_M l z2 d2 mc2 ms2 av h Q2)
    (hd2 : d2 < d) (hc : ce + mc2 ≤ MC) (hs : sl + ms2 ≤ MS) (hr : dm_sum rest ≤ 8)
    (kx : ∀ (X : String) (h' : dm_H), Q2 (.inr X) h' → dm_T9 E P l z d MC MS X pc ls h' (ce + mc2) (sl + ms2))
    (kk : ∀ (v : Option Value) (h' : dm_H), Q2 (.inl v) h' → dm_W E P l z d MC MS (pc + 3) ls (v.toList ++ rest) h' (ce + mc2) (sl + ms2)) : dm_W E P l z d MC MS pc ls st h ce sl := by
  intro p e s m args below meth c D g tys L0 L ws A H locs lsC stC hK hw hls hst
  obtain ⟨hok, hst9, hx, hb, hre, hml, hown, hts, hS9, hlk, htb, hnm, hA, hE⟩ := id hK
  obtain ⟨hle, hKK, hP, hD, hS, hh0⟩ := id hw
  obtain ⟨hd, hR⟩ := dm_ok_at hok hi
  have hR : (dm_g w1 (.methodLink (dm_m z).1.cls idx (dm_m z2).1) && dm_g w2 (.static (dm_m z2).1) && dm_okY z2 w3 w4) = true := hR
  simp only [Bool.and_eq_true] at hR
  obtain ⟨⟨r1, r2⟩, r3⟩ := hR
  obtain ⟨y1, y2, y3, y4, y5, y6⟩ := dm_okY_use hts r3 hnr
  obtain ⟨avC, restC, rfl, ha, hrs, hlen⟩ := dm_args hsp hst
  have hsz : lsC.size = (dm_m z).2.2.1 := by obtain ⟨lv, k1, -, -⟩ := hls; exact k1.1
  rw [dm_cw1 hh2] at y2
  refine dm_fin (vx_runSX (hh := (dm_m z2).2.2.2.2) (As := avC) ⟨hx, hb, hml, hown, hts⟩ (hM D g tys L ws H.size avC hh0 ha) ⟨⟨rfl, rfl, by show 4 * d2 + 368 + 1 ≤ 4 * d + 368; omega, by show 8 + ((dm_m z2).2.2.1 + 11) + 200 * d2 ≤ 200 * d; omega, y6, by rw [dm_ws, dm_cw1 hh2]; exact List.mem_cons_self⟩, hts _ y2, y1, y3, y5, hts _ (dm_g_mem r1), hts _ (dm_g_mem r2)⟩
    ⟨dm_blind, dm_pre hS9 hKK hP hD hS hA avC⟩ rfl hlen hsz rfl (lv_room (by rw [dm_st_sum hrs]; exact hr)) hd ⟨hc, hs⟩) hK hw hls hrs kx kk
end DMC
