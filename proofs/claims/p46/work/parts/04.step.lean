/-! ===== the machine's step, instruction by instruction ===== -/
def dm_exs : List String := ["java/lang/IndexOutOfBoundsException", "java/lang/IllegalArgumentException", "java/lang/IllegalStateException"]
/-- what lies outside and stays: words, texts, the digits -/
def dm_S (g : Nat → Nat) (A : Nat → Prop) (U : State) (H : Heap) : Prop :=
  (∀ w ∈ dm_N, va_Nw w U) ∧ va_AO "Earlyends$Book" U ∧ va_AOA .int U ∧ vx_Zq Bundle.tN "UNASSIGNED_STACK" Bundle.steD A U H ∧ vx_Zq Bundle.tN "SUPPRESSED_SENTINEL" Bundle.listD A U H ∧
  (∀ q ∈ dm_strs, ∃ a, vk_R q.1 q.2.1 q.2.2 a U) ∧ (∀ E ∈ dm_exs, ∀ F ∈ dm_exs, E ≠ F → va_Nc E F U) ∧ va_Z "java/lang/String" "COMPACT_STRINGS" "Z" (.int 1) A U H ∧
  va_Z "java/lang/Integer" "DigitOnes" "[B" (.ref (g 0)) A U H ∧ va_Z "java/lang/Integer" "DigitTens" "[B" (.ref (g 1)) A U H ∧
  (∃ f : Nat → Int32, va_T .byte (g 0) 100 (fun j => .int (f j)) A U H) ∧ (∃ f : Nat → Int32, va_T .byte (g 1) 100 (fun j => .int (f j)) A U H)
theorem dm_S_go {g : Nat → Nat} {A B : Nat → Prop} {s U : State} {H H1 : Heap} (h : dm_S g A s H) (hW : s.WarmedH U.vm) (hk : ∀ a : Nat, a < H.size → ¬ A a → H1[a]? = H[a]?) (hAB : ∀ q, B q → A q) : dm_S g B U H1 := by
  obtain ⟨h1, h2, h3, h4, h5, h6, h7, h8, h9, h10, ⟨f1, h11⟩, ⟨f2, h12⟩⟩ := h
  have hv := hW.alike
  exact ⟨fun w hw => dm_nw_warm (List.mem_filter.mp hw).2 hW (h1 w hw), va_AO.moved hv h2, dm_AOA_moved hv h3, ((vx_Zq.moved hv h4).kept hk).narrow hAB, ((vx_Zq.moved hv h5).kept hk).narrow hAB,
    fun q hq => by obtain ⟨a, ha⟩ := h6 q hq; exact ⟨a, vk_R.warm hW ha⟩, fun E hE F hF n => va_Nc.moved hv (h7 E hE F hF n), ((va_Z.moved hv h8).kept hk).narrow hAB, ((va_Z.moved hv h9).kept hk).narrow hAB, ((va_Z.moved hv h10).kept hk).narrow hAB,
    ⟨f1, ((va_T.moved hv h11).kept hk).narrow hAB⟩, ⟨f2, ((va_T.moved hv h12).kept hk).narrow hAB⟩⟩
theorem dm_S_same {g : Nat → Nat} {A : Nat → Prop} {s U : State} {H : Heap} (h : dm_S g A s H) (hv : U.vm = s.vm) : dm_S g A U H := by
  obtain ⟨h1, h2, h3, h4, h5, h6, h7, h8, h9, h10, ⟨f1, h11⟩, ⟨f2, h12⟩⟩ := h
  have ha : s.vm.Alike U.vm := by rw [hv]; exact Vm.Alike.refl _
  exact ⟨fun w hw => va_Nw.same (dm_nw_tab (List.mem_filter.mp hw).2) hv.symm (h1 w hw), va_AO.moved ha h2, dm_AOA_moved ha h3, vx_Zq.moved ha h4, vx_Zq.moved ha h5,
    fun q hq => by obtain ⟨a, ha⟩ := h6 q hq; exact ⟨a, vk_R.same hv ha⟩, fun E hE F hF n => va_Nc.moved ha (h7 E hE F hF n), va_Z.moved ha h8, va_Z.moved ha h9, va_Z.moved ha h10, ⟨f1, va_T.moved ha h11⟩, ⟨f2, va_T.moved ha h12⟩⟩
abbrev dm_Ex : Type := (Nat → Nat) → (Nat → Prop) → State → Prop
abbrev dm_Po : Type := va_G → (Nat → Nat) → List Nat → (Nat → Prop) → List Frame → Array Value → State → State → Prop
/-- the method's own standing -/
def dm_K (E : dm_Ex) (l : Launch) (z : Nat) (p : Program) (s : State) (m : MethodId) (args : Array Value) (meth : Method) (c : Code) (g : Nat → Nat) (A : Nat → Prop) : Prop :=
  dm_ok z = true ∧ l.stackTraces = false ∧ p.tables.exec = Jvm.exec ∧ c.code = (dm_m z).2.1 ∧ meth.sig.returnType = (dm_m z).2.2.2.1 ∧ c.maxLocals = (dm_m z).2.2.1 ∧ s.vm.findClass (dm_m z).1.cls = some m.cls ∧
  (∀ w ∈ dm_G, w.before args s = true) ∧ dm_S g A s s.heap ∧ meth.locks = false ∧ c.exceptionTable.toList = tableOf (dm_m z).2.2.2.2 ∧ meth.name = (dm_m z).1.name ∧ (∀ q, s.heap.size ≤ q → A q) ∧ E g A s
/-- the world, as it stands for the heap h -/
def dm_wd (D : va_G) (g : Nat → Nat) (tys : List (ClassId × FieldType)) (L0 L : List Nat) (ws : va_W) (A : Nat → Prop) (s : State) (H : Heap) (locs : List Loc) (h : dm_H) : Prop :=
  dm_le L0 L ∧ va_K D vwCl tys s ∧ va_P D vwCl ws H ∧ va_D A ws ∧ va_S A s.heap H locs ∧ dm_h g tys L h ws
def dm_W (E : dm_Ex) (P : dm_Po) (l : Launch) (z d MC MS : Nat) (pc : Nat) (ls : List (Option Value)) (st : List Value) (h : dm_H) (ce sl : Nat) : Prop :=
  ∀ (p : Program) (e : Env) (s : State) (m : MethodId) (args : Array Value) (below : List Frame) (meth : Method) (c : Code) (D : va_G) (g : Nat → Nat) (tys : List (ClassId × FieldType)) (L0 L : List Nat) (ws : va_W) (A : Nat → Prop) (H : Heap) (locs : List Loc) (lsC : Array Slot) (stC : List Value),
    dm_K E l z p s m args meth c g A → dm_wd D g tys L0 L ws A s H locs h → dm_ls g L (dm_m z).2.2.1 ls lsC → dm_st g L st stC →
    W p l e (dm_R d MC MS) s m args below meth c H locs ce sl (P D g L0 A below args s) (F0 m pc lsC stC)
/-- an exception over the method's frame -/
def dm_T9 (E : dm_Ex) (P : dm_Po) (l : Launch) (z d MC MS : Nat) (X : String) (pc : Nat) (ls : List (Option Value)) (h : dm_H) (ce sl : Nat) : Prop :=
  ∀ (p : Program) (e : Env) (s : State) (m : MethodId) (args : Array Value) (below : List Frame) (meth : Method) (c : Code) (D : va_G) (g : Nat → Nat) (tys : List (ClassId × FieldType)) (L0 L : List Nat) (ws : va_W) (A : Nat → Prop) (H : Heap) (locs : List Loc) (lsC : Array Slot) (stC : List Value) (cx : Cell) (q : Addr),
    dm_K E l z p s m args meth c g A → dm_wd D g tys L0 L ws A s H locs h → dm_ls g L (dm_m z).2.2.1 ls lsC → H[q]? = some cx → cx.vm = .none → s.vm.findClass X = some cx.cls →
    vx_W p l e (dm_R d MC MS) s m args below meth c H locs ce sl (P D g L0 A below args s) (F0 m pc lsC stC) q
abbrev dm_Rs : Type := (Option Value ⊕ String) → dm_H → Prop
def dm_o (g : Nat → Nat) (L : List Nat) : Option Value → Option Value → Prop
  | none, none => True
  | some v, some x => dm_v g L v x
  | _, _ => False
def dm_Q (D : va_G) (g : Nat → Nat) (L0 : List Nat) (A : Nat → Prop) (Q : dm_Rs) : Array Value → State → Outcome → State → Prop := fun _ st o t =>
  (∃ (v x : Option Value) (h : dm_H) (L : List Nat) (tys : List (ClassId × FieldType)) (ws : va_W), o = .returned x ∧ Q (.inl v) h ∧ dm_le L0 L ∧ va_K D vwCl tys t ∧ va_P D vwCl ws t.heap ∧ va_D A ws ∧ dm_h g tys L h ws ∧ dm_o g L v x) ∧ va_F A st t
def dm_X (D : va_G) (g : Nat → Nat) (L0 : List Nat) (A : Nat → Prop) (Q : dm_Rs) : String → State → State → Prop := fun X st t =>
  (∃ (h : dm_H) (L : List Nat) (tys : List (ClassId × FieldType)) (ws : va_W), Q (.inr X) h ∧ dm_le L0 L ∧ va_K D vwCl tys t ∧ va_P D vwCl ws t.heap ∧ va_D A ws ∧ dm_h g tys L h ws) ∧ va_F A st t
def dm_P (Q : dm_Rs) (MC MS : Nat) : dm_Po := fun D g L0 A below args s => vx_MQ below (dm_Q D g L0 A Q) (dm_X D g L0 A Q) args s MC MS A
/-- a method's contract: from the heap h, with arguments av, it ends as Q says -/
def dm_M (l : Launch) (z d mc ms : Nat) (av : List Value) (h : dm_H) (Q : dm_Rs) : Prop :=
  ∀ (D : va_G) (g : Nat → Nat) (tys : List (ClassId × FieldType)) (L : List Nat) (ws : va_W) (sz : Nat) (avC : List Value), dm_h g tys L h ws → dm_st g L av avC →
    vx_Met l (dm_m z).1 (dm_ws z) (dm_R d mc ms) (va_Pc avC (fun U => U.heap.size = sz ∧ va_P D vwCl ws U.heap ∧ va_K D vwCl tys U ∧ va_D (fun _ => True) ws ∧ dm_S g (va_A ws sz) U U.heap)) (dm_Q D g L (va_A ws sz) Q) (dm_X D g L (va_A ws sz) Q) mc ms (va_A ws sz)
section DMW
variable {E : dm_Ex} {P : dm_Po} {l : Launch} {z d MC MS pc ce sl : Nat} {ls : List (Option Value)} {st : List Value} {h : dm_H}

theorem dr_iconst {n : Int} {v : Int32} (hi : dm_at z pc = some (.iconst n, 1, [])) (hv : Int32.ofInt n = v) (kk : dm_W E P l z d MC MS (pc + 1) ls (.int v :: st) h ce sl) : dm_W E P l z d MC MS pc ls st h ce sl := by
  intro p e s m args below meth c D g tys L0 L ws A H locs lsC stC hK hw hls hst
  exact lv_iconst hK.2.2.1 hK.2.2.2.1 (dm_ok_at hK.1 hi).1 hv (kk _ _ _ _ _ _ _ _ _ _ _ _ _ _ _ _ _ _ _ hK hw hls ⟨rfl, hst⟩)
theorem dr_bipush {n : Int} {v : Int32} (hi : dm_at z pc = some (.bipush n, 2, [])) (hv : (Int8.ofInt n).toInt32 = v) (kk : dm_W E P l z d MC MS (pc + 2) ls (.int v :: st) h ce sl) : dm_W E P l z d MC MS pc ls st h ce sl := by
  intro p e s m args below meth c D g tys L0 L ws A H locs lsC stC hK hw hls hst
  exact lv_bipush hK.2.2.1 hK.2.2.2.1 (dm_ok_at hK.1 hi).1 hv (kk _ _ _ _ _ _ _ _ _ _ _ _ _ _ _ _ _ _ _ hK hw hls ⟨rfl, hst⟩)
theorem dr_sipush {n : Int} {v : Int32} (hi : dm_at z pc = some (.sipush n, 3, [])) (hv : (Int16.ofInt n).toInt32 = v) (kk : dm_W E P l z d MC MS (pc + 3) ls (.int v :: st) h ce sl) : dm_W E P l z d MC MS pc ls st h ce sl := by
  intro p e s m args below meth c D g tys L0 L ws A H locs lsC stC hK hw hls hst
  exact lv_sipush hK.2.2.1 hK.2.2.2.1 (dm_ok_at hK.1 hi).1 hv (kk _ _ _ _ _ _ _ _ _ _ _ _ _ _ _ _ _ _ _ hK hw hls ⟨rfl, hst⟩)
theorem dr_lconst {n : Fin 2} {v : Int64} (hi : dm_at z pc = some (.lconst n, 1, [])) (hv : Int64.ofNat (n : Nat) = v) (kk : dm_W E P l z d MC MS (pc + 1) ls (.long v :: st) h ce sl) : dm_W E P l z d MC MS pc ls st h ce sl := by
  intro p e s m args below meth c D g tys L0 L ws A H locs lsC stC hK hw hls hst
  exact lv_lconst hK.2.2.1 hK.2.2.2.1 (dm_ok_at hK.1 hi).1 hv (kk _ _ _ _ _ _ _ _ _ _ _ _ _ _ _ _ _ _ _ hK hw hls ⟨rfl, hst⟩)
theorem dr_ldc2 {idx t v : Nat} (hi : dm_at z pc = some (.ldc2_w idx, 3, [t, v])) (kk : dm_W E P l z d MC MS (pc + 3) ls (.long (Int64.ofNat v) :: st) h ce sl) : dm_W E P l z d MC MS pc ls st h ce sl := by
  intro p e s m args below meth c D g tys L0 L ws A H locs lsC stC hK hw hls hst
  have hd := dm_ok_at hK.1 hi
  exact lv_ldc2 hK.2.2.1 hK.2.2.2.1 hK.2.2.2.2.2.2.1 (hK.2.2.2.2.2.2.2.1 _ (dm_g_mem hd.2)) hd.1 (kk _ _ _ _ _ _ _ _ _ _ _ _ _ _ _ _ _ _ _ hK hw hls ⟨rfl, hst⟩)
theorem dr_iload_n {k : Fin 4} {x : Int32} (hi : dm_at z pc = some (.iload_n k, 1, [])) (hl : ls[(k : Nat)]? = some (some (.int x))) (kk : dm_W E P l z d MC MS (pc + 1) ls (.int x :: st) h ce sl) : dm_W E P l z d MC MS pc ls st h ce sl := by
  intro p e s m args below meth c D g tys L0 L ws A H locs lsC stC hK hw hls hst
  obtain ⟨y, h1, h2⟩ := dm_ls_get hls hl
  have h2 : y = .int x := h2
  subst h2
  exact lv_iload_n hK.2.2.1 hK.2.2.2.1 (dm_ok_at hK.1 hi).1 rfl h1 (kk _ _ _ _ _ _ _ _ _ _ _ _ _ _ _ _ _ _ _ hK hw hls ⟨rfl, hst⟩)
theorem dr_iload {k : Nat} {x : Int32} (hi : dm_at z pc = some (.iload k, 2, [])) (hl : ls[(k : Nat)]? = some (some (.int x))) (kk : dm_W E P l z d MC MS (pc + 2) ls (.int x :: st) h ce sl) : dm_W E P l z d MC MS pc ls st h ce sl := by
  intro p e s m args below meth c D g tys L0 L ws A H locs lsC stC hK hw hls hst
  obtain ⟨y, h1, h2⟩ := dm_ls_get hls hl
  have h2 : y = .int x := h2
  subst h2
  exact lv_iload hK.2.2.1 hK.2.2.2.1 (dm_ok_at hK.1 hi).1 h1 (kk _ _ _ _ _ _ _ _ _ _ _ _ _ _ _ _ _ _ _ hK hw hls ⟨rfl, hst⟩)
theorem dr_lload_n {k : Fin 4} {x : Int64} (hi : dm_at z pc = some (.lload_n k, 1, [])) (hl : ls[(k : Nat)]? = some (some (.long x))) (kk : dm_W E P l z d MC MS (pc + 1) ls (.long x :: st) h ce sl) : dm_W E P l z d MC MS pc ls st h ce sl := by
  intro p e s m args below meth c D g tys L0 L ws A H locs lsC stC hK hw hls hst
  obtain ⟨y, h1, h2⟩ := dm_ls_get hls hl
  have h2 : y = .long x := h2
  subst h2
  exact lv_lload_n hK.2.2.1 hK.2.2.2.1 (dm_ok_at hK.1 hi).1 rfl h1 (kk _ _ _ _ _ _ _ _ _ _ _ _ _ _ _ _ _ _ _ hK hw hls ⟨rfl, hst⟩)
theorem dr_lload {k : Nat} {x : Int64} (hi : dm_at z pc = some (.lload k, 2, [])) (hl : ls[(k : Nat)]? = some (some (.long x))) (kk : dm_W E P l z d MC MS (pc + 2) ls (.long x :: st) h ce sl) : dm_W E P l z d MC MS pc ls st h ce sl := by
  intro p e s m args below meth c D g tys L0 L ws A H locs lsC stC hK hw hls hst
  obtain ⟨y, h1, h2⟩ := dm_ls_get hls hl
  have h2 : y = .long x := h2
  subst h2
  exact lv_lload hK.2.2.1 hK.2.2.2.1 (dm_ok_at hK.1 hi).1 h1 (kk _ _ _ _ _ _ _ _ _ _ _ _ _ _ _ _ _ _ _ hK hw hls ⟨rfl, hst⟩)
theorem dr_aload_n {k : Fin 4} {v : Value} (hi : dm_at z pc = some (.aload_n k, 1, [])) (hl : ls[(k : Nat)]? = some (some v)) (hr : v = .ref (match v with | .ref i => i | _ => 0) ∨ (∃ i, v = .float i) ∨ ∃ i, v = .retAddr i) (kk : dm_W E P l z d MC MS (pc + 1) ls (v :: st) h ce sl) : dm_W E P l z d MC MS pc ls st h ce sl := by
  intro p e s m args below meth c D g tys L0 L ws A H locs lsC stC hK hw hls hst
  obtain ⟨y, h1, h2⟩ := dm_ls_get hls hl
  have h3 : ∃ b, y = .ref b := by
    rcases hr with q | ⟨i, q⟩ | ⟨i, q⟩
    · rw [q] at h2; obtain ⟨b, -, h2⟩ := h2; exact ⟨b, h2⟩
    · rw [q] at h2; exact h2
    · rw [q] at h2; exact ⟨_, h2⟩
  obtain ⟨b, rfl⟩ := h3
  exact lv_aload_n hK.2.2.1 hK.2.2.2.1 (dm_ok_at hK.1 hi).1 rfl h1 (kk _ _ _ _ _ _ _ _ _ _ _ _ _ _ _ _ _ _ _ hK hw hls ⟨h2, hst⟩)
theorem dr_aload {k : Nat} {v : Value} (hi : dm_at z pc = some (.aload k, 2, [])) (hl : ls[(k : Nat)]? = some (some v)) (hr : v = .ref (match v with | .ref i => i | _ => 0) ∨ (∃ i, v = .float i) ∨ ∃ i, v = .retAddr i) (kk : dm_W E P l z d MC MS (pc + 2) ls (v :: st) h ce sl) : dm_W E P l z d MC MS pc ls st h ce sl := by
  intro p e s m args below meth c D g tys L0 L ws A H locs lsC stC hK hw hls hst
  obtain ⟨y, h1, h2⟩ := dm_ls_get hls hl
  have h3 : ∃ b, y = .ref b := by
    rcases hr with q | ⟨i, q⟩ | ⟨i, q⟩
    · rw [q] at h2; obtain ⟨b, -, h2⟩ := h2; exact ⟨b, h2⟩
    · rw [q] at h2; exact h2
    · rw [q] at h2; exact ⟨_, h2⟩
  obtain ⟨b, rfl⟩ := h3
  exact lv_aload hK.2.2.1 hK.2.2.2.1 (dm_ok_at hK.1 hi).1 h1 (kk _ _ _ _ _ _ _ _ _ _ _ _ _ _ _ _ _ _ _ hK hw hls ⟨h2, hst⟩)
theorem dr_istore_n {k : Fin 4} {x : Int32} (hi : dm_at z pc = some (.istore_n k, 1, [])) (hf : dm_fr ls (k : Nat) = true) (kk : dm_W E P l z d MC MS (pc + 1) (ls.set (k : Nat) (some (.int x))) st h ce sl) : dm_W E P l z d MC MS pc ls (.int x :: st) h ce sl := by
  intro p e s m args below meth c D g tys L0 L ws A H locs lsC stC hK hw hls hst
  obtain ⟨y, sc, rfl, hv, hs1⟩ := dm_st_cons hst
  clear hst
  have hst := hs1
  have hv : y = .int x := hv
  subst hv
  obtain ⟨lv, h1, h2, h3⟩ := hls
  exact lv_istore_n hK.2.2.1 hK.2.2.2.1 (dm_ok_at hK.1 hi).1 rfl h1 (by rw [← h2]; exact dm_fr_lt hf) rfl (fun ls9 h9 => kk _ _ _ _ _ _ _ _ _ _ _ _ _ _ _ _ _ _ _ hK hw (dm_ls_set1 h2 h3 hf rfl h9) hst)
theorem dr_istore {k : Nat} {x : Int32} (hi : dm_at z pc = some (.istore k, 2, [])) (hf : dm_fr ls (k : Nat) = true) (kk : dm_W E P l z d MC MS (pc + 2) (ls.set (k : Nat) (some (.int x))) st h ce sl) : dm_W E P l z d MC MS pc ls (.int x :: st) h ce sl := by
  intro p e s m args below meth c D g tys L0 L ws A H locs lsC stC hK hw hls hst
  obtain ⟨y, sc, rfl, hv, hs1⟩ := dm_st_cons hst
  clear hst
  have hst := hs1
  have hv : y = .int x := hv
  subst hv
  obtain ⟨lv, h1, h2, h3⟩ := hls
  exact lv_istore hK.2.2.1 hK.2.2.2.1 (dm_ok_at hK.1 hi).1 h1 (by rw [← h2]; exact dm_fr_lt hf) rfl (fun ls9 h9 => kk _ _ _ _ _ _ _ _ _ _ _ _ _ _ _ _ _ _ _ hK hw (dm_ls_set1 h2 h3 hf rfl h9) hst)
theorem dr_lstore_n {k : Fin 4} {x : Int64} (hi : dm_at z pc = some (.lstore_n k, 1, [])) (hf : dm_fr ls (k : Nat) = true) (hf2 : Nat.blt ((k : Nat) + 1) ls.length = true) (kk : dm_W E P l z d MC MS (pc + 1) ((ls.set (k : Nat) (some (.long x))).set ((k : Nat) + 1) none) st h ce sl) : dm_W E P l z d MC MS pc ls (.long x :: st) h ce sl := by
  intro p e s m args below meth c D g tys L0 L ws A H locs lsC stC hK hw hls hst
  obtain ⟨y, sc, rfl, hv, hs1⟩ := dm_st_cons hst
  clear hst
  have hst := hs1
  have hv : y = .long x := hv
  subst hv
  obtain ⟨lv, h1, h2, h3⟩ := hls
  exact lv_lstore_n hK.2.2.1 hK.2.2.2.1 (dm_ok_at hK.1 hi).1 rfl h1 (by rw [← h2]; exact Nat.blt_eq.mp hf2) rfl (fun ls9 h9 => kk _ _ _ _ _ _ _ _ _ _ _ _ _ _ _ _ _ _ _ hK hw (dm_ls_set2 h2 h3 hf rfl h9) hst)
theorem dr_lstore {k : Nat} {x : Int64} (hi : dm_at z pc = some (.lstore k, 2, [])) (hf : dm_fr ls (k : Nat) = true) (hf2 : Nat.blt ((k : Nat) + 1) ls.length = true) (kk : dm_W E P l z d MC MS (pc + 2) ((ls.set (k : Nat) (some (.long x))).set ((k : Nat) + 1) none) st h ce sl) : dm_W E P l z d MC MS pc ls (.long x :: st) h ce sl := by
  intro p e s m args below meth c D g tys L0 L ws A H locs lsC stC hK hw hls hst
  obtain ⟨y, sc, rfl, hv, hs1⟩ := dm_st_cons hst
  clear hst
  have hst := hs1
  have hv : y = .long x := hv
  subst hv
  obtain ⟨lv, h1, h2, h3⟩ := hls
  exact lv_lstore hK.2.2.1 hK.2.2.2.1 (dm_ok_at hK.1 hi).1 h1 (by rw [← h2]; exact Nat.blt_eq.mp hf2) rfl (fun ls9 h9 => kk _ _ _ _ _ _ _ _ _ _ _ _ _ _ _ _ _ _ _ hK hw (dm_ls_set2 h2 h3 hf rfl h9) hst)
theorem dr_astore_n {k : Fin 4} {v : Value} (hi : dm_at z pc = some (.astore_n k, 1, [])) (hf : dm_fr ls (k : Nat) = true) (hr : v = .ref (match v with | .ref i => i | _ => 0) ∨ (∃ i, v = .float i) ∨ ∃ i, v = .retAddr i) (kk : dm_W E P l z d MC MS (pc + 1) (ls.set (k : Nat) (some v)) st h ce sl) : dm_W E P l z d MC MS pc ls (v :: st) h ce sl := by
  intro p e s m args below meth c D g tys L0 L ws A H locs lsC stC hK hw hls hst
  obtain ⟨y, sc, rfl, hv, hs1⟩ := dm_st_cons hst
  clear hst
  have hst := hs1
  have h8 : ∃ b, y = .ref b := by
    rcases hr with q | ⟨i, q⟩ | ⟨i, q⟩
    · rw [q] at hv; obtain ⟨b, -, hv⟩ := hv; exact ⟨b, hv⟩
    · rw [q] at hv; exact hv
    · rw [q] at hv; exact ⟨_, hv⟩
  obtain ⟨b, rfl⟩ := h8
  obtain ⟨lv, h1, h2, h3⟩ := hls
  exact lv_astore_n hK.2.2.1 hK.2.2.2.1 (dm_ok_at hK.1 hi).1 rfl h1 (by rw [← h2]; exact dm_fr_lt hf) rfl (fun ls9 h9 => kk _ _ _ _ _ _ _ _ _ _ _ _ _ _ _ _ _ _ _ hK hw (dm_ls_set1 h2 h3 hf hv h9) hst)
theorem dr_astore {k : Nat} {v : Value} (hi : dm_at z pc = some (.astore k, 2, [])) (hf : dm_fr ls (k : Nat) = true) (hr : v = .ref (match v with | .ref i => i | _ => 0) ∨ (∃ i, v = .float i) ∨ ∃ i, v = .retAddr i) (kk : dm_W E P l z d MC MS (pc + 2) (ls.set (k : Nat) (some v)) st h ce sl) : dm_W E P l z d MC MS pc ls (v :: st) h ce sl := by
  intro p e s m args below meth c D g tys L0 L ws A H locs lsC stC hK hw hls hst
  obtain ⟨y, sc, rfl, hv, hs1⟩ := dm_st_cons hst
  clear hst
  have hst := hs1
  have h8 : ∃ b, y = .ref b := by
    rcases hr with q | ⟨i, q⟩ | ⟨i, q⟩
    · rw [q] at hv; obtain ⟨b, -, hv⟩ := hv; exact ⟨b, hv⟩
    · rw [q] at hv; exact hv
    · rw [q] at hv; exact ⟨_, hv⟩
  obtain ⟨b, rfl⟩ := h8
  obtain ⟨lv, h1, h2, h3⟩ := hls
  exact lv_astore hK.2.2.1 hK.2.2.2.1 (dm_ok_at hK.1 hi).1 h1 (by rw [← h2]; exact dm_fr_lt hf) rfl (fun ls9 h9 => kk _ _ _ _ _ _ _ _ _ _ _ _ _ _ _ _ _ _ _ hK hw (dm_ls_set1 h2 h3 hf hv h9) hst)
theorem dr_iinc {i : Nat} {n : Int} {x v : Int32} (hi : dm_at z pc = some (.iinc i n, 3, [])) (hl : ls[i]? = some (some (.int x))) (hv : x + Int32.ofInt n = v) (hf : dm_fr ls i = true) (kk : dm_W E P l z d MC MS (pc + 3) (ls.set i (some (.int v))) st h ce sl) : dm_W E P l z d MC MS pc ls st h ce sl := by
  intro p e s m args below meth c D g tys L0 L ws A H locs lsC stC hK hw hls hst
  obtain ⟨lv, h1, h2, h3⟩ := hls
  obtain ⟨y, h4, h5⟩ := h3 i _ hl
  have h5 : y = .int x := h5
  subst h5
  obtain ⟨k, h6⟩ := List.getElem?_of_mem h4
  exact lv_iinc hK.2.2.1 hK.2.2.2.1 (dm_ok_at hK.1 hi).1 h1 h6 hv (by rw [← h2]; exact dm_fr_lt hf) rfl (fun ls9 h9 => kk _ _ _ _ _ _ _ _ _ _ _ _ _ _ _ _ _ _ _ hK hw (dm_ls_set1 h2 h3 hf rfl h9) hst)
theorem dr_iadd {x y v : Int32} (hi : dm_at z pc = some (.iadd, 1, [])) (he : x + y = v) (kk : dm_W E P l z d MC MS (pc + 1) ls (.int v :: st) h ce sl) : dm_W E P l z d MC MS pc ls (.int y :: .int x :: st) h ce sl := by
  intro p e s m args below meth c D g tys L0 L ws A H locs lsC stC hK hw hls hst
  obtain ⟨y9, sc, rfl, hv, hs1⟩ := dm_st_cons hst
  clear hst
  have hv : y9 = .int y := hv
  subst hv
  obtain ⟨y8, sc, rfl, hv2, hst⟩ := dm_st_cons hs1
  have hv2 : y8 = .int x := hv2
  subst hv2
  subst he
  exact lv_iadd hK.2.2.1 hK.2.2.2.1 (dm_ok_at hK.1 hi).1 (kk _ _ _ _ _ _ _ _ _ _ _ _ _ _ _ _ _ _ _ hK hw hls ⟨rfl, hst⟩)
theorem dr_isub {x y v : Int32} (hi : dm_at z pc = some (.isub, 1, [])) (he : x - y = v) (kk : dm_W E P l z d MC MS (pc + 1) ls (.int v :: st) h ce sl) : dm_W E P l z d MC MS pc ls (.int y :: .int x :: st) h ce sl := by
  intro p e s m args below meth c D g tys L0 L ws A H locs lsC stC hK hw hls hst
  obtain ⟨y9, sc, rfl, hv, hs1⟩ := dm_st_cons hst
  clear hst
  have hv : y9 = .int y := hv
  subst hv
  obtain ⟨y8, sc, rfl, hv2, hst⟩ := dm_st_cons hs1
  have hv2 : y8 = .int x := hv2
  subst hv2
  subst he
  exact lv_isub hK.2.2.1 hK.2.2.2.1 (dm_ok_at hK.1 hi).1 (kk _ _ _ _ _ _ _ _ _ _ _ _ _ _ _ _ _ _ _ hK hw hls ⟨rfl, hst⟩)
theorem dr_imul {x y v : Int32} (hi : dm_at z pc = some (.imul, 1, [])) (he : x * y = v) (kk : dm_W E P l z d MC MS (pc + 1) ls (.int v :: st) h ce sl) : dm_W E P l z d MC MS pc ls (.int y :: .int x :: st) h ce sl := by
  intro p e s m args below meth c D g tys L0 L ws A H locs lsC stC hK hw hls hst
  obtain ⟨y9, sc, rfl, hv, hs1⟩ := dm_st_cons hst
  clear hst
  have hv : y9 = .int y := hv
  subst hv
  obtain ⟨y8, sc, rfl, hv2, hst⟩ := dm_st_cons hs1
  have hv2 : y8 = .int x := hv2
  subst hv2
  subst he
  exact lv_imul hK.2.2.1 hK.2.2.2.1 (dm_ok_at hK.1 hi).1 (kk _ _ _ _ _ _ _ _ _ _ _ _ _ _ _ _ _ _ _ hK hw hls ⟨rfl, hst⟩)
theorem dr_iand {x y v : Int32} (hi : dm_at z pc = some (.iand, 1, [])) (he : x &&& y = v) (kk : dm_W E P l z d MC MS (pc + 1) ls (.int v :: st) h ce sl) : dm_W E P l z d MC MS pc ls (.int y :: .int x :: st) h ce sl := by
  intro p e s m args below meth c D g tys L0 L ws A H locs lsC stC hK hw hls hst
  obtain ⟨y9, sc, rfl, hv, hs1⟩ := dm_st_cons hst
  clear hst
  have hv : y9 = .int y := hv
  subst hv
  obtain ⟨y8, sc, rfl, hv2, hst⟩ := dm_st_cons hs1
  have hv2 : y8 = .int x := hv2
  subst hv2
  subst he
  exact lv_iand hK.2.2.1 hK.2.2.2.1 (dm_ok_at hK.1 hi).1 (kk _ _ _ _ _ _ _ _ _ _ _ _ _ _ _ _ _ _ _ hK hw hls ⟨rfl, hst⟩)
theorem dr_ior {x y v : Int32} (hi : dm_at z pc = some (.ior, 1, [])) (he : x ||| y = v) (kk : dm_W E P l z d MC MS (pc + 1) ls (.int v :: st) h ce sl) : dm_W E P l z d MC MS pc ls (.int y :: .int x :: st) h ce sl := by
  intro p e s m args below meth c D g tys L0 L ws A H locs lsC stC hK hw hls hst
  obtain ⟨y9, sc, rfl, hv, hs1⟩ := dm_st_cons hst
  clear hst
  have hv : y9 = .int y := hv
  subst hv
  obtain ⟨y8, sc, rfl, hv2, hst⟩ := dm_st_cons hs1
  have hv2 : y8 = .int x := hv2
  subst hv2
  subst he
  exact lv_ior hK.2.2.1 hK.2.2.2.1 (dm_ok_at hK.1 hi).1 (kk _ _ _ _ _ _ _ _ _ _ _ _ _ _ _ _ _ _ _ hK hw hls ⟨rfl, hst⟩)
theorem dr_ixor {x y v : Int32} (hi : dm_at z pc = some (.ixor, 1, [])) (he : x ^^^ y = v) (kk : dm_W E P l z d MC MS (pc + 1) ls (.int v :: st) h ce sl) : dm_W E P l z d MC MS pc ls (.int y :: .int x :: st) h ce sl := by
  intro p e s m args below meth c D g tys L0 L ws A H locs lsC stC hK hw hls hst
  obtain ⟨y9, sc, rfl, hv, hs1⟩ := dm_st_cons hst
  clear hst
  have hv : y9 = .int y := hv
  subst hv
  obtain ⟨y8, sc, rfl, hv2, hst⟩ := dm_st_cons hs1
  have hv2 : y8 = .int x := hv2
  subst hv2
  subst he
  exact lv_ixor hK.2.2.1 hK.2.2.2.1 (dm_ok_at hK.1 hi).1 (kk _ _ _ _ _ _ _ _ _ _ _ _ _ _ _ _ _ _ _ hK hw hls ⟨rfl, hst⟩)
theorem dr_ishl {x y v : Int32} (hi : dm_at z pc = some (.ishl, 1, [])) (he : x <<< (y &&& 31) = v) (kk : dm_W E P l z d MC MS (pc + 1) ls (.int v :: st) h ce sl) : dm_W E P l z d MC MS pc ls (.int y :: .int x :: st) h ce sl := by
  intro p e s m args below meth c D g tys L0 L ws A H locs lsC stC hK hw hls hst
  obtain ⟨y9, sc, rfl, hv, hs1⟩ := dm_st_cons hst
  clear hst
  have hv : y9 = .int y := hv
  subst hv
  obtain ⟨y8, sc, rfl, hv2, hst⟩ := dm_st_cons hs1
  have hv2 : y8 = .int x := hv2
  subst hv2
  subst he
  exact lv_ishl hK.2.2.1 hK.2.2.2.1 (dm_ok_at hK.1 hi).1 (kk _ _ _ _ _ _ _ _ _ _ _ _ _ _ _ _ _ _ _ hK hw hls ⟨rfl, hst⟩)
theorem dr_ishr {x y v : Int32} (hi : dm_at z pc = some (.ishr, 1, [])) (he : x >>> (y &&& 31) = v) (kk : dm_W E P l z d MC MS (pc + 1) ls (.int v :: st) h ce sl) : dm_W E P l z d MC MS pc ls (.int y :: .int x :: st) h ce sl := by
  intro p e s m args below meth c D g tys L0 L ws A H locs lsC stC hK hw hls hst
  obtain ⟨y9, sc, rfl, hv, hs1⟩ := dm_st_cons hst
  clear hst
  have hv : y9 = .int y := hv
  subst hv
  obtain ⟨y8, sc, rfl, hv2, hst⟩ := dm_st_cons hs1
  have hv2 : y8 = .int x := hv2
  subst hv2
  subst he
  exact lv_ishr hK.2.2.1 hK.2.2.2.1 (dm_ok_at hK.1 hi).1 (kk _ _ _ _ _ _ _ _ _ _ _ _ _ _ _ _ _ _ _ hK hw hls ⟨rfl, hst⟩)
theorem dr_ladd {x y v : Int64} (hi : dm_at z pc = some (.ladd, 1, [])) (he : x + y = v) (kk : dm_W E P l z d MC MS (pc + 1) ls (.long v :: st) h ce sl) : dm_W E P l z d MC MS pc ls (.long y :: .long x :: st) h ce sl := by
  intro p e s m args below meth c D g tys L0 L ws A H locs lsC stC hK hw hls hst
  obtain ⟨y9, sc, rfl, hv, hs1⟩ := dm_st_cons hst
  clear hst
  have hv : y9 = .long y := hv
  subst hv
  obtain ⟨y8, sc, rfl, hv2, hst⟩ := dm_st_cons hs1
  have hv2 : y8 = .long x := hv2
  subst hv2
  subst he
  exact lv_ladd hK.2.2.1 hK.2.2.2.1 (dm_ok_at hK.1 hi).1 (kk _ _ _ _ _ _ _ _ _ _ _ _ _ _ _ _ _ _ _ hK hw hls ⟨rfl, hst⟩)
theorem dr_lmul {x y v : Int64} (hi : dm_at z pc = some (.lmul, 1, [])) (he : x * y = v) (kk : dm_W E P l z d MC MS (pc + 1) ls (.long v :: st) h ce sl) : dm_W E P l z d MC MS pc ls (.long y :: .long x :: st) h ce sl := by
  intro p e s m args below meth c D g tys L0 L ws A H locs lsC stC hK hw hls hst
  obtain ⟨y9, sc, rfl, hv, hs1⟩ := dm_st_cons hst
  clear hst
  have hv : y9 = .long y := hv
  subst hv
  obtain ⟨y8, sc, rfl, hv2, hst⟩ := dm_st_cons hs1
  have hv2 : y8 = .long x := hv2
  subst hv2
  subst he
  exact lv_lmul hK.2.2.1 hK.2.2.2.1 (dm_ok_at hK.1 hi).1 (kk _ _ _ _ _ _ _ _ _ _ _ _ _ _ _ _ _ _ _ hK hw hls ⟨rfl, hst⟩)
theorem dr_idiv {x y v : Int32} (hi : dm_at z pc = some (.idiv, 1, [])) (hn : ¬ y = 0) (he : x / y = v) (kk : dm_W E P l z d MC MS (pc + 1) ls (.int v :: st) h ce sl) : dm_W E P l z d MC MS pc ls (.int y :: .int x :: st) h ce sl := by
  intro p e s m args below meth c D g tys L0 L ws A H locs lsC stC hK hw hls hst
  obtain ⟨y9, sc, rfl, hv, hs1⟩ := dm_st_cons hst
  clear hst
  have hv : y9 = .int y := hv
  subst hv
  obtain ⟨y8, sc, rfl, hv2, hst⟩ := dm_st_cons hs1
  have hv2 : y8 = .int x := hv2
  subst hv2
  subst he
  exact lv_idiv hK.2.2.1 hK.2.2.2.1 (dm_ok_at hK.1 hi).1 hn (kk _ _ _ _ _ _ _ _ _ _ _ _ _ _ _ _ _ _ _ hK hw hls ⟨rfl, hst⟩)
theorem dr_irem {x y v : Int32} (hi : dm_at z pc = some (.irem, 1, [])) (hn : ¬ y = 0) (he : x - x / y * y = v) (kk : dm_W E P l z d MC MS (pc + 1) ls (.int v :: st) h ce sl) : dm_W E P l z d MC MS pc ls (.int y :: .int x :: st) h ce sl := by
  intro p e s m args below meth c D g tys L0 L ws A H locs lsC stC hK hw hls hst
  obtain ⟨y9, sc, rfl, hv, hs1⟩ := dm_st_cons hst
  clear hst
  have hv : y9 = .int y := hv
  subst hv
  obtain ⟨y8, sc, rfl, hv2, hst⟩ := dm_st_cons hs1
  have hv2 : y8 = .int x := hv2
  subst hv2
  subst he
  exact lv_irem hK.2.2.1 hK.2.2.2.1 (dm_ok_at hK.1 hi).1 hn (kk _ _ _ _ _ _ _ _ _ _ _ _ _ _ _ _ _ _ _ hK hw hls ⟨rfl, hst⟩)
theorem dr_iushr {x y v : Int32} (hi : dm_at z pc = some (.iushr, 1, [])) (he : (x.toUInt32 >>> (y.toUInt32 &&& Int32.toUInt32 31)).toInt32 = v) (kk : dm_W E P l z d MC MS (pc + 1) ls (.int v :: st) h ce sl) : dm_W E P l z d MC MS pc ls (.int y :: .int x :: st) h ce sl := by
  intro p e s m args below meth c D g tys L0 L ws A H locs lsC stC hK hw hls hst
  obtain ⟨y9, sc, rfl, hv, hs1⟩ := dm_st_cons hst
  clear hst
  have hv : y9 = .int y := hv
  subst hv
  obtain ⟨y8, sc, rfl, hv2, hst⟩ := dm_st_cons hs1
  have hv2 : y8 = .int x := hv2
  subst hv2
  exact lv_iushr hK.2.2.1 hK.2.2.2.1 (dm_ok_at hK.1 hi).1 he (kk _ _ _ _ _ _ _ _ _ _ _ _ _ _ _ _ _ _ _ hK hw hls ⟨rfl, hst⟩)
theorem dr_ineg {x v : Int32} (hi : dm_at z pc = some (.ineg, 1, [])) (he : -x = v) (kk : dm_W E P l z d MC MS (pc + 1) ls (.int v :: st) h ce sl) : dm_W E P l z d MC MS pc ls (.int x :: st) h ce sl := by
  intro p e s m args below meth c D g tys L0 L ws A H locs lsC stC hK hw hls hst
  obtain ⟨y9, sc, rfl, hv, hs1⟩ := dm_st_cons hst
  clear hst
  have hst := hs1
  have hv : y9 = .int x := hv
  subst hv
  subst he
  exact lv_ineg hK.2.2.1 hK.2.2.2.1 (dm_ok_at hK.1 hi).1 (kk _ _ _ _ _ _ _ _ _ _ _ _ _ _ _ _ _ _ _ hK hw hls ⟨rfl, hst⟩)
theorem dr_i2l {x : Int32} {v : Int64} (hi : dm_at z pc = some (.i2l, 1, [])) (he : x.toInt64 = v) (kk : dm_W E P l z d MC MS (pc + 1) ls (.long v :: st) h ce sl) : dm_W E P l z d MC MS pc ls (.int x :: st) h ce sl := by
  intro p e s m args below meth c D g tys L0 L ws A H locs lsC stC hK hw hls hst
  obtain ⟨y9, sc, rfl, hv, hs1⟩ := dm_st_cons hst
  clear hst
  have hst := hs1
  have hv : y9 = .int x := hv
  subst hv
  exact lv_i2l hK.2.2.1 hK.2.2.2.1 (dm_ok_at hK.1 hi).1 he (kk _ _ _ _ _ _ _ _ _ _ _ _ _ _ _ _ _ _ _ hK hw hls ⟨rfl, hst⟩)
theorem dr_i2b {x v : Int32} (hi : dm_at z pc = some (.i2b, 1, [])) (he : x.toInt8.toInt32 = v) (kk : dm_W E P l z d MC MS (pc + 1) ls (.int v :: st) h ce sl) : dm_W E P l z d MC MS pc ls (.int x :: st) h ce sl := by
  intro p e s m args below meth c D g tys L0 L ws A H locs lsC stC hK hw hls hst
  obtain ⟨y9, sc, rfl, hv, hs1⟩ := dm_st_cons hst
  clear hst
  have hst := hs1
  have hv : y9 = .int x := hv
  subst hv
  exact lv_i2b hK.2.2.1 hK.2.2.2.1 (dm_ok_at hK.1 hi).1 he (kk _ _ _ _ _ _ _ _ _ _ _ _ _ _ _ _ _ _ _ hK hw hls ⟨rfl, hst⟩)
theorem dr_dup {v : Value} (hi : dm_at z pc = some (.dup, 1, [])) (hc : dm_cat v = 1) (kk : dm_W E P l z d MC MS (pc + 1) ls (v :: v :: st) h ce sl) : dm_W E P l z d MC MS pc ls (v :: st) h ce sl := by
  intro p e s m args below meth c D g tys L0 L ws A H locs lsC stC hK hw hls hst
  obtain ⟨y, sc, rfl, hv, hs1⟩ := dm_st_cons hst
  clear hst
  have hst := hs1
  exact lv_dup hK.2.2.1 hK.2.2.2.1 (dm_ok_at hK.1 hi).1 ((dm_v_cat hv).trans hc) (kk _ _ _ _ _ _ _ _ _ _ _ _ _ _ _ _ _ _ _ hK hw hls ⟨hv, hv, hst⟩)
theorem dr_pop {v : Value} (hi : dm_at z pc = some (.pop, 1, [])) (hc : dm_cat v = 1) (kk : dm_W E P l z d MC MS (pc + 1) ls st h ce sl) : dm_W E P l z d MC MS pc ls (v :: st) h ce sl := by
  intro p e s m args below meth c D g tys L0 L ws A H locs lsC stC hK hw hls hst
  obtain ⟨y, sc, rfl, hv, hs1⟩ := dm_st_cons hst
  clear hst
  have hst := hs1
  exact lv_pop hK.2.2.1 hK.2.2.2.1 (dm_ok_at hK.1 hi).1 ((dm_v_cat hv).trans hc) (kk _ _ _ _ _ _ _ _ _ _ _ _ _ _ _ _ _ _ _ hK hw hls hst)
theorem dr_pop2 {v : Value} (hi : dm_at z pc = some (.pop2, 1, [])) (hc : dm_cat v = 2) (kk : dm_W E P l z d MC MS (pc + 1) ls st h ce sl) : dm_W E P l z d MC MS pc ls (v :: st) h ce sl := by
  intro p e s m args below meth c D g tys L0 L ws A H locs lsC stC hK hw hls hst
  obtain ⟨y, sc, rfl, hv, hs1⟩ := dm_st_cons hst
  clear hst
  have hst := hs1
  exact lv_pop2_2 hK.2.2.1 hK.2.2.2.1 (dm_ok_at hK.1 hi).1 ((dm_v_cat hv).trans hc) (kk _ _ _ _ _ _ _ _ _ _ _ _ _ _ _ _ _ _ _ hK hw hls hst)
theorem dr_dup2 {v u : Value} (hi : dm_at z pc = some (.dup2, 1, [])) (hc : dm_cat v = 1) (hc2 : dm_cat u = 1) (kk : dm_W E P l z d MC MS (pc + 1) ls (v :: u :: v :: u :: st) h ce sl) : dm_W E P l z d MC MS pc ls (v :: u :: st) h ce sl := by
  intro p e s m args below meth c D g tys L0 L ws A H locs lsC stC hK hw hls hst
  obtain ⟨y, sc, rfl, hv, hs1⟩ := dm_st_cons hst
  clear hst
  obtain ⟨y2, sc, rfl, hu, hst⟩ := dm_st_cons hs1
  exact lv_dup2_11 hK.2.2.1 hK.2.2.2.1 (dm_ok_at hK.1 hi).1 ((dm_v_cat hv).trans hc) ((dm_v_cat hu).trans hc2) (kk _ _ _ _ _ _ _ _ _ _ _ _ _ _ _ _ _ _ _ hK hw hls ⟨hv, hu, hv, hu, hst⟩)
theorem dr_dup_x1 {v u : Value} (hi : dm_at z pc = some (.dup_x1, 1, [])) (hc : dm_cat v = 1) (hc2 : dm_cat u = 1) (kk : dm_W E P l z d MC MS (pc + 1) ls (v :: u :: v :: st) h ce sl) : dm_W E P l z d MC MS pc ls (v :: u :: st) h ce sl := by
  intro p e s m args below meth c D g tys L0 L ws A H locs lsC stC hK hw hls hst
  obtain ⟨y, sc, rfl, hv, hs1⟩ := dm_st_cons hst
  clear hst
  obtain ⟨y2, sc, rfl, hu, hst⟩ := dm_st_cons hs1
  exact lv_dup_x1 hK.2.2.1 hK.2.2.2.1 (dm_ok_at hK.1 hi).1 ((dm_v_cat hv).trans hc) ((dm_v_cat hu).trans hc2) (kk _ _ _ _ _ _ _ _ _ _ _ _ _ _ _ _ _ _ _ hK hw hls ⟨hv, hu, hv, hst⟩)
theorem dr_if_eq {x : Int32} {off : Int} {tgt : Nat} (hi : dm_at z pc = some (.ifCond .eq off, 3, [tgt])) (ht : (pc : Int) + off = (tgt : Int)) (kt : x = 0 → dm_W E P l z d MC MS tgt ls st h ce sl) (kf : ¬ x = 0 → dm_W E P l z d MC MS (pc + 3) ls st h ce sl) : dm_W E P l z d MC MS pc ls (.int x :: st) h ce sl := by
  intro p e s m args below meth c D g tys L0 L ws A H locs lsC stC hK hw hls hst
  obtain ⟨y9, sc, rfl, hv, hs1⟩ := dm_st_cons hst
  clear hst
  have hst := hs1
  have hv : y9 = .int x := hv
  subst hv
  exact lv_if_eq hK.2.2.1 hK.2.2.2.1 (dm_ok_at hK.1 hi).1 ht (fun q => kt q _ _ _ _ _ _ _ _ _ _ _ _ _ _ _ _ _ _ _ hK hw hls hst) (fun q => kf q _ _ _ _ _ _ _ _ _ _ _ _ _ _ _ _ _ _ _ hK hw hls hst)
theorem dr_icmp_eq {x y : Int32} {off : Int} {tgt : Nat} (hi : dm_at z pc = some (.if_icmp .eq off, 3, [tgt])) (ht : (pc : Int) + off = (tgt : Int)) (kt : x = y → dm_W E P l z d MC MS tgt ls st h ce sl) (kf : ¬ x = y → dm_W E P l z d MC MS (pc + 3) ls st h ce sl) : dm_W E P l z d MC MS pc ls (.int y :: .int x :: st) h ce sl := by
  intro p e s m args below meth c D g tys L0 L ws A H locs lsC stC hK hw hls hst
  obtain ⟨y9, sc, rfl, hv, hs1⟩ := dm_st_cons hst
  clear hst
  have hv : y9 = .int y := hv
  subst hv
  obtain ⟨y8, sc, rfl, hv2, hst⟩ := dm_st_cons hs1
  have hv2 : y8 = .int x := hv2
  subst hv2
  exact lv_icmp_eq hK.2.2.1 hK.2.2.2.1 (dm_ok_at hK.1 hi).1 ht (fun q => kt q _ _ _ _ _ _ _ _ _ _ _ _ _ _ _ _ _ _ _ hK hw hls hst) (fun q => kf q _ _ _ _ _ _ _ _ _ _ _ _ _ _ _ _ _ _ _ hK hw hls hst)
theorem dr_if_ne {x : Int32} {off : Int} {tgt : Nat} (hi : dm_at z pc = some (.ifCond .ne off, 3, [tgt])) (ht : (pc : Int) + off = (tgt : Int)) (kt : ¬ x = 0 → dm_W E P l z d MC MS tgt ls st h ce sl) (kf : x = 0 → dm_W E P l z d MC MS (pc + 3) ls st h ce sl) : dm_W E P l z d MC MS pc ls (.int x :: st) h ce sl := by
  intro p e s m args below meth c D g tys L0 L ws A H locs lsC stC hK hw hls hst
  obtain ⟨y9, sc, rfl, hv, hs1⟩ := dm_st_cons hst
  clear hst
  have hst := hs1
  have hv : y9 = .int x := hv
  subst hv
  exact lv_if_ne hK.2.2.1 hK.2.2.2.1 (dm_ok_at hK.1 hi).1 ht (fun q => kt q _ _ _ _ _ _ _ _ _ _ _ _ _ _ _ _ _ _ _ hK hw hls hst) (fun q => kf q _ _ _ _ _ _ _ _ _ _ _ _ _ _ _ _ _ _ _ hK hw hls hst)
theorem dr_icmp_ne {x y : Int32} {off : Int} {tgt : Nat} (hi : dm_at z pc = some (.if_icmp .ne off, 3, [tgt])) (ht : (pc : Int) + off = (tgt : Int)) (kt : ¬ x = y → dm_W E P l z d MC MS tgt ls st h ce sl) (kf : x = y → dm_W E P l z d MC MS (pc + 3) ls st h ce sl) : dm_W E P l z d MC MS pc ls (.int y :: .int x :: st) h ce sl := by
  intro p e s m args below meth c D g tys L0 L ws A H locs lsC stC hK hw hls hst
  obtain ⟨y9, sc, rfl, hv, hs1⟩ := dm_st_cons hst
  clear hst
  have hv : y9 = .int y := hv
  subst hv
  obtain ⟨y8, sc, rfl, hv2, hst⟩ := dm_st_cons hs1
  have hv2 : y8 = .int x := hv2
  subst hv2
  exact lv_icmp_ne hK.2.2.1 hK.2.2.2.1 (dm_ok_at hK.1 hi).1 ht (fun q => kt q _ _ _ _ _ _ _ _ _ _ _ _ _ _ _ _ _ _ _ hK hw hls hst) (fun q => kf q _ _ _ _ _ _ _ _ _ _ _ _ _ _ _ _ _ _ _ hK hw hls hst)
theorem dr_if_lt {x : Int32} {off : Int} {tgt : Nat} (hi : dm_at z pc = some (.ifCond .lt off, 3, [tgt])) (ht : (pc : Int) + off = (tgt : Int)) (kt : x < 0 → dm_W E P l z d MC MS tgt ls st h ce sl) (kf : ¬ x < 0 → dm_W E P l z d MC MS (pc + 3) ls st h ce sl) : dm_W E P l z d MC MS pc ls (.int x :: st) h ce sl := by
  intro p e s m args below meth c D g tys L0 L ws A H locs lsC stC hK hw hls hst
  obtain ⟨y9, sc, rfl, hv, hs1⟩ := dm_st_cons hst
  clear hst
  have hst := hs1
  have hv : y9 = .int x := hv
  subst hv
  exact lv_if_lt hK.2.2.1 hK.2.2.2.1 (dm_ok_at hK.1 hi).1 ht (fun q => kt q _ _ _ _ _ _ _ _ _ _ _ _ _ _ _ _ _ _ _ hK hw hls hst) (fun q => kf q _ _ _ _ _ _ _ _ _ _ _ _ _ _ _ _ _ _ _ hK hw hls hst)
theorem dr_icmp_lt {x y : Int32} {off : Int} {tgt : Nat} (hi : dm_at z pc = some (.if_icmp .lt off, 3, [tgt])) (ht : (pc : Int) + off = (tgt : Int)) (kt : x < y → dm_W E P l z d MC MS tgt ls st h ce sl) (kf : ¬ x < y → dm_W E P l z d MC MS (pc + 3) ls st h ce sl) : dm_W E P l z d MC MS pc ls (.int y :: .int x :: st) h ce sl := by
  intro p e s m args below meth c D g tys L0 L ws A H locs lsC stC hK hw hls hst
  obtain ⟨y9, sc, rfl, hv, hs1⟩ := dm_st_cons hst
  clear hst
  have hv : y9 = .int y := hv
  subst hv
  obtain ⟨y8, sc, rfl, hv2, hst⟩ := dm_st_cons hs1
  have hv2 : y8 = .int x := hv2
  subst hv2
  exact lv_icmp_lt hK.2.2.1 hK.2.2.2.1 (dm_ok_at hK.1 hi).1 ht (fun q => kt q _ _ _ _ _ _ _ _ _ _ _ _ _ _ _ _ _ _ _ hK hw hls hst) (fun q => kf q _ _ _ _ _ _ _ _ _ _ _ _ _ _ _ _ _ _ _ hK hw hls hst)
theorem dr_if_ge {x : Int32} {off : Int} {tgt : Nat} (hi : dm_at z pc = some (.ifCond .ge off, 3, [tgt])) (ht : (pc : Int) + off = (tgt : Int)) (kt : 0 ≤ x → dm_W E P l z d MC MS tgt ls st h ce sl) (kf : ¬ 0 ≤ x → dm_W E P l z d MC MS (pc + 3) ls st h ce sl) : dm_W E P l z d MC MS pc ls (.int x :: st) h ce sl := by
  intro p e s m args below meth c D g tys L0 L ws A H locs lsC stC hK hw hls hst
  obtain ⟨y9, sc, rfl, hv, hs1⟩ := dm_st_cons hst
  clear hst
  have hst := hs1
  have hv : y9 = .int x := hv
  subst hv
  exact lv_if_ge hK.2.2.1 hK.2.2.2.1 (dm_ok_at hK.1 hi).1 ht (fun q => kt q _ _ _ _ _ _ _ _ _ _ _ _ _ _ _ _ _ _ _ hK hw hls hst) (fun q => kf q _ _ _ _ _ _ _ _ _ _ _ _ _ _ _ _ _ _ _ hK hw hls hst)
theorem dr_icmp_ge {x y : Int32} {off : Int} {tgt : Nat} (hi : dm_at z pc = some (.if_icmp .ge off, 3, [tgt])) (ht : (pc : Int) + off = (tgt : Int)) (kt : y ≤ x → dm_W E P l z d MC MS tgt ls st h ce sl) (kf : ¬ y ≤ x → dm_W E P l z d MC MS (pc + 3) ls st h ce sl) : dm_W E P l z d MC MS pc ls (.int y :: .int x :: st) h ce sl := by
  intro p e s m args below meth c D g tys L0 L ws A H locs lsC stC hK hw hls hst
  obtain ⟨y9, sc, rfl, hv, hs1⟩ := dm_st_cons hst
  clear hst
  have hv : y9 = .int y := hv
  subst hv
  obtain ⟨y8, sc, rfl, hv2, hst⟩ := dm_st_cons hs1
  have hv2 : y8 = .int x := hv2
  subst hv2
  exact lv_icmp_ge hK.2.2.1 hK.2.2.2.1 (dm_ok_at hK.1 hi).1 ht (fun q => kt q _ _ _ _ _ _ _ _ _ _ _ _ _ _ _ _ _ _ _ hK hw hls hst) (fun q => kf q _ _ _ _ _ _ _ _ _ _ _ _ _ _ _ _ _ _ _ hK hw hls hst)
theorem dr_if_gt {x : Int32} {off : Int} {tgt : Nat} (hi : dm_at z pc = some (.ifCond .gt off, 3, [tgt])) (ht : (pc : Int) + off = (tgt : Int)) (kt : 0 < x → dm_W E P l z d MC MS tgt ls st h ce sl) (kf : ¬ 0 < x → dm_W E P l z d MC MS (pc + 3) ls st h ce sl) : dm_W E P l z d MC MS pc ls (.int x :: st) h ce sl := by
  intro p e s m args below meth c D g tys L0 L ws A H locs lsC stC hK hw hls hst
  obtain ⟨y9, sc, rfl, hv, hs1⟩ := dm_st_cons hst
  clear hst
  have hst := hs1
  have hv : y9 = .int x := hv
  subst hv
  exact lv_if_gt hK.2.2.1 hK.2.2.2.1 (dm_ok_at hK.1 hi).1 ht (fun q => kt q _ _ _ _ _ _ _ _ _ _ _ _ _ _ _ _ _ _ _ hK hw hls hst) (fun q => kf q _ _ _ _ _ _ _ _ _ _ _ _ _ _ _ _ _ _ _ hK hw hls hst)
theorem dr_icmp_gt {x y : Int32} {off : Int} {tgt : Nat} (hi : dm_at z pc = some (.if_icmp .gt off, 3, [tgt])) (ht : (pc : Int) + off = (tgt : Int)) (kt : y < x → dm_W E P l z d MC MS tgt ls st h ce sl) (kf : ¬ y < x → dm_W E P l z d MC MS (pc + 3) ls st h ce sl) : dm_W E P l z d MC MS pc ls (.int y :: .int x :: st) h ce sl := by
  intro p e s m args below meth c D g tys L0 L ws A H locs lsC stC hK hw hls hst
  obtain ⟨y9, sc, rfl, hv, hs1⟩ := dm_st_cons hst
  clear hst
  have hv : y9 = .int y := hv
  subst hv
  obtain ⟨y8, sc, rfl, hv2, hst⟩ := dm_st_cons hs1
  have hv2 : y8 = .int x := hv2
  subst hv2
  exact lv_icmp_gt hK.2.2.1 hK.2.2.2.1 (dm_ok_at hK.1 hi).1 ht (fun q => kt q _ _ _ _ _ _ _ _ _ _ _ _ _ _ _ _ _ _ _ hK hw hls hst) (fun q => kf q _ _ _ _ _ _ _ _ _ _ _ _ _ _ _ _ _ _ _ hK hw hls hst)
theorem dr_if_le {x : Int32} {off : Int} {tgt : Nat} (hi : dm_at z pc = some (.ifCond .le off, 3, [tgt])) (ht : (pc : Int) + off = (tgt : Int)) (kt : x ≤ 0 → dm_W E P l z d MC MS tgt ls st h ce sl) (kf : ¬ x ≤ 0 → dm_W E P l z d MC MS (pc + 3) ls st h ce sl) : dm_W E P l z d MC MS pc ls (.int x :: st) h ce sl := by
  intro p e s m args below meth c D g tys L0 L ws A H locs lsC stC hK hw hls hst
  obtain ⟨y9, sc, rfl, hv, hs1⟩ := dm_st_cons hst
  clear hst
  have hst := hs1
  have hv : y9 = .int x := hv
  subst hv
  exact lv_if_le hK.2.2.1 hK.2.2.2.1 (dm_ok_at hK.1 hi).1 ht (fun q => kt q _ _ _ _ _ _ _ _ _ _ _ _ _ _ _ _ _ _ _ hK hw hls hst) (fun q => kf q _ _ _ _ _ _ _ _ _ _ _ _ _ _ _ _ _ _ _ hK hw hls hst)
theorem dr_icmp_le {x y : Int32} {off : Int} {tgt : Nat} (hi : dm_at z pc = some (.if_icmp .le off, 3, [tgt])) (ht : (pc : Int) + off = (tgt : Int)) (kt : x ≤ y → dm_W E P l z d MC MS tgt ls st h ce sl) (kf : ¬ x ≤ y → dm_W E P l z d MC MS (pc + 3) ls st h ce sl) : dm_W E P l z d MC MS pc ls (.int y :: .int x :: st) h ce sl := by
  intro p e s m args below meth c D g tys L0 L ws A H locs lsC stC hK hw hls hst
  obtain ⟨y9, sc, rfl, hv, hs1⟩ := dm_st_cons hst
  clear hst
  have hv : y9 = .int y := hv
  subst hv
  obtain ⟨y8, sc, rfl, hv2, hst⟩ := dm_st_cons hs1
  have hv2 : y8 = .int x := hv2
  subst hv2
  exact lv_icmp_le hK.2.2.1 hK.2.2.2.1 (dm_ok_at hK.1 hi).1 ht (fun q => kt q _ _ _ _ _ _ _ _ _ _ _ _ _ _ _ _ _ _ _ hK hw hls hst) (fun q => kf q _ _ _ _ _ _ _ _ _ _ _ _ _ _ _ _ _ _ _ hK hw hls hst)
theorem dr_goto {off : Int} {tgt : Nat} (hi : dm_at z pc = some (.goto off, 3, [tgt])) (ht : (pc : Int) + off = (tgt : Int)) (kk : dm_W E P l z d MC MS tgt ls st h ce sl) : dm_W E P l z d MC MS pc ls st h ce sl := by
  intro p e s m args below meth c D g tys L0 L ws A H locs lsC stC hK hw hls hst
  exact lv_goto hK.2.2.1 hK.2.2.2.1 (dm_ok_at hK.1 hi).1 ht (kk _ _ _ _ _ _ _ _ _ _ _ _ _ _ _ _ _ _ _ hK hw hls hst)
theorem dr_tabOut {x : Int32} {dflt lo hi9 : Int} {offs : Array Int} {len tgt : Nat} {ts : List Nat} (hi : dm_at z pc = some (.tableswitch dflt lo hi9 offs, len, ts)) (hx : x.toInt < lo ∨ hi9 < x.toInt) (ht : (pc : Int) + dflt = (tgt : Int)) (kk : dm_W E P l z d MC MS tgt ls st h ce sl) : dm_W E P l z d MC MS pc ls (.int x :: st) h ce sl := by
  intro p e s m args below meth c D g tys L0 L ws A H locs lsC stC hK hw hls hst
  obtain ⟨y9, sc, rfl, hv, hs1⟩ := dm_st_cons hst
  clear hst
  have hst := hs1
  have hv : y9 = .int x := hv
  subst hv
  exact lv_tableOut hK.2.2.1 hK.2.2.2.1 (dm_ok_at hK.1 hi).1 hx ht (kk _ _ _ _ _ _ _ _ _ _ _ _ _ _ _ _ _ _ _ hK hw hls hst)
theorem dr_tabIn {x : Int32} {dflt lo hi9 off : Int} {offs : Array Int} {len tgt : Nat} {ts : List Nat} (hi : dm_at z pc = some (.tableswitch dflt lo hi9 offs, len, ts)) (h1 : ¬ x.toInt < lo) (h2 : ¬ hi9 < x.toInt) (ho : offs[(x.toInt - lo).toNat]? = some off) (ht : (pc : Int) + off = (tgt : Int)) (kk : dm_W E P l z d MC MS tgt ls st h ce sl) : dm_W E P l z d MC MS pc ls (.int x :: st) h ce sl := by
  intro p e s m args below meth c D g tys L0 L ws A H locs lsC stC hK hw hls hst
  obtain ⟨y9, sc, rfl, hv, hs1⟩ := dm_st_cons hst
  clear hst
  have hst := hs1
  have hv : y9 = .int x := hv
  subst hv
  exact lv_tableIn hK.2.2.1 hK.2.2.2.1 (dm_ok_at hK.1 hi).1 h1 h2 ho ht (kk _ _ _ _ _ _ _ _ _ _ _ _ _ _ _ _ _ _ _ hK hw hls hst)
end DMW
