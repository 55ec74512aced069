/-! ===== the machine over positions: a heap is a list of things, a reference its place ===== -/
def dm_nw (w : Cond) : Bool := match w with
  | .fieldLinkNest .. => true
  | .methodLinkNest .. => true
  | .castable .. => true
  | .declares .. => true
  | .privateMethod .. => true
  | _ => false
theorem dm_Pw {x : MethodName} {s U : State} (hW : s.WarmedH U.vm) (hZ : va_Nw (.privateMethod x) s) : va_Nw (.privateMethod x) U := va_tabs rfl (rfl : (s.setVm U.vm).vm = U.vm) (by rw [Cond.privateMethod_setVm hW.alike]; exact hZ)
theorem dm_nw_warm {w : Cond} (h : dm_nw w = true) {s U : State} (hW : s.WarmedH U.vm) (hZ : va_Nw w s) : va_Nw w U := by
  cases w <;> first | exact va_Nw.warmF hW hZ | exact va_Nw.warmM hW hZ | exact va_Nw.warmC hW hZ | exact va_Nw.warmD hW hZ | exact dm_Pw hW hZ | (exact absurd h (by simp [dm_nw]))
theorem dm_nw_tab {w : Cond} (h : dm_nw w = true) : w.onTables = true := by
  cases w <;> first | rfl | (exact absurd h (by simp [dm_nw]))
/-- a word of the tables by its place -/
def dm_T (c : Nat) : Option Cond := match c / 1000 with
  | 0 => (k2_sels lw_privs)[c % 1000]?
  | 1 => tables_1_1[c % 1000]?
  | 2 => tables_1_2[c % 1000]?
  | 3 => tables_1_3[c % 1000]?
  | 4 => tables_1_4[c % 1000]?
  | 5 => tables_1_5[c % 1000]?
  | 6 => tables_1_6[c % 1000]?
  | 7 => tables_1_7[c % 1000]?
  | _ => none
theorem dm_T_mem {c : Nat} {w : Cond} (h : dm_T c = some w) : w ∈ lw_tbl := by
  unfold dm_T at h
  unfold lw_tbl tables_1
  split at h
  · exact List.mem_append_left _ (List.mem_of_getElem? h)
  · exact List.mem_append_right _ (List.mem_append_left _ (List.mem_of_getElem? h))
  · exact List.mem_append_right _ (List.mem_append_right _ (List.mem_append_left _ (List.mem_of_getElem? h)))
  · exact List.mem_append_right _ (List.mem_append_right _ (List.mem_append_right _ (List.mem_append_left _ (List.mem_of_getElem? h))))
  · exact List.mem_append_right _ (List.mem_append_right _ (List.mem_append_right _ (List.mem_append_right _ (List.mem_append_left _ (List.mem_of_getElem? h)))))
  · exact List.mem_append_right _ (List.mem_append_right _ (List.mem_append_right _ (List.mem_append_right _ (List.mem_append_right _ (List.mem_append_left _ (List.mem_of_getElem? h))))))
  · exact List.mem_append_right _ (List.mem_append_right _ (List.mem_append_right _ (List.mem_append_right _ (List.mem_append_right _ (List.mem_append_right _ (List.mem_append_left _ (List.mem_of_getElem? h)))))))
  · exact List.mem_append_right _ (List.mem_append_right _ (List.mem_append_right _ (List.mem_append_right _ (List.mem_append_right _ (List.mem_append_right _ (List.mem_append_right _ (List.mem_of_getElem? h)))))))
  · cases h
/-- the good words; those that another law carries from state to state -/
def dm_G : List Cond := lw_tbl.filter goodWord
def dm_N : List Cond := lw_tbl.filter dm_nw
def dm_g (c : Nat) (w : Cond) : Bool := decide (dm_T c = some w) && goodWord w
def dm_n (c : Nat) (w : Cond) : Bool := decide (dm_T c = some w) && dm_nw w
theorem dm_g_mem {c : Nat} {w : Cond} (h : dm_g c w = true) : w ∈ dm_G := by
  simp only [dm_g, Bool.and_eq_true, decide_eq_true_eq] at h
  exact List.mem_filter.mpr ⟨dm_T_mem h.1, h.2⟩
theorem dm_n_mem {c : Nat} {w : Cond} (h : dm_n c w = true) : w ∈ dm_N := by
  simp only [dm_n, Bool.and_eq_true, decide_eq_true_eq] at h
  exact List.mem_filter.mpr ⟨dm_T_mem h.1, h.2⟩
theorem dm_G_good {w : Cond} (h : w ∈ dm_G) : goodWord w = true := (List.mem_filter.mp h).2
theorem dm_in {ws : List Cond} (cs : List Nat) (h : ws = cs.filterMap dm_T) (hg : ws.all goodWord = true) : ∀ w ∈ ws, w ∈ dm_G := fun w hw => by
  have h2 := hw
  rw [h] at h2
  obtain ⟨c, -, hc⟩ := List.mem_filterMap.mp h2
  exact List.mem_filter.mpr ⟨dm_T_mem hc, List.all_eq_true.mp hg w hw⟩
/-- methods by number -/
def dm_m (z : Nat) : MethodName × ByteArray × Nat × Option FieldType × List (Nat × Nat × Nat × Nat) := match dm_ms[z]? with
  | some x => x
  | none => (⟨"", "", ""⟩, ⟨#[]⟩, 0, none, [])
def dm_c (z : Nat) : List (Nat × dm_I) := match dm_cs[z]? with
  | some x => x
  | none => []
def dm_look : List (Nat × dm_I) → Nat → Option dm_I
  | [], _ => none
  | (k, x) :: r, pc => match Nat.beq k pc with
    | true => some x
    | false => dm_look r pc
theorem dm_look_mem {pc : Nat} {x : dm_I} : ∀ {l : List (Nat × dm_I)}, dm_look l pc = some x → (pc, x) ∈ l
  | [], h => by cases h
  | (k, y) :: r, h => by
    unfold dm_look at h
    cases hb : Nat.beq k pc with
    | true =>
      rw [hb] at h
      rw [Nat.eq_of_beq_eq_true hb, Option.some.inj h]
      exact List.mem_cons_self
    | false =>
      rw [hb] at h
      exact List.mem_cons_of_mem _ (dm_look_mem h)
def dm_at (z pc : Nat) : Option dm_I := dm_look (dm_c z) pc
def dm_cw (z : Nat) : Cond := match (dm_m z).2.2.2.2 with
  | [] => .code (dm_m z).1 (dm_m z).2.1 (dm_m z).2.2.1 (dm_m z).2.2.2.1
  | hh => .codeWith (dm_m z).1 (dm_m z).2.1 (dm_m z).2.2.1 (dm_m z).2.2.2.1 hh
def dm_ws (z : Nat) : List Cond := dm_cw z :: dm_G
def dm_R (d mc ms : Nat) : Room := { frames := 4 * d + 368, cells := mc, slots := ms, locals := 200 * d }
/-! the classes' tables -/
theorem dm_clw : ∀ (ci : Nat) (q : vw_C), vwCl[ci]? = some q → ∀ w ∈ u_ws q.1 q.2.1 q.2.2, w ∈ dm_G := by
  intro ci q h
  match ci, h with
  | 0, h => cases h; exact dm_in [5089, 5091, 5093, 5095] (by decide +kernel) (by decide +kernel)
  | 1, h => cases h; exact dm_in [4096, 4098, 4100, 4102] (by decide +kernel) (by decide +kernel)
  | 2, h => cases h; exact dm_in [1149, 1151, 1153, 1155] (by decide +kernel) (by decide +kernel)
  | 3, h => cases h; exact dm_in [1087, 1089] (by decide +kernel) (by decide +kernel)
  | 4, h => cases h; exact dm_in [1068, 1070, 1072, 1074] (by decide +kernel) (by decide +kernel)
  | 5, h => cases h; exact dm_in [1104, 1106, 1108] (by decide +kernel) (by decide +kernel)
  | 6, h => cases h; exact dm_in [1049, 1051, 1053] (by decide +kernel) (by decide +kernel)
  | 7, h => cases h; exact dm_in [1127, 1129, 1131, 1133, 1135, 1137] (by decide +kernel) (by decide +kernel)
  | 8, h => cases h; exact dm_in [1166, 1168, 1170, 1172, 1174, 1176, 1178, 1180] (by decide +kernel) (by decide +kernel)
  | 9, h => cases h; exact dm_in [3098, 3100] (by decide +kernel) (by decide +kernel)
  | 10, h => cases h; exact dm_in [6047, 6049, 6051, 6053, 6055, 6057, 6059, 6061, 6063, 6065, 6067, 6069, 6071] (by decide +kernel) (by decide +kernel)
  | _ + 11, h => cases h
def dm_ty (ci : Nat) : Nat → FieldType := match ci with
  | 0 => tyJ0
  | 1 => tyJ4
  | 2 => tyX0
  | 3 => tyX1
  | 4 => tyX2
  | 5 => tyX3
  | 6 => tyX4
  | 7 => tyX5
  | 8 => tyX6
  | 9 => tyX7
  | _ => tyX8
theorem dm_tyk : ∀ (ci : Nat) (q : vw_C), vwCl[ci]? = some q → ∀ k, k < q.2.2 → parseFieldDescriptor (q.2.1 k).2.2.1 = some (dm_ty ci k) := by
  intro ci q h
  match ci, h with
  | 0, h => cases h; exact tyJ0_ok
  | 1, h => cases h; exact tyJ4_ok
  | 2, h => cases h; exact tyX0_ok
  | 3, h => cases h; exact tyX1_ok
  | 4, h => cases h; exact tyX2_ok
  | 5, h => cases h; exact tyX3_ok
  | 6, h => cases h; exact tyX4_ok
  | 7, h => cases h; exact tyX5_ok
  | 8, h => cases h; exact tyX6_ok
  | 9, h => cases h; exact tyX7_ok
  | 10, h => cases h; exact tyX8_ok
  | _ + 11, h => cases h
theorem dm_nmk : ∀ (ci : Nat) (q : vw_C), vwCl[ci]? = some q → ∀ a, a < q.2.2 → ∀ b, b < q.2.2 → a ≠ b → (q.2.1 a).2.1 ≠ (q.2.1 b).2.1 := by
  intro ci q h
  match ci, h with
  | 0, h => cases h; exact nmJ0
  | 1, h => cases h; exact nmJ4
  | 2, h => cases h; exact nmX0
  | 3, h => cases h; exact nmX1
  | 4, h => cases h; exact nmX2
  | 5, h => cases h; exact nmX3
  | 6, h => cases h; exact nmX4
  | 7, h => cases h; exact nmX5
  | 8, h => cases h; exact nmX6
  | 9, h => cases h; exact nmX7
  | 10, h => cases h; exact nmX8
  | _ + 11, h => cases h
/-! what a table's row must keep -/
def dm_E (e : Nat) : String := match e with
  | 0 => "java/lang/IndexOutOfBoundsException"
  | 1 => "java/lang/IllegalArgumentException"
  | _ => "java/lang/IllegalStateException"
def dm_nms : List String := ["java/lang/RuntimeException", "java/lang/Exception"]
def dm_okN (own : String) (idx : Nat) (f : String × String × String × Bool) (w : Nat) : Bool := match dm_T w with
  | some (.fieldLinkNest o i r n d _) => decide (o = own ∧ i = idx ∧ r = f.1 ∧ n = f.2.1 ∧ d = f.2.2.1)
  | _ => false
def dm_okF (own : String) (idx ci k md w : Nat) : Bool := match vwCl[ci]? with
  | some q => decide (k < q.2.2) && (if md = 0 ∨ md = 2 then dm_g w (.fieldLink own idx (q.2.1 k).1 (q.2.1 k).2.1 (q.2.1 k).2.2.1) else dm_okN own idx (q.2.1 k) w)
  | none => false
def dm_okP (z ci k md : Nat) : Bool := match vwCl[ci]? with
  | some q => if md = 2 then decide ((q.2.1 k).2.2.2 = true ∧ (dm_m z).1.name = "<init>" ∧ (q.2.1 k).1 = (dm_m z).1.cls) else decide ((q.2.1 k).2.2.2 = false)
  | none => false
def dm_nh (own : String) (idx : Nat) (y : MethodName) (w : Nat) : Bool := match dm_T w with
  | some (.methodLinkNest o i x _) => decide (o = own ∧ i = idx ∧ x = y)
  | _ => false
/-- the callee's own: its code, its class ready, no handle -/
def dm_okY (z2 : Nat) (wi wc : Nat) : Bool := dm_g wi (.initialized (dm_m z2).1.cls) && dm_g wc (dm_cw z2) && decide ((dm_m z2).1.cls ≠ "java/lang/invoke/MethodHandle" ∧ (dm_m z2).1.cls ≠ "java/lang/invoke/VarHandle") && decide ((dm_m z2).2.2.1 ≤ 100) &&
  decide ((parseMethodDescriptor (dm_m z2).1.desc).map (fun d => d.parameters.length) = (dm_nr[z2]?).map (·.1))
/-- the receiver is of the method's own class -/
def dm_okC (z2 : Nat) : Bool := match dm_nr[z2]? with
  | some q => decide ((vwCl[q.2]?).map (·.1) = some (dm_m z2).1.cls)
  | none => false
def dm_okR (z pc : Nat) (i : Instr) (a : List Nat) : Bool := match i, a with
  | .getfield idx, [ci, k, md, w] => dm_okF (dm_m z).1.cls idx ci k md w
  | .putfield idx, [ci, k, md, w] => dm_okF (dm_m z).1.cls idx ci k md w && dm_okP z ci k md
  | .new idx, [ci, w1, w2, w3] => match vwCl[ci]? with
    | some q => dm_g w1 (.classLink (dm_m z).1.cls idx q.1) && dm_g w2 (.instantiable q.1 q.2.2) && dm_g w3 (.initialized q.1)
    | none => false
  | .new idx, (e :: wide :: is :: ic :: st :: wk :: wi :: ws) =>
    decide ((dm_strs[st]?).map (fun q => (q.1, q.2.1)) = some ((dm_m z).1.cls, is)) && dm_g wk (.classLink (dm_m z).1.cls idx (dm_E (e - 200))) && dm_g wi (.initialized (dm_E (e - 200))) &&
      decide (vx_atS (dm_m z).1.cls ic (dm_E (e - 200)) dm_nms = ws.filterMap dm_T) && (vx_atS (dm_m z).1.cls ic (dm_E (e - 200)) dm_nms).all (fun w => goodWord w || dm_nw w) &&
      (Cond.classLink (dm_m z).1.cls idx (dm_E (e - 200)) :: Cond.initialized (dm_E (e - 200)) :: vx_atS (dm_m z).1.cls ic (dm_E (e - 200)) dm_nms).all vx_ot &&
      (if wide = 0 then decide (decode (dm_m z).2.1 (pc + 3) = .ok (.dup, 1) ∧ decode (dm_m z).2.1 (pc + 4) = .ok (.ldc is, 2) ∧ decode (dm_m z).2.1 (pc + 6) = .ok (.invokespecial ic, 3) ∧ decode (dm_m z).2.1 (pc + 9) = .ok (.athrow, 1))
        else decide (decode (dm_m z).2.1 (pc + 3) = .ok (.dup, 1) ∧ decode (dm_m z).2.1 (pc + 4) = .ok (.ldc_w is, 3) ∧ decode (dm_m z).2.1 (pc + 7) = .ok (.invokespecial ic, 3) ∧ decode (dm_m z).2.1 (pc + 10) = .ok (.athrow, 1)))
  | .newarray .int, [20, w] => dm_g w (.arrayClass .int)
  | .newarray .byte, [21, w] => dm_g w (.arrayClass .byte)
  | .anewarray idx, [22, w] => dm_g w (.classLink (dm_m z).1.cls idx "Earlyends$Book")
  | .multianewarray idx 2, [23, w1, w2] => dm_g w1 (.classLink (dm_m z).1.cls idx ("[" ++ (FieldType.array .int).toString)) && dm_g w2 (.arrayClass .int)
  | .ldc2_w idx, [w, v] => dm_g w (.constantLong (dm_m z).1.cls idx (Int64.ofNat v))
  | .ldc idx, [1, w, v] => dm_g w (.constant (dm_m z).1.cls idx (Int32.ofNat v))
  | .ldc idx, [2, st] => decide ((dm_strs[st]?).map (fun q => (q.1, q.2.1)) = some ((dm_m z).1.cls, idx))
  | .invokestatic idx, [z2, 0, w1, w2, w3, w4] => dm_g w1 (.methodLink (dm_m z).1.cls idx (dm_m z2).1) && dm_g w2 (.static (dm_m z2).1) && dm_okY z2 w3 w4
  | .invokestatic idx, [z2, 4, w1, w2, w3, w4] => dm_nh (dm_m z).1.cls idx (dm_m z2).1 w1 && dm_g w2 (.static (dm_m z2).1) && dm_okY z2 w3 w4
  | .invokevirtual idx, [z2, 1, w1, w2, w3, w4, w5] => dm_g w1 (.methodLink (dm_m z).1.cls idx (dm_m z2).1) && dm_g w2 (.instanceMethod (dm_m z2).1) && dm_g w3 (.selects (dm_m z2).1.cls (dm_m z2).1 (dm_m z2).1) && dm_okY z2 w4 w5 && dm_okC z2
  | .invokevirtual idx, [z2, 6, w1, w2, w3, w4, w5] => dm_nh (dm_m z).1.cls idx (dm_m z2).1 w1 && dm_g w2 (.instanceMethod (dm_m z2).1) && dm_g w3 (.selects (dm_m z2).1.cls (dm_m z2).1 (dm_m z2).1) && dm_okY z2 w4 w5 && dm_okC z2
  | .invokespecial idx, [z2, 2, w1, w2, w3, w4] => dm_g w1 (.methodLink (dm_m z).1.cls idx (dm_m z2).1) && dm_g w2 (.instanceMethod (dm_m z2).1) && dm_okY z2 w3 w4 && decide ((dm_m z2).1.name = "<init>")
  | .invokespecial idx, [z2, 5, w1, w2, w3, w4] => dm_nh (dm_m z).1.cls idx (dm_m z2).1 w1 && dm_g w2 (.instanceMethod (dm_m z2).1) && dm_okY z2 w3 w4 && decide ((dm_m z2).1.name = "<init>")
  | .invokespecial idx, [0, 3, w1, w2, w3] => dm_g w1 (.methodLink (dm_m z).1.cls idx objectInit) && dm_g w2 (.instanceMethod objectInit) && dm_g w3 (.code objectInit ⟨#[0xb1]⟩ 1 none)
  | _, _ => true
def dm_okI (z : Nat) (x : Nat × dm_I) : Bool := decide (decode (dm_m z).2.1 x.1 = .ok (x.2.1, x.2.2.1)) && dm_okR z x.1 x.2.1 x.2.2.2
def dm_ok (z : Nat) : Bool := (dm_c z).all (dm_okI z) && plainName (dm_m z).1.cls
theorem dm_ok_at {z pc : Nat} {x : dm_I} (h : dm_ok z = true) (hx : dm_at z pc = some x) : decode (dm_m z).2.1 pc = .ok (x.1, x.2.1) ∧ dm_okR z pc x.1 x.2.2 = true := by
  simp only [dm_ok, Bool.and_eq_true] at h
  have h2 := List.all_eq_true.mp h.1 _ (dm_look_mem hx)
  simp only [dm_okI, Bool.and_eq_true, decide_eq_true_eq] at h2
  exact h2
