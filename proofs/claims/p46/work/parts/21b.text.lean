/-! ===== calls of what the superclass declares ===== -/
section PRV
variable {p : Program} {l : Launch} {e : Env} {R : Room} {s : State} {m : MethodId} {args : Array Value} {below : List Frame} {meth : Method} {c : Code}
theorem dp_callVP {T : State} {locs : List Loc} {cells slots : Nat} (X : Stand p l e R s m args below meth c T locs cells slots) (hexec : p.tables.exec = Jvm.exec) {own : String} {index : Nat} {y : MethodName} {bytes : ByteArray} {maxL : Nat} {ret : Option FieldType}
    (hown : s.vm.findClass own = some m.cls) (hlink : (Cond.methodLink own index y).before args s = true) (hsame : (Cond.sameMethod y.cls y.cls y.name y.desc).before args s = true) (howner : y.cls ≠ "java/lang/invoke/MethodHandle" ∧ y.cls ≠ "java/lang/invoke/VarHandle")
    (hpriv : (Cond.privateMethod y).before args s = true) (hinst : (Cond.instanceMethod y).before args s = true) (hcode : (Cond.code y bytes maxL ret).before args s = true)
    {W : Nat} {Pre : Pt → Array Value → Prop} {Post : Pt → Array Value → Option Value → Pt → Prop} (hK : Back l R p e below s args y 3 W Pre Post)
    {b : Addr} {cellB : Cell} (hcell : T.heap[b]? = some cellB) (hobj : cellB.vm.isStatics = false)
    {g : JFrame} (hg : g.method = m) (hsize : g.locals.size = c.maxLocals) {argsL rest : List Value} (hlen : ∀ sig, parseMethodDescriptor y.desc = some sig → argsL.length = sig.parameters.length)
    (hstack : g.stack = argsL.reverse ++ .ref b :: rest) (hW : 2 * g.monitorRoom + (rest.map fun v => v.category).sum ≤ W) (hdg : decode c.code g.pc = .ok (.invokevirtual index, 3))
    (hpre : ∀ vm₁, s.WarmedH vm₁ → Pre ⟨T.setVm vm₁, locs, cells, slots⟩ (Value.ref b :: argsL).toArray) :
    ∃ (v : Option Value) (vm₁ : Vm) (B : Pt), s.WarmedH vm₁ ∧ Stand p l e R s m args below meth c B.U B.locs B.cells B.slots ∧ Post ⟨T.setVm vm₁, locs, cells, slots⟩ (Value.ref b :: argsL).toArray v B ∧
      ∀ target, Steps p.tables e below (B.U.setTop { g with pc := g.pc + 3, stack := v.toList ++ rest }) target → Steps p.tables e below (T.setTop g) target := by
  obtain ⟨mk, methM, hnamed, hmethM, hstM, habM⟩ := Cond.instanceMethod_spec hinst
  obtain ⟨methM', cM, hmethM', -, -, -, -, -, -, hsigM⟩ := Cond.code_spec hnamed hcode
  cases hmethM.symm.trans hmethM'
  obtain ⟨cn, ck, r1, hcn, hck, hni, hf, hn1⟩ := Cond.sameMethod_found hsame
  have hn : s.methodNamed? ⟨y.cls, y.name, y.desc⟩ = some mk := hnamed
  have ecn : cn = mk.cls := Option.some.inj (hcn.symm.trans (findClass_of_methodNamed hnamed))
  subst ecn
  have hselP : selectMethod e.platform s.vm cellB.cls mk = .method mk := selectMethod_private hmethM (Cond.privateMethod_at hpriv mk methM hnamed hmethM)
  obtain ⟨vm₁, X₁, hstep₁⟩ := X.invokevirtualUp hexec hown hlink hsame howner hn hmethM hstM (a := b) (cell := cellB) hcell
    (fun z h => by rw [h] at hobj; cases hobj) hselP hmethM habM hck hni (g := g) hg (argsL := argsL) (rest := rest) (hlen _ hsigM) hstack hdg
  obtain ⟨v, B, X', hpost, hsteps⟩ := hK m meth c ⟨T.setVm vm₁, locs, cells, slots⟩ { g with stack := rest } (.invokevirtual index) mk (Value.ref b :: argsL).toArray X₁ hg hsize hdg hW (X₁.named hnamed) (hpre vm₁ X₁.warmed)
  exact ⟨v, vm₁, B, X₁.warmed, X', hpost, fun target h => hstep₁ _ fun acts => by rw [doInvoke_state]; exact hsteps.trans h⟩
variable {H : Heap} {locs : List Loc} {cells slots : Nat}
theorem dp_runP {y : MethodName} {bytes cc : ByteArray} {maxL nL mc ms n index : Nat} {ret : Option FieldType} {ws : List Cond} {rm : Room} {Pc : Array Value → State → Prop} {Qc : Array Value → State → Outcome → State → Prop} {free : Addr → Prop} {Ts : List Cond} {own C : String} {b : Addr} {As rest : List Value} {g : JFrame}
    (S : CallFix p m c cc nL s args Ts own) (hM : Met l y ws rm Pc Qc mc ms free) (cw : va_CU R s args own C y.cls index y y bytes maxL ret ws rm mc ms n ∨ ((rm.cells = mc ∧ rm.slots = ms ∧ rm.frames + 1 ≤ R.frames ∧ 8 + (maxL + 11) + rm.locals ≤ R.locals ∧ (∀ w ∈ ws, ∀ (a' : Array Value) (U : State), s.WarmedH U.vm → w.before a' U = true) ∧ Cond.code y bytes maxL ret ∈ ws) ∧ (Cond.code y bytes maxL ret).before args s = true ∧ (Cond.initialized y.cls).before args s = true ∧ (y.cls ≠ "java/lang/invoke/MethodHandle" ∧ y.cls ≠ "java/lang/invoke/VarHandle") ∧ (∀ sig, parseMethodDescriptor y.desc = some sig → n = sig.parameters.length) ∧ (Cond.methodLink own index y).before args s = true ∧ (Cond.sameMethod y.cls y.cls y.name y.desc).before args s = true ∧ (Cond.privateMethod y).before args s = true ∧ (Cond.instanceMethod y).before args s = true)) (hp : PreV s H C b Pc As)
    (hg : g.method = m) (hn : As.length = n) (hsize : g.locals.size = nL) (hstack : g.stack = As.reverse ++ .ref b :: rest) (hW : 2 * g.monitorRoom + (rest.map fun v => v.category).sum ≤ 8) (hdg : decode cc g.pc = .ok (.invokevirtual index, 3)) (hf : cells + mc ≤ R.cells ∧ slots + ms ≤ R.slots) :
    va_Run p l e R s m args below meth c H locs cells slots mc ms g rest (Qc (Value.ref b :: As).toArray) (free) := by
  rcases cw with cw | ⟨⟨hrc, hrs, hfr, hlo, hws, hcw⟩, hcode, hini, hmh, hlen, hl1, hl2, hpr, hl4⟩
  · exact va_runU S hM cw hp hg hn hsize hstack hW hdg hf
  · have hK : Back l R p e below s args y 3 8 (PreOf R mc ms Pc) (PostOf Qc mc ms free) := back_of (bytes := bytes) (maxL := maxL) (ret := ret) hM hp.1 hrc hrs hfr hlo hws hcw (fun a' U hW => word_at hW (Or.inl (by first | rfl | simp [Cond.onTables, Cond.keeps, Cond.steady])) hini)
    obtain ⟨hx, hb, hml, ho, -⟩ := S
    obtain ⟨-, ⟨cellB, hcB, hoB, hclB⟩, hPc⟩ := hp
    intro T hT X
    obtain ⟨v, vm₁, ⟨U', l2, c2, s2⟩, hW₁, X', ⟨g', mk, t, L, e1, e2, hq, h1, hL, h2, h3⟩, st⟩ := dp_callVP X hx (bytes := bytes) (maxL := maxL) (ret := ret) ho hl1 hl2 hmh hpr hl4 hcode hK (by rw [hT]; exact hcB) hoB hg (hsize.trans hml.symm) (argsL := As) (rest := rest) (fun sig h => hn.trans (hlen sig h)) hstack hW (by rw [hb]; exact hdg)
      (fun vm₁ hW₁ => ⟨hf.1, hf.2, hPc (T.setVm vm₁) hT hW₁⟩)
    dsimp only [Pt.U, Pt.locs, Pt.cells, Pt.slots] at X' e1 e2 h1 h2 h3 st
    subst h1; subst h2; subst h3
    exact ⟨v, (T.setVm vm₁).calling g' mk (Value.ref b :: As).toArray, t, U', L, hT, X', hL, e1, e2, hq, st⟩
end PRV
def dp_y (z : Nat) (z2 idx w1 w2 w4 w5 w6 : Nat) : Bool := dm_g w1 (.methodLink (dm_m z).1.cls idx (dm_m z2).1) && dm_g w2 (.sameMethod (dm_m z2).1.cls (dm_m z2).1.cls (dm_m z2).1.name (dm_m z2).1.desc) && dm_g w4 (.instanceMethod (dm_m z2).1) && dm_okY z2 w5 w6
section DPC
variable {E : dm_Ex} {P : dm_Po} {l : Launch} {z d MC MS pc ce sl : Nat} {ls : List (Option Value)} {st : List Value} {h : dm_H}
/-- on a StringBuilder, what its superclass declares: chosen (sel) or private -/
theorem dr_up {idx z2 w1 w2 w3 w4 w5 w6 w7 d2 mc2 ms2 n k i : Nat} {av rest vs : List Value} {Q2 : dm_Rs} (hi : dm_at z pc = some (.invokevirtual idx, 3, [z2, 9, w1, w2, w3, w4, w5, w6, w7])) (hR : dp_y z z2 idx w1 w2 w4 w5 w6 = true) (hsel : (dm_g w3 (.selects "java/lang/StringBuilder" (dm_m z2).1 (dm_m z2).1) || dm_n w7 (.privateMethod (dm_m z2).1)) = true)
    (hnr : dm_nr[z2]? = some (n, k)) (hh2 : (dm_m z2).2.2.2.2 = []) (hsp : dm_split n st [] = some (av, .ref i :: rest)) (hob : h[i]? = some (1, vs)) (hM : dm_M l z2 d2 mc2 ms2 (.ref i :: av) h Q2) (hno : ∀ X h', ¬ Q2 (.inr X) h')
    (hd2 : d2 < d) (hc : ce + mc2 ≤ MC) (hs : sl + ms2 ≤ MS) (hr : dm_sum rest ≤ 8)
    (kk : ∀ (v : Option Value) (h' : dm_H), Q2 (.inl v) h' → dm_W E P l z d MC MS (pc + 3) ls (v.toList ++ rest) h' (ce + mc2) (sl + ms2)) : dm_W E P l z d MC MS pc ls st h ce sl := by
  intro p e s m args below meth c D g tys L0 L ws A H locs lsC stC hK hw hls hst
  obtain ⟨hok, hst9, hx, hb, hre, hml, hown, hts, hS9, hlk, htb, hnm, hA, hE⟩ := id hK
  obtain ⟨hle, hKK, hP, hD, hS, hh0⟩ := id hw
  obtain ⟨hd, -⟩ := dm_ok_at hok hi
  unfold dp_y at hR
  simp only [Bool.and_eq_true] at hR
  obtain ⟨⟨⟨r1, r2⟩, r3⟩, r4⟩ := hR
  obtain ⟨y1, y2, y3, y4, y5, y6⟩ := dm_okY_use hts r4 hnr
  obtain ⟨avC, restC0, rfl, ha, hrs0, hlen⟩ := dm_args hsp hst
  obtain ⟨y9, restC, rfl, ⟨a, hia, rfl⟩, hrs⟩ := dm_st_cons hrs0
  have hsz : lsC.size = (dm_m z).2.2.1 := by obtain ⟨lv, k1, -, -⟩ := hls; exact k1.1
  rw [dm_cw0 hh2] at y2
  obtain ⟨a', fs, g1, g2, g3, g4⟩ := dm_obj hh0 hob (by decide)
  cases hia.symm.trans g1
  obtain ⟨cb, b1, b2, b3⟩ := va_recv hKK hP (ci := 1) rfl g2
  have hdecl : va_Decl s ⟨(dm_m z2).1.cls, (dm_m z2).1.name, (dm_m z2).1.desc⟩ := va_Decl.of (hts _ (dm_g_mem r3)) (hts _ y2)
  have base : ((dm_R d2 mc2 ms2).cells = mc2 ∧ (dm_R d2 mc2 ms2).slots = ms2 ∧ (dm_R d2 mc2 ms2).frames + 1 ≤ (dm_R d MC MS).frames ∧ 8 + ((dm_m z2).2.2.1 + 11) + (dm_R d2 mc2 ms2).locals ≤ (dm_R d MC MS).locals ∧ (∀ w ∈ dm_ws z2, ∀ (a' : Array Value) (U : State), s.WarmedH U.vm → w.before a' U = true) ∧ Cond.code (dm_m z2).1 (dm_m z2).2.1 (dm_m z2).2.2.1 (dm_m z2).2.2.2.1 ∈ dm_ws z2) :=
    ⟨rfl, rfl, by show 4 * d2 + 368 + 1 ≤ 4 * d + 368; omega, by show 8 + ((dm_m z2).2.2.1 + 11) + 200 * d2 ≤ 200 * d; omega, y6, by rw [dm_ws, dm_cw0 hh2]; exact List.mem_cons_self⟩
  refine dm_fin (dm_ofMet (dp_runP (As := avC) (bytes := (dm_m z2).2.1) (maxL := (dm_m z2).2.2.1) (ret := (dm_m z2).2.2.2.1) (C := "java/lang/StringBuilder") ⟨hx, hb, hml, hown, hts⟩ (dm_met hM hno hh0 (avC := .ref a :: avC) ⟨⟨a, hia, rfl⟩, ha⟩) ?_
    ⟨dm_blind, ⟨cb, b1, b2, b3⟩, dm_pre hS9 hKK hP hD hS hA (.ref a :: avC)⟩ rfl hlen hsz rfl (lv_room (by rw [dm_st_sum hrs]; exact hr)) hd ⟨hc, hs⟩)) hK hw hls hrs (fun X h' q => absurd q (hno X h')) kk
  rcases Bool.or_eq_true _ _ ▸ hsel with q | q
  · exact Or.inl ⟨base, hts _ y2, y1, y3, y5, hts _ (dm_g_mem r1), hts _ (dm_g_mem r2), hdecl, hts _ (dm_g_mem q), hts _ (dm_g_mem r3)⟩
  · exact Or.inr ⟨base, hts _ y2, y1, y3, y5, hts _ (dm_g_mem r1), hts _ (dm_g_mem r2), va_Nw.use rfl (hS9.1 _ (dm_n_mem q)), hts _ (dm_g_mem r3)⟩
/-- super.m(..) out of StringBuilder -/
theorem dr_sup {idx z2 w1 w2 w4 w5 w6 wS d2 mc2 ms2 n k i : Nat} {av rest vs : List Value} {Q2 : dm_Rs} (hi : dm_at z pc = some (.invokespecial idx, 3, [z2, 13, w1, w2, w4, w5, w6])) (hR : dp_y z z2 idx w1 w2 w4 w5 w6 = true) (hcl : (dm_m z).1.cls = "java/lang/StringBuilder") (hS8 : dm_g wS (.superclass (dm_m z).1.cls (dm_m z2).1.cls) = true) (hno1 : (dm_m z2).1.name ≠ "<init>")
    (hnr : dm_nr[z2]? = some (n, k)) (hh2 : (dm_m z2).2.2.2.2 = []) (hsp : dm_split n st [] = some (av, .ref i :: rest)) (hob : h[i]? = some (1, vs)) (hM : dm_M l z2 d2 mc2 ms2 (.ref i :: av) h Q2) (hno : ∀ X h', ¬ Q2 (.inr X) h')
    (hd2 : d2 < d) (hc : ce + mc2 ≤ MC) (hs : sl + ms2 ≤ MS) (hr : dm_sum rest ≤ 8)
    (kk : ∀ (v : Option Value) (h' : dm_H), Q2 (.inl v) h' → dm_W E P l z d MC MS (pc + 3) ls (v.toList ++ rest) h' (ce + mc2) (sl + ms2)) : dm_W E P l z d MC MS pc ls st h ce sl := by
  intro p e s m args below meth c D g tys L0 L ws A H locs lsC stC hK hw hls hst
  obtain ⟨hok, hst9, hx, hb, hre, hml, hown, hts, hS9, hlk, htb, hnm, hA, hE⟩ := id hK
  obtain ⟨hle, hKK, hP, hD, hS, hh0⟩ := id hw
  obtain ⟨hd, -⟩ := dm_ok_at hok hi
  unfold dp_y at hR
  simp only [Bool.and_eq_true] at hR
  obtain ⟨⟨⟨r1, r2⟩, r3⟩, r4⟩ := hR
  obtain ⟨y1, y2, y3, y4, y5, y6⟩ := dm_okY_use hts r4 hnr
  obtain ⟨avC, restC0, rfl, ha, hrs0, hlen⟩ := dm_args hsp hst
  obtain ⟨y9, restC, rfl, ⟨a, hia, rfl⟩, hrs⟩ := dm_st_cons hrs0
  have hsz : lsC.size = (dm_m z).2.2.1 := by obtain ⟨lv, k1, -, -⟩ := hls; exact k1.1
  rw [dm_cw0 hh2] at y2
  obtain ⟨a', fs, g1, g2, g3, g4⟩ := dm_obj hh0 hob (by decide)
  cases hia.symm.trans g1
  obtain ⟨cb, b1, b2, b3⟩ := va_recv hKK hP (ci := 1) rfl g2
  have hat : ClassAt s "java/lang/StringBuilder" m.cls := by
    obtain ⟨ps, dk, kp, hps, hdk, hkp, hsuper, hord, -, -⟩ := Cond.superclass_spec hown (hts _ (dm_g_mem hS8))
    exact ⟨by rw [← hcl]; exact hown, dk, hdk, hord⟩
  refine dm_fin (dm_ofMet (va_runSU (As := avC) (C := "java/lang/StringBuilder") hat ⟨hx, hb, hml, hown, hts⟩ (dm_met hM hno hh0 (avC := .ref a :: avC) ⟨⟨a, hia, rfl⟩, ha⟩)
    ⟨⟨rfl, rfl, by show 4 * d2 + 368 + 1 ≤ 4 * d + 368; omega, by show 8 + ((dm_m z2).2.2.1 + 11) + 200 * d2 ≤ 200 * d; omega, y6, by rw [dm_ws, dm_cw0 hh2]; exact List.mem_cons_self⟩, hts _ (dm_g_mem r1), hts _ (dm_g_mem r2), hts _ (dm_g_mem hS8), hts _ (dm_g_mem r3), y1, hts _ y2, hno1, y5⟩
    ⟨dm_blind, ⟨cb, b1, b2, b3⟩, dm_pre hS9 hKK hP hD hS hA (.ref a :: avC)⟩ rfl hlen hsz rfl (lv_room (by rw [dm_st_sum hrs]; exact hr)) hd ⟨hc, hs⟩)) hK hw hls hrs (fun X h' q => absurd q (hno X h')) kk
end DPC
