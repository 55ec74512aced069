/-! ===== on a StringBuilder, what its superclass declares and it answers itself ===== -/
section DPO
variable {E : dm_Ex} {P : dm_Po} {l : Launch} {z d MC MS pc ce sl : Nat} {ls : List (Option Value)} {st : List Value} {h : dm_H}
theorem dr_ov {idx z2 z3 w1 w2 w3 w4 w5 w6 w7 wS wI wi wc d2 mc2 ms2 n k k3 i : Nat} {av rest vs : List Value} {Q2 : dm_Rs} (hi : dm_at z pc = some (.invokevirtual idx, 3, [z2, 9, w1, w2, w3, w4, w5, w6, w7])) (hR : dp_y z z2 idx w1 w2 w4 w5 w6 = true) (hsel : dm_g wS (.selects "java/lang/StringBuilder" (dm_m z2).1 (dm_m z3).1) = true) (hin : dm_g wI (.instanceMethod (dm_m z3).1) = true) (hY : dm_okY z3 wi wc = true)
    (hnr : dm_nr[z2]? = some (n, k)) (hnr3 : dm_nr[z3]? = some (n, k3)) (hh2 : (dm_m z2).2.2.2.2 = []) (hh3 : (dm_m z3).2.2.2.2 = []) (hsp : dm_split n st [] = some (av, .ref i :: rest)) (hob : h[i]? = some (1, vs)) (hM : dm_M l z3 d2 mc2 ms2 (.ref i :: av) h Q2) (hno : ∀ X h', ¬ Q2 (.inr X) h')
    (hd2 : d2 < d) (hc : ce + mc2 ≤ MC) (hs : sl + ms2 ≤ MS) (hr : dm_sum rest ≤ 8)
    (kk : ∀ (v : Option Value) (h' : dm_H), Q2 (.inl v) h' → dm_W E P l z d MC MS (pc + 3) ls (v.toList ++ rest) h' (ce + mc2) (sl + ms2)) : dm_W E P l z d MC MS pc ls st h ce sl := by
  intro p e s m args below meth c D g tys L0 L ws A H locs lsC stC hK hw hls hst
  obtain ⟨hok, hst9, hx, hb, hre, hml, hown, hts, hS9, hlk, htb, hnm, hA, hE⟩ := id hK
  obtain ⟨hle, hKK, hP, hD, hS, hh0⟩ := id hw
  obtain ⟨hd, -⟩ := dm_ok_at hok hi
  unfold dp_y at hR
  simp only [Bool.and_eq_true] at hR
  obtain ⟨⟨⟨r1, r2⟩, r3⟩, r4⟩ := hR
  obtain ⟨y1, y2, y3, y4, y5, y6⟩ := dm_okY_use hts r4 hnr
  obtain ⟨x1, x2, x3, x4, x5, x6⟩ := dm_okY_use hts hY hnr3
  obtain ⟨avC, restC0, rfl, ha, hrs0, hlen⟩ := dm_args hsp hst
  obtain ⟨y9, restC, rfl, ⟨a, hia, rfl⟩, hrs⟩ := dm_st_cons hrs0
  have hsz : lsC.size = (dm_m z).2.2.1 := by obtain ⟨lv, k1, -, -⟩ := hls; exact k1.1
  rw [dm_cw0 hh2] at y2
  rw [dm_cw0 hh3] at x2
  obtain ⟨a', fs, g1, g2, g3, g4⟩ := dm_obj hh0 hob (by decide)
  cases hia.symm.trans g1
  obtain ⟨cb, b1, b2, b3⟩ := va_recv hKK hP (ci := 1) rfl g2
  have hdecl : va_Decl s ⟨(dm_m z2).1.cls, (dm_m z2).1.name, (dm_m z2).1.desc⟩ := va_Decl.of (hts _ (dm_g_mem r3)) (hts _ y2)
  have base : ((dm_R d2 mc2 ms2).cells = mc2 ∧ (dm_R d2 mc2 ms2).slots = ms2 ∧ (dm_R d2 mc2 ms2).frames + 1 ≤ (dm_R d MC MS).frames ∧ 8 + ((dm_m z3).2.2.1 + 11) + (dm_R d2 mc2 ms2).locals ≤ (dm_R d MC MS).locals ∧ (∀ w ∈ dm_ws z3, ∀ (a' : Array Value) (U : State), s.WarmedH U.vm → w.before a' U = true) ∧ Cond.code (dm_m z3).1 (dm_m z3).2.1 (dm_m z3).2.2.1 (dm_m z3).2.2.2.1 ∈ dm_ws z3) :=
    ⟨rfl, rfl, by show 4 * d2 + 368 + 1 ≤ 4 * d + 368; omega, by show 8 + ((dm_m z3).2.2.1 + 11) + 200 * d2 ≤ 200 * d; omega, x6, by rw [dm_ws, dm_cw0 hh3]; exact List.mem_cons_self⟩
  exact dm_fin (dm_ofMet (va_runU (As := avC) (bytes := (dm_m z3).2.1) (maxL := (dm_m z3).2.2.1) (ret := (dm_m z3).2.2.2.1) (C := "java/lang/StringBuilder") ⟨hx, hb, hml, hown, hts⟩ (dm_met hM hno hh0 (avC := .ref a :: avC) ⟨⟨a, hia, rfl⟩, ha⟩)
    ⟨base, hts _ x2, x1, y3, y5, hts _ (dm_g_mem r1), hts _ (dm_g_mem r2), hdecl, hts _ (dm_g_mem hsel), hts _ (dm_g_mem hin)⟩
    ⟨dm_blind, ⟨cb, b1, b2, b3⟩, dm_pre hS9 hKK hP hD hS hA (.ref a :: avC)⟩ rfl hlen hsz rfl (lv_room (by rw [dm_st_sum hrs]; exact hr)) hd ⟨hc, hs⟩)) hK hw hls hrs (fun X h' q => absurd q (hno X h')) kk
end DPO
