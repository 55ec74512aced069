/-! ===== new int[3][8] ===== -/
def rep8 : dm_C := (20, List.replicate 8 (dI 0))
section MNA
variable {E : dm_Ex} {P : dm_Po} {l : Launch} {z d MC MS pc ce sl : Nat} {ls : List (Option Value)} {st : List Value} {h : dm_H}
theorem dm_h_push4 {g : Nat → Nat} {tys tys' : List (ClassId × FieldType)} {L : List Nat} {ws : va_W} (hh : dm_h g tys L h ws) (hT : ∀ q ∈ tys, q ∈ tys') {a0 a1 a2 a3 : Nat} {e0 e1 e2 e3 : Nat × List Value} {c0 c1 c2 c3 : va_E}
    (h0 : dm_e g tys' (L ++ [a0, a1, a2, a3]) e0 c0) (h1 : dm_e g tys' (L ++ [a0, a1, a2, a3]) e1 c1) (h2 : dm_e g tys' (L ++ [a0, a1, a2, a3]) e2 c2) (h3 : dm_e g tys' (L ++ [a0, a1, a2, a3]) e3 c3) :
    dm_h g tys' (L ++ [a0, a1, a2, a3]) (h ++ [e0, e1, e2, e3]) (ws ++ [(a0, c0), (a1, c1), (a2, c2), (a3, c3)]) := by
  obtain ⟨k1, k2, k3⟩ := hh
  refine ⟨by rw [List.length_append, List.length_append, k1]; rfl, by rw [List.length_append, List.length_append, k2]; rfl, fun j u hj => ?_⟩
  by_cases q : j < h.length
  · rw [List.getElem?_append_left q] at hj
    obtain ⟨b, dd, p1, p2, p3⟩ := k3 j u hj
    exact ⟨b, dd, dm_le_app _ _ _ _ p1, by rw [List.getElem?_append_left (by omega)]; exact p2, dm_e_up (dm_le_app _ _) hT p3⟩
  · rw [List.getElem?_append_right (by omega)] at hj
    rw [List.getElem?_append_right (by omega), List.getElem?_append_right (by omega), k1, k2]
    have hlt := (List.getElem?_eq_some_iff.mp hj).1
    have hlt : j - h.length < 4 := hlt
    rcases (by omega : j - h.length = 0 ∨ j - h.length = 1 ∨ j - h.length = 2 ∨ j - h.length = 3) with e | e | e | e <;> rw [e] at hj ⊢ <;> cases hj
    · exact ⟨_, _, rfl, rfl, h0⟩
    · exact ⟨_, _, rfl, rfl, h1⟩
    · exact ⟨_, _, rfl, rfl, h2⟩
    · exact ⟨_, _, rfl, rfl, h3⟩
theorem dr_mna {idx w1 w2 i0 : Nat} {vs0 : List Value} (hi : dm_at z pc = some (.multianewarray idx 2, 4, [23, w1, w2])) (hi0 : h[i0]? = some (20, vs0)) (hc : ce + 4 ≤ MC) (hs : sl + 27 ≤ MS)
    (kk : dm_W E P l z d MC MS (pc + 4) ls (.ref h.length :: st) (h ++ [(23, [.ref (h.length + 1), .ref (h.length + 2), .ref (h.length + 3)]), rep8, rep8, rep8]) (ce + 4) (sl + 27)) : dm_W E P l z d MC MS pc ls (dI 8 :: dI 3 :: st) h ce sl := by
  intro p e s m args below meth c D g tys L0 L ws A H locs lsC stC hK hw hls hst
  obtain ⟨hok, hst9, hx, hb, hr, hml, hown, hts, hS9, hlk, htb, hnm, hA, hE⟩ := id hK
  obtain ⟨hle, hKK, hP, hD, hS, hh0⟩ := id hw
  obtain ⟨hd, hR⟩ := dm_ok_at hok hi
  have hR : (dm_g w1 (.classLink (dm_m z).1.cls idx ("[" ++ (FieldType.array .int).toString)) && dm_g w2 (.arrayClass .int)) = true := hR
  simp only [Bool.and_eq_true] at hR
  obtain ⟨y, sc, rfl, hj2, hs1⟩ := dm_st_cons hst
  have hj2 : y = .int 8 := hj2
  subst hj2
  obtain ⟨y2, sc, rfl, hj3, hs2⟩ := dm_st_cons hs1
  have hj3 : y2 = .int 3 := hj3
  subst hj3
  obtain ⟨a9, cx, -, -, h3⟩ := hh0.2.2 i0 _ hi0
  have hcy : ∃ cy, (cy, FieldType.int) ∈ tys := by
    cases cx with
    | inr q => obtain ⟨q1, q2, -⟩ := h3; have q1 : (20 : Nat) = q.1 := q1; omega
    | inl q =>
      obtain ⟨-, -, h4⟩ := h3
      rcases h4 with ⟨-, h5, -⟩ | ⟨e, -⟩ | ⟨e, -⟩ | ⟨e, -⟩
      · exact ⟨_, h5⟩
      · cases e
      · cases e
      · cases e
  obtain ⟨cy, hcy⟩ := hcy
  obtain ⟨k9, hk9⟩ := List.getElem?_of_mem hcy
  have hcl : s.vm.findClass (FieldType.array .int).toString = some cy := (hKK.2 k9 _ hk9).2
  refine va_mna (X := ws) (L := []) (f := fun _ => .inl (0, 0, .inl (fun _ => 0))) (N' := 3) (K' := 8) (z := (8, .inl (fun _ => 0))) hx hb hown (hts _ (dm_g_mem hR.1)) hS9.2.2.1 (hts _ (dm_g_mem hR.2)) hcl hKK (by rw [show va_pl [] _ = [] from rfl, List.append_nil]; exact hP) (by rw [show va_pl [] _ = [] from rfl, List.append_nil]; exact hD) hS hA (by decide) (by decide) (by decide) (by decide) (by decide) (by decide) (by decide) rfl rfl (show ce + (1 + 3) ≤ MC by omega) (show sl + (3 + 3 * 8) ≤ MS by omega) (fun _ => rfl) hd (fun q r cA H1 hrr hrL hK1 hP1 hD1 hS1 => ?_)
  have hT : ∀ t ∈ tys, t ∈ tys ++ [(cA, FieldType.array .int)] := fun t ht => List.mem_append_left _ ht
  have eW : (ws ++ [(q, .inl (cA, 3, .inr (.inr (.inr (.inr (fun i => if i < 3 then some (r i) else none))))))]) ++ va_pl ([] ++ (List.range 3).map r) (vr_up (fun _ => .inl (0, 0, .inl (fun _ => 0))) ((List.range 3).map r) (.inl (cy, 8, .inl (fun _ => 0)))) = ws ++ [(q, .inl (cA, 3, .inr (.inr (.inr (.inr (fun i => if i < 3 then some (r i) else none)))))), (r 0, .inl (cy, 8, .inl (fun _ => 0))), (r 1, .inl (cy, 8, .inl (fun _ => 0))), (r 2, .inl (cy, 8, .inl (fun _ => 0)))] := by
    rw [List.append_assoc]
    refine congrArg (ws ++ ·) ?_
    show _ :: (List.map _ _) = _
    refine congrArg (List.cons _) ?_
    have e9 : (List.range 3).map r = [r 0, r 1, r 2] := rfl
    rw [List.nil_append, e9]
    show [(r 0, vr_up _ _ _ (r 0)), (r 1, vr_up _ _ _ (r 1)), (r 2, vr_up _ _ _ (r 2))] = _
    rw [vr_up_in (by simp), vr_up_in (by simp), vr_up_in (by simp)]
  rw [eW] at hP1 hD1
  have hrow : dm_e g (tys ++ [(cA, FieldType.array .int)]) (L ++ [q, r 0, r 1, r 2]) rep8 (.inl (cy, 8, .inl (fun _ => 0))) := ⟨rfl, by omega, Or.inl ⟨rfl, List.mem_append_left _ hcy, _, rfl, fun j u hj => by
    have hj : (List.replicate 8 (Value.int 0))[j]? = some u := hj
    rw [List.getElem?_replicate] at hj
    split at hj <;> cases hj
    rfl⟩⟩
  have eL : ∀ k : Nat, (L ++ [q, r 0, r 1, r 2])[h.length + k]? = [q, r 0, r 1, r 2][k]? := fun k => by
    rw [← hh0.1, List.getElem?_append_right (by omega), Nat.add_sub_cancel_left]
  refine kk _ _ _ _ _ _ _ _ _ _ _ (L0 := L0) (L ++ [q, r 0, r 1, r 2]) _ _ _ _ _ _ hK ⟨dm_le_tr hle (dm_le_app _ _), hK1, hP1, hD1, hS1, dm_h_push4 hh0 hT ⟨rfl, by omega, Or.inr (Or.inr (Or.inr ⟨rfl, List.mem_append_right _ List.mem_cons_self, _, rfl, fun j u hj => ?_⟩))⟩ hrow hrow hrow⟩ (dm_ls_up (dm_le_app _ _) hls) ⟨⟨q, eL 0, rfl⟩, dm_st_up (dm_le_app _ _) hs2⟩
  have hlt := (List.getElem?_eq_some_iff.mp hj).1
  have hlt : j < 3 := hlt
  rcases (by omega : j = 0 ∨ j = 1 ∨ j = 2) with rfl | rfl | rfl <;> cases hj
  · exact ⟨r 0, eL 1, rfl⟩
  · exact ⟨r 1, eL 2, rfl⟩
  · exact ⟨r 2, eL 3, rfl⟩
end MNA
