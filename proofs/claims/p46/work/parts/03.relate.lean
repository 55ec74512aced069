/-! ===== what a place stands for: values, stacks, locals, things, heaps ===== -/
abbrev dm_H : Type := List (Nat × List Value)
def dm_le (L L' : List Nat) : Prop := ∀ (i a : Nat), L[i]? = some a → L'[i]? = some a
theorem dm_le_rf {L : List Nat} : dm_le L L := fun _ _ h => h
theorem dm_le_tr {L M N : List Nat} (h : dm_le L M) (k : dm_le M N) : dm_le L N := fun i a e => k i a (h i a e)
theorem dm_le_app (L M : List Nat) : dm_le L (L ++ M) := fun i a h => by
  rw [List.getElem?_append_left (List.getElem?_eq_some_iff.mp h).1]; exact h
/-- int, long, null as they are; a reference by its place; float: some object outside; retAddr k: the k-th array outside -/
def dm_v (g : Nat → Nat) (L : List Nat) (v w : Value) : Prop := match v with
  | .int x => w = .int x
  | .long x => w = .long x
  | .null => w = .null
  | .ref i => ∃ a, L[i]? = some a ∧ w = .ref a
  | .float _ => ∃ a, w = .ref a
  | .retAddr k => w = .ref (g k)
  | .double _ => False
def dm_cat (v : Value) : Nat := match v with
  | .long _ => 2
  | _ => 1
def dm_st (g : Nat → Nat) (L : List Nat) : List Value → List Value → Prop
  | [], [] => True
  | v :: st, x :: sc => dm_v g L v x ∧ dm_st g L st sc
  | [], _ :: _ => False
  | _ :: _, [] => False
def dm_ls (g : Nat → Nat) (L : List Nat) (nL : Nat) (ls : List (Option Value)) (lsC : Array Slot) : Prop :=
  ∃ lv : List (Nat × Value), lv_has lsC nL lv ∧ ls.length = nL ∧ ∀ (i : Nat) (v : Value), ls[i]? = some (some v) → ∃ x, (i, x) ∈ lv ∧ dm_v g L v x
def dm_e (g : Nat → Nat) (tys : List (ClassId × FieldType)) (L : List Nat) (e : Nat × List Value) (c : va_E) : Prop := match c with
  | .inr (ci, fs) => e.1 = ci ∧ ci < 20 ∧ fs.length = e.2.length ∧ ∀ (j : Nat) (v : Value), e.2[j]? = some v → ∃ x, fs[j]? = some x ∧ dm_v g L v x
  | .inl (c, n, X) => n = e.2.length ∧ n < 2 ^ 31 ∧
    ((e.1 = 20 ∧ (c, FieldType.int) ∈ tys ∧ ∃ f : Nat → Int32, X = .inl f ∧ ∀ (j : Nat) (v : Value), e.2[j]? = some v → v = .int (f j)) ∨
     (e.1 = 21 ∧ (c, FieldType.byte) ∈ tys ∧ ∃ f : Nat → Int32, X = .inl f ∧ ∀ (j : Nat) (v : Value), e.2[j]? = some v → v = .int (f j) ∧ fits .byte (.int (f j)) = true) ∨
     (e.1 = 22 ∧ (c, FieldType.object "Earlyends$Book") ∈ tys ∧ ∃ f : Nat → Option Nat, X = .inr (.inr (.inr (.inr f))) ∧ ∀ (j : Nat) (v : Value), e.2[j]? = some v → dm_v g L v (va_rf (f j))) ∨
     (e.1 = 23 ∧ (c, FieldType.array .int) ∈ tys ∧ ∃ f : Nat → Option Nat, X = .inr (.inr (.inr (.inr f))) ∧ ∀ (j : Nat) (v : Value), e.2[j]? = some v → dm_v g L v (va_rf (f j))))
def dm_h (g : Nat → Nat) (tys : List (ClassId × FieldType)) (L : List Nat) (h : dm_H) (ws : va_W) : Prop :=
  L.length = h.length ∧ ws.length = h.length ∧ ∀ (i : Nat) (e : Nat × List Value), h[i]? = some e → ∃ a c, L[i]? = some a ∧ ws[i]? = some (a, c) ∧ dm_e g tys L e c
section DMR
variable {g : Nat → Nat} {L L' : List Nat} {tys tys' : List (ClassId × FieldType)}
theorem dm_v_up (hL : dm_le L L') {v x : Value} (h : dm_v g L v x) : dm_v g L' v x := by
  cases v with
  | ref i => obtain ⟨a, h1, h2⟩ := h; exact ⟨a, hL i a h1, h2⟩
  | _ => exact h
theorem dm_st_up (hL : dm_le L L') : ∀ {st sc : List Value}, dm_st g L st sc → dm_st g L' st sc
  | [], [], h => h
  | _ :: _, _ :: _, h => ⟨dm_v_up hL h.1, dm_st_up hL h.2⟩
  | [], _ :: _, h => h
  | _ :: _, [], h => h
theorem dm_ls_up (hL : dm_le L L') {nL : Nat} {ls : List (Option Value)} {lsC : Array Slot} (h : dm_ls g L nL ls lsC) : dm_ls g L' nL ls lsC := by
  obtain ⟨lv, h1, h2, h3⟩ := h
  refine ⟨lv, h1, h2, fun i v hv => ?_⟩
  obtain ⟨x, h4, h5⟩ := h3 i v hv
  exact ⟨x, h4, dm_v_up hL h5⟩
theorem dm_e_up (hL : dm_le L L') (hT : ∀ q ∈ tys, q ∈ tys') {e : Nat × List Value} {c : va_E} (h : dm_e g tys L e c) : dm_e g tys' L' e c := by
  rcases c with ⟨c, n, X⟩ | ⟨ci, fs⟩
  · obtain ⟨h1, h2, h3⟩ := h
    refine ⟨h1, h2, ?_⟩
    rcases h3 with ⟨a1, a2, a3⟩ | ⟨a1, a2, a3⟩ | ⟨a1, a2, f, a3, a4⟩ | ⟨a1, a2, f, a3, a4⟩
    · exact Or.inl ⟨a1, hT _ a2, a3⟩
    · exact Or.inr (Or.inl ⟨a1, hT _ a2, a3⟩)
    · exact Or.inr (Or.inr (Or.inl ⟨a1, hT _ a2, f, a3, fun j v hv => dm_v_up hL (a4 j v hv)⟩))
    · exact Or.inr (Or.inr (Or.inr ⟨a1, hT _ a2, f, a3, fun j v hv => dm_v_up hL (a4 j v hv)⟩))
  · obtain ⟨h1, h2, h3, h4⟩ := h
    refine ⟨h1, h2, h3, fun j v hv => ?_⟩
    obtain ⟨x, h5, h6⟩ := h4 j v hv
    exact ⟨x, h5, dm_v_up hL h6⟩
theorem dm_v_cat {v x : Value} (h : dm_v g L v x) : x.category = dm_cat v := by
  cases v with
  | int => cases (show x = _ from h); rfl
  | long => cases (show x = _ from h); rfl
  | null => cases (show x = _ from h); rfl
  | ref => obtain ⟨a, -, rfl⟩ := h; rfl
  | float => obtain ⟨a, rfl⟩ := h; rfl
  | retAddr => cases (show x = _ from h); rfl
  | double => exact h.elim
theorem dm_st_cons {v : Value} {st sc : List Value} (h : dm_st g L (v :: st) sc) : ∃ x sc', sc = x :: sc' ∧ dm_v g L v x ∧ dm_st g L st sc' := by
  cases sc with
  | nil => exact h.elim
  | cons x sc' => exact ⟨x, sc', rfl, h.1, h.2⟩
theorem dm_st_nil {sc : List Value} (h : dm_st g L [] sc) : sc = [] := by
  cases sc with
  | nil => rfl
  | cons => exact h.elim
theorem dm_st_app : ∀ {a b : List Value} {sc : List Value}, dm_st g L (a ++ b) sc → ∃ c d, sc = c ++ d ∧ dm_st g L a c ∧ dm_st g L b d
  | [], b, sc, h => ⟨[], sc, rfl, trivial, h⟩
  | v :: a, b, sc, h => by
    obtain ⟨x, sc', rfl, h1, h2⟩ := dm_st_cons h
    obtain ⟨c, d, rfl, h3, h4⟩ := dm_st_app h2
    exact ⟨x :: c, d, rfl, ⟨h1, h3⟩, h4⟩
theorem dm_st_join : ∀ {a b c d : List Value}, dm_st g L a c → dm_st g L b d → dm_st g L (a ++ b) (c ++ d)
  | [], _, [], _, _, h => h
  | _ :: _, _, _ :: _, _, h1, h2 => ⟨h1.1, dm_st_join h1.2 h2⟩
  | [], _, _ :: _, _, h, _ => h.elim
  | _ :: _, _, [], _, h, _ => h.elim
theorem dm_st_rev : ∀ {a c : List Value}, dm_st g L a c → dm_st g L a.reverse c.reverse
  | [], [], _ => trivial
  | v :: a, x :: c, h => by
    rw [List.reverse_cons, List.reverse_cons]
    exact dm_st_join (dm_st_rev h.2) ⟨h.1, trivial⟩
  | [], _ :: _, h => h.elim
  | _ :: _, [], h => h.elim
theorem dm_st_len : ∀ {a c : List Value}, dm_st g L a c → c.length = a.length
  | [], [], _ => rfl
  | _ :: _, _ :: _, h => by rw [List.length_cons, List.length_cons, dm_st_len h.2]
  | [], _ :: _, h => h.elim
  | _ :: _, [], h => h.elim
def dm_sum : List Value → Nat
  | [] => 0
  | v :: r => dm_cat v + dm_sum r
theorem dm_st_sum : ∀ {a c : List Value}, dm_st g L a c → (c.map fun v => v.category).sum = dm_sum a
  | [], [], _ => rfl
  | _ :: _, _ :: _, h => by rw [List.map_cons, List.sum_cons, dm_st_sum h.2, dm_v_cat h.1]; rfl
  | [], _ :: _, h => h.elim
  | _ :: _, [], h => h.elim
/-! locals -/
theorem dm_ls_get {nL i : Nat} {ls : List (Option Value)} {lsC : Array Slot} {v : Value} (h : dm_ls g L nL ls lsC) (hi : ls[i]? = some (some v)) : ∃ x, lsC[i]? = some (.val x) ∧ dm_v g L v x := by
  obtain ⟨lv, h1, h2, h3⟩ := h
  obtain ⟨x, h4, h5⟩ := h3 i v hi
  exact ⟨x, h1.2.2 (i, x) h4, h5⟩
/-- a place that one word may go to -/
def dm_fr (ls : List (Option Value)) (i : Nat) : Bool := Nat.blt i ls.length && match i with
  | 0 => true
  | j + 1 => match ls[j]? with
    | some (some (.long _)) => false
    | _ => true
theorem dm_fr_lt {ls : List (Option Value)} {i : Nat} (h : dm_fr ls i = true) : i < ls.length := by
  simp only [dm_fr, Bool.and_eq_true] at h
  exact Nat.blt_eq.mp h.1
theorem dm_fr_no {ls : List (Option Value)} {i j : Nat} (h : dm_fr ls i = true) (hj : j + 1 = i) {x : Int64} : ls[j]? ≠ some (some (.long x)) := by
  subst hj
  intro e
  simp [dm_fr, e] at h
theorem dm_long {v x : Value} (h : dm_v g L v x) (hc : x.category = 2) : ∃ y, v = .long y := by
  rw [dm_v_cat h] at hc
  cases v <;> first | exact ⟨_, rfl⟩ | (simp [dm_cat] at hc)
theorem dm_ls_set1 {nL i : Nat} {ls : List (Option Value)} {lsC' : Array Slot} {lv : List (Nat × Value)} {v x : Value} (h2 : ls.length = nL) (h3 : ∀ (i : Nat) (v : Value), ls[i]? = some (some v) → ∃ x, (i, x) ∈ lv ∧ dm_v g L v x)
    (hf : dm_fr ls i = true) (hv : dm_v g L v x) (h' : lv_has lsC' nL ((i, x) :: lv.filter (fun q => !(q.1 == i) && !(q.1 + 1 == i && q.2.category == 2)))) : dm_ls g L nL (ls.set i (some v)) lsC' := by
  refine ⟨_, h', by rw [List.length_set]; exact h2, fun j u hj => ?_⟩
  rw [List.getElem?_set] at hj
  by_cases e : i = j
  · subst e
    rw [if_pos rfl, if_pos (dm_fr_lt hf)] at hj
    cases hj
    exact ⟨x, List.mem_cons_self, hv⟩
  · rw [if_neg e] at hj
    obtain ⟨y, h4, h5⟩ := h3 j u hj
    refine ⟨y, List.mem_cons_of_mem _ (List.mem_filter.mpr ⟨h4, ?_⟩), h5⟩
    have e1 : (j == i) = false := by simp; exact fun q => e q.symm
    by_cases e2 : j + 1 = i
    · have e3 : (y.category == 2) = false := by
        simp
        intro hc
        obtain ⟨z, rfl⟩ := dm_long h5 hc
        exact dm_fr_no hf e2 hj
      simp [e1, e3]
    · simp [e1, e2]
theorem dm_ls_set2 {nL i : Nat} {ls : List (Option Value)} {lsC' : Array Slot} {lv : List (Nat × Value)} {v x : Value} (h2 : ls.length = nL) (h3 : ∀ (i : Nat) (v : Value), ls[i]? = some (some v) → ∃ x, (i, x) ∈ lv ∧ dm_v g L v x)
    (hf : dm_fr ls i = true) (hv : dm_v g L v x) (h' : lv_has lsC' nL ((i, x) :: lv.filter (fun q => !(q.1 == i) && (!(q.1 == i + 1) && !(q.1 + 1 == i && q.2.category == 2))))) : dm_ls g L nL ((ls.set i (some v)).set (i + 1) none) lsC' := by
  refine ⟨_, h', by rw [List.length_set, List.length_set]; exact h2, fun j u hj => ?_⟩
  rw [List.getElem?_set] at hj
  by_cases e0 : i + 1 = j
  · rw [if_pos e0] at hj
    split at hj <;> cases hj
  rw [if_neg e0, List.getElem?_set] at hj
  by_cases e : i = j
  · subst e
    rw [if_pos rfl, if_pos (dm_fr_lt hf)] at hj
    cases hj
    exact ⟨x, List.mem_cons_self, hv⟩
  · rw [if_neg e] at hj
    obtain ⟨y, h4, h5⟩ := h3 j u hj
    refine ⟨y, List.mem_cons_of_mem _ (List.mem_filter.mpr ⟨h4, ?_⟩), h5⟩
    have e1 : (j == i) = false := by simp; exact fun q => e q.symm
    have e9 : (j == i + 1) = false := by simp; exact fun q => e0 q.symm
    by_cases e2 : j + 1 = i
    · have e3 : (y.category == 2) = false := by
        simp
        intro hc
        obtain ⟨z, rfl⟩ := dm_long h5 hc
        exact dm_fr_no hf e2 hj
      simp [e1, e9, e3]
    · simp [e1, e9, e2]
/-- the locals at the entry -/
def dm_in0 : Nat → List Value → List (Option Value)
  | n, [] => List.replicate n none
  | n, v :: r => match v with
    | .long x => some (.long x) :: none :: dm_in0 (n - 2) r
    | v => some v :: dm_in0 (n - 1) r
def dm_sz : List Value → Nat
  | [] => 0
  | v :: r => dm_cat v + dm_sz r
theorem dm_in0_len : ∀ {av : List Value} {n : Nat}, dm_sz av ≤ n → (dm_in0 n av).length = n
  | [], n, _ => by simp [dm_in0]
  | v :: r, n, h => by
    cases v <;> simp only [dm_sz, dm_cat] at h <;> simp only [dm_in0, List.length_cons] <;> rw [dm_in0_len (by omega)] <;> omega
theorem dm_in0_at : ∀ {av ac : List Value} {n k : Nat}, dm_st g L av ac → ∀ (i : Nat) (v : Value), (dm_in0 n av)[i]? = some (some v) → ∃ x, (k + i, x) ∈ lv_args k ac ∧ dm_v g L v x
  | [], _, n, k, _, i, v, hi => by
    simp only [dm_in0, List.getElem?_replicate] at hi
    split at hi <;> cases hi
  | u :: r, ac, n, k, h, i, v, hi => by
    obtain ⟨x, ac', rfl, h1, h2⟩ := dm_st_cons h
    have hc := dm_v_cat h1
    have step1 : dm_cat u = 1 → (some u :: dm_in0 (n - 1) r)[i]? = some (some v) → ∃ x_1, (k + i, x_1) ∈ lv_args k (x :: ac') ∧ dm_v g L v x_1 := by
      intro hu hi
      cases i with
      | zero =>
        cases (Option.some.inj (Option.some.inj hi))
        exact ⟨x, List.mem_cons_self, h1⟩
      | succ i =>
        obtain ⟨y, h3, h4⟩ := dm_in0_at (k := k + 1) h2 i v hi
        refine ⟨y, List.mem_cons_of_mem _ ?_, h4⟩
        rw [if_neg (by rw [hc, hu]; decide)]
        rw [show k + (i + 1) = k + 1 + i by omega]
        exact h3
    cases u with
    | long z =>
      cases i with
      | zero =>
        cases (Option.some.inj (Option.some.inj hi))
        exact ⟨x, List.mem_cons_self, h1⟩
      | succ i =>
        cases i with
        | zero => simp [dm_in0] at hi
        | succ i =>
          obtain ⟨y, h3, h4⟩ := dm_in0_at (k := k + 2) h2 i v hi
          refine ⟨y, List.mem_cons_of_mem _ ?_, h4⟩
          rw [if_pos (by rw [hc]; rfl)]
          rw [show k + (i + 1 + 1) = k + 2 + i by omega]
          exact h3
    | _ => exact step1 rfl hi
theorem dm_sl_len : ∀ {av ac : List Value}, dm_st g L av ac → (lg_sl ac).length = dm_sz av
  | [], ac, h => by rw [dm_st_nil h]; rfl
  | v :: r, ac, h => by
    obtain ⟨x, ac', rfl, h1, h2⟩ := dm_st_cons h
    have hc := dm_v_cat h1
    have h3 := dm_sl_len h2
    simp only [lg_sl, List.flatMap_cons, List.length_append, dm_sz] at h3 ⊢
    rw [h3, ← hc]
    by_cases e : x.category = 2
    · rw [if_pos e, e]; rfl
    · rw [if_neg e]
      rcases lv_cat x with q | q
      · rw [q]; rfl
      · exact absurd q e
theorem dm_ls_in {av ac : List Value} {n : Nat} (h : dm_st g L av ac) (hn : dm_sz av ≤ n) : dm_ls g L n (dm_in0 n av) ((lg_sl ac ++ List.replicate (n - (lg_sl ac).length) Slot.unset).toArray) := by
  refine ⟨lv_args 0 ac, lv_entry ac (by rw [dm_sl_len h]; exact hn), dm_in0_len hn, fun i v hi => ?_⟩
  have h2 := dm_in0_at (k := 0) h i v hi
  rwa [Nat.zero_add] at h2
/-! heaps -/
theorem dm_h_set {h : dm_H} {ws : va_W} (hh : dm_h g tys L h ws) {i a : Nat} {e : Nat × List Value} {c : va_E} (ha : L[i]? = some a) (he : dm_e g tys L e c) : dm_h g tys L (h.set i e) (ws.set i (a, c)) := by
  obtain ⟨h1, h2, h3⟩ := hh
  refine ⟨by rw [List.length_set]; exact h1, by rw [List.length_set, List.length_set]; exact h2, fun j u hj => ?_⟩
  rw [List.getElem?_set] at hj
  by_cases q : i = j
  · subst q
    rw [if_pos rfl] at hj
    split at hj
    · rename_i hl
      cases hj
      exact ⟨a, c, ha, by rw [List.getElem?_set, if_pos rfl, if_pos (by omega)], he⟩
    · cases hj
  · rw [if_neg q] at hj
    obtain ⟨b, d, k1, k2, k3⟩ := h3 j u hj
    exact ⟨b, d, k1, by rw [List.getElem?_set, if_neg q]; exact k2, k3⟩
theorem dm_h_push {h : dm_H} {ws : va_W} (hh : dm_h g tys L h ws) (hT : ∀ q ∈ tys, q ∈ tys') {a : Nat} {e : Nat × List Value} {c : va_E} (he : dm_e g tys' (L ++ [a]) e c) : dm_h g tys' (L ++ [a]) (h ++ [e]) (ws ++ [(a, c)]) := by
  obtain ⟨h1, h2, h3⟩ := hh
  refine ⟨by rw [List.length_append, List.length_append, h1]; rfl, by rw [List.length_append, List.length_append, h2]; rfl, fun j u hj => ?_⟩
  by_cases q : j < h.length
  · rw [List.getElem?_append_left q] at hj
    obtain ⟨b, d, k1, k2, k3⟩ := h3 j u hj
    exact ⟨b, d, dm_le_app _ _ _ _ k1, by rw [List.getElem?_append_left (by omega)]; exact k2, dm_e_up (dm_le_app _ _) hT k3⟩
  · rw [List.getElem?_append_right (by omega)] at hj
    have e0 : j - h.length = 0 := by
      rcases Nat.eq_zero_or_pos (j - h.length) with z | z
      · exact z
      · rw [List.getElem?_eq_none (by simp only [List.length_cons, List.length_nil]; omega)] at hj; cases hj
    rw [e0] at hj
    cases hj
    exact ⟨a, c, by rw [List.getElem?_append_right (by omega), h1, e0]; rfl, by rw [List.getElem?_append_right (by omega), h2, e0]; rfl, he⟩
end DMR
