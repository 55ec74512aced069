/-! ===== what a place stands for: values, stacks, locals, things, heaps ===== -/
abbrev dm_H : Type := List (Nat × List Value)
def dm_le (L L' : List Nat) : Prop := ∀ (i a : Nat), L[i]? = some a → L'[i]? = some a
theorem dm_le_rf {L : List Nat} : dm_le L L := fun _ _ h => h
theorem dm_le_tr {L M N : List Nat} (h : dm_le L M) (k : dm_le M N) : dm_le L N := fun i a e => k i a (h i a e)
theorem dm_le_app (L M : List Nat) : dm_le L (L ++ M) := fun i a h => by
  rw [List.getElem?_append_left (List.getElem?_eq_some_iff.mp h).1]; exact h
/-- int, long, null as they are; a reference by its place; float: some object outside; retAddr k: the k-th array outside -/
def dm_v (g : Nat → Nat) (L : List Nat) (v w : Value) : Prop := match v with
  | .int x => w = .int x
  | .long x => w = .long x
  | .null => w = .null
  | .ref i => ∃ a, L[i]? = some a ∧ w = .ref a
  | .float _ => ∃ a, w = .ref a
  | .retAddr k => w = .ref (g k)
  | .double _ => False
def dm_cat (v : Value) : Nat := match v with
  | .long _ => 2
  | _ => 1
def dm_st (g : Nat → Nat) (L : List Nat) : List Value → List Value → Prop
  | [], [] => True
  | v :: st, x :: sc => dm_v g L v x ∧ dm_st g L st sc
  | [], _ :: _ => False
  | _ :: _, [] => False
def dm_ls (g : Nat → Nat) (L : List Nat) (nL : Nat) (ls : List (Option Value)) (lsC : Array Slot) : Prop :=
  ∃ lv : List (Nat × Value), lv_has lsC nL lv ∧ ls.length = nL ∧ ∀ (i : Nat) (v : Value), ls[i]? = some (some v) → ∃ x, (i, x) ∈ lv ∧ dm_v g L v x
def dm_e (g : Nat → Nat) (tys : List (ClassId × FieldType)) (L : List Nat) (e : Nat × List Value) (c : va_E) : Prop := match c with
  | .inr (ci, fs) => e.1 = ci ∧ ci < 20 ∧ fs.length = e.2.length ∧ ∀ (j : Nat) (v : Value), e.2[j]? = some v → ∃ x, fs[j]? = some x ∧ dm_v g L v x
  | .inl (c, n, X) => n = e.2.length ∧ n < 2 ^ 31 ∧
    ((e.1 = 20 ∧ (c, FieldType.int) ∈ tys ∧ ∃ f : Nat → Int32, X = .inl f ∧ ∀ (j : Nat) (v : Value), e.2[j]? = some v → v = .int (f j)) ∨
     (e.1 = 21 ∧ (c, FieldType.byte) ∈ tys ∧ ∃ f : Nat → Int32, X = .inl f ∧ ∀ (j : Nat) (v : Value), e.2[j]? = some v → v = .int (f j) ∧ fits .byte (.int (f j)) = true) ∨
     (e.1 = 22 ∧ (c, FieldType.object "Earlyends$Book") ∈ tys ∧ ∃ f : Nat → Option Nat, X = .inr (.inr (.inr (.inr f))) ∧ ∀ (j : Nat) (v : Value), e.2[j]? = some v → dm_v g L v (va_rf (f j))) ∨
     (e.1 = 23 ∧ (c, FieldType.array .int) ∈ tys ∧ ∃ f : Nat → Option Nat, X = .inr (.inr (.inr (.inr f))) ∧ ∀ (j : Nat) (v : Value), e.2[j]? = some v → dm_v g L v (va_rf (f j))))
def dm_h (g : Nat → Nat) (tys : List (ClassId × FieldType)) (L : List Nat) (h : dm_H) (ws : va_W) : Prop :=
  L.length = h.length ∧ ws.length = h.length ∧ ∀ (i : Nat) (e : Nat × List Value), h[i]? = some e → ∃ a c, L[i]? = some a ∧ ws[i]? = some (a, c) ∧ dm_e g tys L e c
section DMR
variable {g : Nat → Nat} {L L' : List Nat} {tys tys' : List (ClassId × FieldType)}
theorem dm_v_up (hL : dm_le L L') {v x : Value} (h : dm_v g L v x) : dm_v g L' v x := by
  cases v with
  | ref i => obtain ⟨a, h1, h2⟩ := h; exact ⟨a, hL i a h1, h2⟩
  | _ => exact h
theorem dm_st_up (hL : dm_le L L') : ∀ {st sc : List Value}, dm_st g L st sc → dm_st g L' st sc
  | [], [], h => h
  | _ :: _, _ :: _, h => ⟨dm_v_up hL h.1, dm_st_up hL h.2⟩
  | [], _ :: _, h => h
  | _ :: _, [], h => h
theorem dm_ls_up (hL : dm_le L L') {nL : Nat} {ls : List (Option Value)} {lsC : Array Slot} (h : dm_ls g L nL ls lsC) : dm_ls g L' nL ls lsC := by
  obtain ⟨lv, h1, h2, h3⟩ := h
  refine ⟨lv, h1, h2, fun i v hv => ?_⟩
  obtain ⟨x, h4, h5⟩ := h3 i v hv
  exact ⟨x, h4, dm_v_up hL h5⟩
theorem dm_e_up (hL : dm_le L L') (hT : ∀ q ∈ tys, q ∈ tys') {e : Nat × List Value} {c : va_E} (h : dm_e g tys L e c) : dm_e g tys' L' e c := by
  rcases c with ⟨c, n, X⟩ | ⟨ci, fs⟩
  · obtain ⟨h1, h2, h3⟩ := h
    refine ⟨h1, h2, ?_⟩
    rcases h3 with ⟨a1, a2, a3⟩ | ⟨a1, a2, a3⟩ | ⟨a1, a2, f, a3, a4⟩ | ⟨a1, a2, f, a3, a4⟩
    · exact Or.inl ⟨a1, hT _ a2, a3⟩
    · exact Or.inr (Or.inl ⟨a1, hT _ a2, a3⟩)
    · exact Or.inr (Or.inr (Or.inl ⟨a1, hT _ a2, f, a3, fun j v hv => dm_v_up hL (a4 j v hv)⟩))
    · exact Or.inr (Or.inr (Or.inr ⟨a1, hT _ a2, f, a3, fun j v hv => dm_v_up hL (a4 j v hv)⟩))
  · obtain ⟨h1, h2, h3, h4⟩ := h
    refine ⟨h1, h2, h3, fun j v hv => ?_⟩
    obtain ⟨x, h5, h6⟩ := h4 j v hv
    exact ⟨x, h5, dm_v_up hL h6⟩
theorem dm_v_cat {v x : Value} (h : dm_v g L v x) : x.category = dm_cat v := by
  cases v with
  | int => cases (show x = _ from h); rfl
  | long => cases (show x = _ from h); rfl
  | null => cases (show x = _ from h); rfl
  | ref => obtain ⟨a, -, rfl⟩ := h; rfl
  | float => obtain ⟨a, rfl⟩ := h; rfl
  | retAddr => cases (show x = _ from h); rfl
  | double => exact h.elim
theorem dm_st_cons {v : Value} {st sc : List Value} (h : dm_st g L (v :: st) sc) : ∃ x sc', sc = x :: sc' ∧ dm_v g L v x ∧ dm_st g L st sc' := by
  cases sc with
  | nil => exact h.elim
  | cons x sc' => exact ⟨x, sc', rfl, h.1, h.2⟩
theorem dm_st_nil {sc : List Value} (h : dm_st g L [] sc) : sc = [] := by
  cases sc with
  | nil => rfl
  | cons => exact h.elim
theorem dm_st_app : ∀ {a b : List Value} {sc : List Value}, dm_st g L (a ++ b) sc → ∃ c d, sc = c ++ d ∧ dm_st g L a c ∧ dm_st g L b d
  | [], b, sc, h => ⟨[], sc, rfl, trivial, h⟩
  | v :: a, b, sc, h => by
    obtain ⟨x, sc', rfl, h1, h2⟩ := dm_st_cons h
    obtain ⟨c, d, rfl, h3, h4⟩ := dm_st_app h2
    exact ⟨x :: c, d, rfl, ⟨h1, h3⟩, h4⟩
theorem dm_st_join : ∀ {a b c d : List Value}, dm_st g L a c → dm_st g L b d → dm_st g L (a ++ b) (c ++ d)
  | [], _, [], _, _, h => h
  | _ :: _, _, _ :: _, _, h1, h2 => ⟨h1.1, dm_st_join h1.2 h2⟩
  | [], _, _ :: _, _, h, _ => h.elim
  | _ :: _, _, [], _, h, _ => h.elim
theorem dm_st_rev : ∀ {a c : List Value}, dm_st g L a c → dm_st g L a.reverse c.reverse
  | [], [], _ => trivial
  | v :: a, x :: c, h => by
    rw [List.reverse_cons, List.reverse_cons]
    exact dm_st_join (dm_st_rev h.2) ⟨h.1, trivial⟩
  | [], _ :: _, h => h.elim
  | _ :: _, [], h => h.elim
theorem dm_st_len : ∀ {a c : List Value}, dm_st g L a c → c.length = a.length
  | [], [], _ => rfl
  | _ :: _, _ :: _, h => by rw [List.length_cons, List.length_cons, dm_st_len h.2]
  | [], _ :: _, h => h.elim
  | _ :: _, [], h => h.elim
def dm_sum : List Value → Nat
  | [] => 0
  | v :: r => dm_cat v + dm_sum r
theorem dm_st_sum : ∀ {a c : List Value}, dm_st g L a c → (c.map fun v => v.category).sum = dm_sum a
  | [], [], _ => rfl
  | _ :: _, _ :: _, h => by rw [List.map_cons, List.sum_cons, dm_st_sum h.2, dm_v_cat h.1]; rfl
  | [], _ :: _, h => h.elim
  | _ :: _, [], h => h.elim
/-! locals -/
theorem dm_ls_get {nL i : Nat} {ls : List (Option Value)} {lsC : Array Slot} {v : Value} (h : dm_ls g L nL ls lsC) (hi : ls[i]? = some (some v)) : ∃ x, lsC[i]? = some (.val x) ∧ dm_v g L v x := by
  obtain ⟨lv, h1, h2, h3⟩ := h
  obtain ⟨x, h4, h5⟩ := h3 i v hi
  exact ⟨x, h1.2.2 (i, x) h4, h5⟩
/-- a place that one word may go to -/
def dm_fr (ls : List (Option Value)) (i : Nat) : Bool := Nat.blt i ls.length && match i with
  | 0 => true
  | j + 1 => match ls[j]? with
    | some (some (.long _)) => false
    | _ => true
theorem dm_fr_lt {ls : List (Option Value)} {i : Nat} (h : dm_fr ls i = true) : i < ls.length := by
  simp only [dm_fr, Bool.and_eq_true] at h
  exact Nat.blt_eq.mp h.1
theorem dm_fr_no {ls : List (Option Value)} {i j : Nat} (h : dm_fr ls i = true) (hj : j + 1 = i) {x : Int64} : ls[j]? ≠ some (some (.long x)) := by
  subst hj
  intro e
  simp [dm_fr, e] at h
theorem dm_long {v x : Value} (h : dm_v g L v x) (hc : x.category = 2) : ∃ y, v = .long y := by
  rw [dm_v_cat h] at hc
  cases v <;> first | exact ⟨_, rfl⟩ | (simp [dm_cat] at hc)
theorem dm_ls_set1 {nL i : Nat} {ls : List (Option Value)} {lsC' : Array Slot} {lv : List (Nat × Value)} {v x : Value} (h2 : ls.length = nL) (h3 : ∀ (i : Nat) (v : Value), ls[i]? = some (some v) → ∃ x, (i, x) ∈ lv ∧ dm_v g L v x)
    (hf : dm_fr ls i = true) (hv : dm_v g L v x) (h' : lv_has lsC' nL ((i, x) :: lv.filter (fun q => !(q.1 == i) && !(q.1 + 1 == i && q.2.category == 2)))) : dm_ls g L nL (ls.set i (some v)) lsC' := by
  refine ⟨_, h', by rw [List.length_set]; exact h2, fun j u hj => ?_⟩
  rw [List.getElem?_set] at hj
  by_cases e : i = j
  · subst e
    rw [if_pos rfl, if_pos (dm_fr_lt hf)] at hj
    cases hj
    exact ⟨x, List.mem_cons_self, hv⟩
  · rw [if_neg e] at hj
    obtain ⟨y, h4, h5⟩ := h3 j u hj
    refine ⟨y, List.mem_cons_of_mem _ (List.mem_filter.mpr ⟨h4, ?_⟩), h5⟩
    have e1 : (j == i) = false := by simp; exact fun q => e q.symm
    by_cases e2 : j + 1 = i
    · have e3 : (y.category == 2) = false := by
        simp
        intro hc
        obtain ⟨z, rfl⟩ := dm_long h5 hc
        exact dm_fr_no hf e2 hj
      simp [e1, e3]
    · simp [e1, e2]
theorem dm_ls_set2 {nL i : Nat} {ls : List (Option Value)} {lsC' : Array Slot} {lv : List (Nat × Value)} {v x : Value} (h2 : ls.length = nL) (h3 : ∀ (i : Nat) (v : Value), ls[i]? = some (some v) → ∃ x, (i, x) ∈ lv ∧ dm_v g L v x)
    (hf : dm_fr ls i = true) (hv : dm_v g L v x) (h' : lv_has lsC' nL ((i, x) :: lv.filter (fun q => !(q.1 == i) && (!(q.1 == i + 1) && !(q.1 + 1 == i && q.2.category == 2))))) : dm_ls g L nL ((ls.set i (some v)).set (i + 1) none) lsC' := by
  refine ⟨_, h', by rw [List.length_set, List.length_set]; exact h2, fun j u hj => ?_⟩
  rw [List.getElem?_set] at hj
  by_cases e0 : i + 1 = j
  · rw [if_pos e0] at hj
    split at hj <;> cases hj
  rw [if_neg e0, List.getElem?_set] at hj
  by_cases e : i = j
  · subst e
    rw [if_pos rfl, if_pos (dm_fr_lt hf)] at hj
    cases hj
    exact ⟨x, List.mem_cons_self, hv⟩
  · rw [if_neg e] at hj
    obtain ⟨y, h4, h5⟩ := h3 j u hj
    refine ⟨y, List.mem_cons_of_mem _ (List.mem_filter.mpr ⟨h4, ?_⟩), h5⟩
    have e1 : (j == i) = false := by simp; exact fun q => e q.symm
    have e9 : (j == i + 1) = false := by simp; exact fun q => e0 q.symm
    by_cases e2 : j + 1 = i
    · have e3 : (y.category == 2) = false := by
        simp
        intro hc
        obtain ⟨z, rfl⟩ := dm_long h5 hc
        exact dm_fr_no hf e2 hj
      simp [e1, e9, e3]
    · simp [e1, e9, e2]
/-- the locals at the entry -/
def dm_in0 : Nat → List Value → List (Option Value)
  | n, [] => List.replicate n none
  | n, v :: r => match v with
    | .long x => some (.long x) :: none :: dm_in0 (n - 2) r
    | v => some v :: dm_in0 (n - 1) r
def dm_sz : List Value → Nat
  | [] => 0
  | v :: r => dm_cat v + dm_sz r
theorem dm_in0_len : ∀ {av : List Value} {n : Nat}, dm_sz av ≤ n → (dm_in0 n av).length = n
  | [], n, _ => by simp [dm_in0]
  | v :: r, n, h => by
    cases v <;> simp only [dm_sz, dm_cat] at h <;> simp only [dm_in0, List.length_cons] <;> rw [dm_in0_len (by omega)] <;> omega
theorem dm_in0_at : ∀ {av ac : List Value} {n k : Nat}, dm_st g L av ac → ∀ (i : Nat) (v : Value), (dm_in0 n av)[i]? = some (some v) → ∃ x, (k + i, x) ∈ lv_args k ac ∧ dm_v g L v x
  | [], _, n, k, _, i, v, hi => by
    simp only [dm_in0, List.getElem?_replicate] at hi
    split at hi <;> cases hi
  | u :: r, ac, n, k, h, i, v, hi => by
    obtain ⟨x, ac', rfl, h1, h2⟩ := dm_st_cons h
    have hc := dm_v_cat h1
    have step1 : dm_cat u = 1 → (some u :: dm_in0 (n - 1) r)[i]? = some (some v) → ∃ x_1, (k + i, x_1) ∈ lv_args k (x :: ac') ∧ dm_v g L v x_1 := by
      intro hu hi
      cases i with
      | zero =>
        cases (Option.some.inj (Option.some.inj hi))
        exact ⟨x, List.mem_cons_self, h1⟩
      | succ i =>
        obtain ⟨y, h3, h4⟩ := dm_in0_at (k := k + 1) h2 i v hi
        refine ⟨y, List.mem_cons_of_mem _ ?_, h4⟩
        rw [if_neg (by rw [hc, hu]; decide)]
        rw [show k + (i + 1) = k + 1 + i by omega]
        exact h3
    cases u with
    | long z =>
      cases i with
      | zero =>
        cases (Option.some.inj (Option.some.inj hi))
        exact ⟨x, List.mem_cons_self, h1⟩
      | succ i =>
        cases i with
        | zero => simp [dm_in0] at hi
        | succ i =>
          obtain ⟨y, h3, h4⟩ := dm_in0_at (k := k + 2) h2 i v hi
          refine ⟨y, List.mem_cons_of_mem _ ?_, h4⟩
          rw [if_pos (by rw [hc]; rfl)]
          rw [show k + (i + 1 + 1) = k + 2 + i by omega]
          exact h3
    | _ => exact step1 rfl hi
theorem dm_sl_len : ∀ {av ac : List Value}, dm_st g L av ac → (lg_sl ac).length = dm_sz av
  | [], ac, h => by rw [dm_st_nil h]; rfl
  | v :: r, ac, h => by
    obtain ⟨x, ac', rfl, h1, h2⟩ := dm_st_cons h
    have hc := dm_v_cat h1
    have h3 := dm_sl_len h2
    simp only [lg_sl, List.flatMap_cons, List.length_append, dm_sz] at h3 ⊢
    rw [h3, ← hc]
    by_cases e : x.category = 2
    · rw [if_pos e, e]; rfl
    · rw [if_neg e]
      rcases lv_cat x with q | q
      · rw [q]; rfl
      · exact absurd q e
theorem dm_ls_in {av ac : List Value} {n : Nat} (h : dm_st g L av ac) (hn : dm_sz av ≤ n) : dm_ls g L n (dm_in0 n av) ((lg_sl ac ++ List.replicate (n - (lg_sl ac).length) Slot.unset).toArray) := by
  refine ⟨lv_args 0 ac, lv_entry ac (by rw [dm_sl_len h]; exact hn), dm_in0_len hn, fun i v hi => ?_⟩
  have h2 := dm_in0_at (k := 0) h i v hi
  rwa [Nat.zero_add] at h2
/-! heaps -/
theorem dm_h_set {h : dm_H} {ws : va_W} (hh : dm_h g tys L h ws) {i a : Nat} {e : Nat × List Value} {c : va_E} (ha : L[i]? = some a) (he : dm_e g tys L e c) : dm_h g tys L (h.set i e) (ws.set i (a, c)) := by
  obtain ⟨h1, h2, h3⟩ := hh
  refine ⟨by rw [List.length_set]; exact h1, by rw [List.length_set, List.length_set]; exact h2, fun j u hj => ?_⟩
  rw [List.getElem?_set] at hj
  by_cases q : i = j
  · subst q
    rw [if_pos rfl] at hj
    split at hj
    · rename_i hl
      cases hj
      exact ⟨a, c, ha, by rw [List.getElem?_set, if_pos rfl, if_pos (by omega)], he⟩
    · cases hj
  · rw [if_neg q] at hj
    obtain ⟨b, d, k1, k2, k3⟩ := h3 j u hj
    exact ⟨b, d, k1, by rw [List.getElem?_set, if_neg q]; exact k2, k3⟩
theorem dm_h_push {h : dm_H} {ws : va_W} (hh : dm_h g tys L h ws) (hT : ∀ q ∈ tys, q ∈ tys') {a : Nat} {e : Nat × List Value} {c : va_E} (he : dm_e g tys' (L ++ [a]) e c) : dm_h g tys' (L ++ [a]) (h ++ [e]) (ws ++ [(a, c)]) := by
  obtain ⟨h1, h2, h3⟩ := hh
  refine ⟨by rw [List.length_append, List.length_append, h1]; rfl, by rw [List.length_append, List.length_append, h2]; rfl, fun j u hj => ?_⟩
  by_cases q : j < h.length
  · rw [List.getElem?_append_left q] at hj
    obtain ⟨b, d, k1, k2, k3⟩ := h3 j u hj
    exact ⟨b, d, dm_le_app _ _ _ _ k1, by rw [List.getElem?_append_left (by omega)]; exact k2, dm_e_up (dm_le_app _ _) hT k3⟩
  · rw [List.getElem?_append_right (by omega)] at hj
    have e0 : j - h.length = 0 := by
      rcases Nat.eq_zero_or_pos (j - h.length) with z | z
      · exact z
      · rw [List.getElem?_eq_none (by simp only [List.length_cons, List.length_nil]; omega)] at hj; cases hj
    rw [e0] at hj
    cases hj
    exact ⟨a, c, by rw [List.getElem?_append_right (by omega), h1, e0]; rfl, by rw [List.getElem?_append_right (by omega), h2, e0]; rfl, he⟩
end DMR
/-! ===== the machine's step, instruction by instruction ===== -/
def dm_exs : List String := ["java/lang/IndexOutOfBoundsException", "java/lang/IllegalArgumentException", "java/lang/IllegalStateException"]
/-- what lies outside and stays: words, texts, the digits -/
def dm_S (g : Nat → Nat) (A : Nat → Prop) (U : State) (H : Heap) : Prop :=
  (∀ w ∈ dm_N, va_Nw w U) ∧ va_AO "Earlyends$Book" U ∧ va_AOA .int U ∧ vx_Zq Bundle.tN "UNASSIGNED_STACK" Bundle.steD A U H ∧ vx_Zq Bundle.tN "SUPPRESSED_SENTINEL" Bundle.listD A U H ∧
  (∀ q ∈ dm_strs, ∃ a, vk_R q.1 q.2.1 q.2.2 a U) ∧ (∀ E ∈ dm_exs, ∀ F ∈ dm_exs, E ≠ F → va_Nc E F U) ∧ va_Z "java/lang/String" "COMPACT_STRINGS" "Z" (.int 1) A U H ∧
  va_Z "java/lang/Integer" "DigitOnes" "[B" (.ref (g 0)) A U H ∧ va_Z "java/lang/Integer" "DigitTens" "[B" (.ref (g 1)) A U H ∧
  (∃ f : Nat → Int32, va_T .byte (g 0) 100 (fun j => .int (f j)) A U H) ∧ (∃ f : Nat → Int32, va_T .byte (g 1) 100 (fun j => .int (f j)) A U H)
theorem dm_S_go {g : Nat → Nat} {A B : Nat → Prop} {s U : State} {H H1 : Heap} (h : dm_S g A s H) (hW : s.WarmedH U.vm) (hk : ∀ a : Nat, a < H.size → ¬ A a → H1[a]? = H[a]?) (hAB : ∀ q, B q → A q) : dm_S g B U H1 := by
  obtain ⟨h1, h2, h3, h4, h5, h6, h7, h8, h9, h10, ⟨f1, h11⟩, ⟨f2, h12⟩⟩ := h
  have hv := hW.alike
  exact ⟨fun w hw => dm_nw_warm (List.mem_filter.mp hw).2 hW (h1 w hw), va_AO.moved hv h2, dm_AOA_moved hv h3, ((vx_Zq.moved hv h4).kept hk).narrow hAB, ((vx_Zq.moved hv h5).kept hk).narrow hAB,
    fun q hq => by obtain ⟨a, ha⟩ := h6 q hq; exact ⟨a, vk_R.warm hW ha⟩, fun E hE F hF n => va_Nc.moved hv (h7 E hE F hF n), ((va_Z.moved hv h8).kept hk).narrow hAB, ((va_Z.moved hv h9).kept hk).narrow hAB, ((va_Z.moved hv h10).kept hk).narrow hAB,
    ⟨f1, ((va_T.moved hv h11).kept hk).narrow hAB⟩, ⟨f2, ((va_T.moved hv h12).kept hk).narrow hAB⟩⟩
theorem dm_S_same {g : Nat → Nat} {A : Nat → Prop} {s U : State} {H : Heap} (h : dm_S g A s H) (hv : U.vm = s.vm) : dm_S g A U H := by
  obtain ⟨h1, h2, h3, h4, h5, h6, h7, h8, h9, h10, ⟨f1, h11⟩, ⟨f2, h12⟩⟩ := h
  have ha : s.vm.Alike U.vm := by rw [hv]; exact Vm.Alike.refl _
  exact ⟨fun w hw => va_Nw.same (dm_nw_tab (List.mem_filter.mp hw).2) hv.symm (h1 w hw), va_AO.moved ha h2, dm_AOA_moved ha h3, vx_Zq.moved ha h4, vx_Zq.moved ha h5,
    fun q hq => by obtain ⟨a, ha⟩ := h6 q hq; exact ⟨a, vk_R.same hv ha⟩, fun E hE F hF n => va_Nc.moved ha (h7 E hE F hF n), va_Z.moved ha h8, va_Z.moved ha h9, va_Z.moved ha h10, ⟨f1, va_T.moved ha h11⟩, ⟨f2, va_T.moved ha h12⟩⟩
abbrev dm_Ex : Type := (Nat → Nat) → (Nat → Prop) → State → Prop
abbrev dm_Po : Type := va_G → (Nat → Nat) → List Nat → (Nat → Prop) → List Frame → Array Value → State → State → Prop
/-- the method's own standing -/
def dm_K (E : dm_Ex) (l : Launch) (z : Nat) (p : Program) (s : State) (m : MethodId) (args : Array Value) (meth : Method) (c : Code) (g : Nat → Nat) (A : Nat → Prop) : Prop :=
  dm_ok z = true ∧ l.stackTraces = false ∧ p.tables.exec = Jvm.exec ∧ c.code = (dm_m z).2.1 ∧ meth.sig.returnType = (dm_m z).2.2.2.1 ∧ c.maxLocals = (dm_m z).2.2.1 ∧ s.vm.findClass (dm_m z).1.cls = some m.cls ∧
  (∀ w ∈ dm_G, w.before args s = true) ∧ dm_S g A s s.heap ∧ meth.locks = false ∧ c.exceptionTable.toList = tableOf (dm_m z).2.2.2.2 ∧ meth.name = (dm_m z).1.name ∧ (∀ q, s.heap.size ≤ q → A q) ∧ E g A s
/-- the world, as it stands for the heap h -/
def dm_wd (D : va_G) (g : Nat → Nat) (tys : List (ClassId × FieldType)) (L0 L : List Nat) (ws : va_W) (A : Nat → Prop) (s : State) (H : Heap) (locs : List Loc) (h : dm_H) : Prop :=
  dm_le L0 L ∧ va_K D vwCl tys s ∧ va_P D vwCl ws H ∧ va_D A ws ∧ va_S A s.heap H locs ∧ dm_h g tys L h ws
def dm_W (E : dm_Ex) (P : dm_Po) (l : Launch) (z d MC MS : Nat) (pc : Nat) (ls : List (Option Value)) (st : List Value) (h : dm_H) (ce sl : Nat) : Prop :=
  ∀ (p : Program) (e : Env) (s : State) (m : MethodId) (args : Array Value) (below : List Frame) (meth : Method) (c : Code) (D : va_G) (g : Nat → Nat) (tys : List (ClassId × FieldType)) (L0 L : List Nat) (ws : va_W) (A : Nat → Prop) (H : Heap) (locs : List Loc) (lsC : Array Slot) (stC : List Value),
    dm_K E l z p s m args meth c g A → dm_wd D g tys L0 L ws A s H locs h → dm_ls g L (dm_m z).2.2.1 ls lsC → dm_st g L st stC →
    W p l e (dm_R d MC MS) s m args below meth c H locs ce sl (P D g L0 A below args s) (F0 m pc lsC stC)
/-- an exception over the method's frame -/
def dm_T9 (E : dm_Ex) (P : dm_Po) (l : Launch) (z d MC MS : Nat) (X : String) (pc : Nat) (ls : List (Option Value)) (h : dm_H) (ce sl : Nat) : Prop :=
  ∀ (p : Program) (e : Env) (s : State) (m : MethodId) (args : Array Value) (below : List Frame) (meth : Method) (c : Code) (D : va_G) (g : Nat → Nat) (tys : List (ClassId × FieldType)) (L0 L : List Nat) (ws : va_W) (A : Nat → Prop) (H : Heap) (locs : List Loc) (lsC : Array Slot) (stC : List Value) (cx : Cell) (q : Addr),
    dm_K E l z p s m args meth c g A → dm_wd D g tys L0 L ws A s H locs h → dm_ls g L (dm_m z).2.2.1 ls lsC → H[q]? = some cx → cx.vm = .none → s.vm.findClass X = some cx.cls →
    vx_W p l e (dm_R d MC MS) s m args below meth c H locs ce sl (P D g L0 A below args s) (F0 m pc lsC stC) q
abbrev dm_Rs : Type := (Option Value ⊕ String) → dm_H → Prop
def dm_o (g : Nat → Nat) (L : List Nat) : Option Value → Option Value → Prop
  | none, none => True
  | some v, some x => dm_v g L v x
  | _, _ => False
def dm_Q (D : va_G) (g : Nat → Nat) (L0 : List Nat) (A : Nat → Prop) (Q : dm_Rs) : Array Value → State → Outcome → State → Prop := fun _ st o t =>
  (∃ (v x : Option Value) (h : dm_H) (L : List Nat) (tys : List (ClassId × FieldType)) (ws : va_W), o = .returned x ∧ Q (.inl v) h ∧ dm_le L0 L ∧ va_K D vwCl tys t ∧ va_P D vwCl ws t.heap ∧ va_D A ws ∧ dm_h g tys L h ws ∧ dm_o g L v x) ∧ va_F A st t
def dm_X (D : va_G) (g : Nat → Nat) (L0 : List Nat) (A : Nat → Prop) (Q : dm_Rs) : String → State → State → Prop := fun X st t =>
  (∃ (h : dm_H) (L : List Nat) (tys : List (ClassId × FieldType)) (ws : va_W), Q (.inr X) h ∧ dm_le L0 L ∧ va_K D vwCl tys t ∧ va_P D vwCl ws t.heap ∧ va_D A ws ∧ dm_h g tys L h ws) ∧ va_F A st t
def dm_P (Q : dm_Rs) (MC MS : Nat) : dm_Po := fun D g L0 A below args s => vx_MQ below (dm_Q D g L0 A Q) (dm_X D g L0 A Q) args s MC MS A
/-- a method's contract: from the heap h, with arguments av, it ends as Q says -/
def dm_M (l : Launch) (z d mc ms : Nat) (av : List Value) (h : dm_H) (Q : dm_Rs) : Prop :=
  ∀ (D : va_G) (g : Nat → Nat) (tys : List (ClassId × FieldType)) (L : List Nat) (ws : va_W) (sz : Nat) (avC : List Value), dm_h g tys L h ws → dm_st g L av avC →
    vx_Met l (dm_m z).1 (dm_ws z) (dm_R d mc ms) (va_Pc avC (fun U => U.heap.size = sz ∧ va_P D vwCl ws U.heap ∧ va_K D vwCl tys U ∧ va_D (fun _ => True) ws ∧ dm_S g (va_A ws sz) U U.heap)) (dm_Q D g L (va_A ws sz) Q) (dm_X D g L (va_A ws sz) Q) mc ms (va_A ws sz)
section DMW
variable {E : dm_Ex} {P : dm_Po} {l : Launch} {z d MC MS pc ce sl : Nat} {ls : List (Option Value)} {st : List Value} {h : dm_H}

theorem dr_iconst {n : Int} {v : Int32} (hi : dm_at z pc = some (.iconst n, 1, [])) (hv : Int32.ofInt n = v) (kk : dm_W E P l z d MC MS (pc + 1) ls (.int v :: st) h ce sl) : dm_W E P l z d MC MS pc ls st h ce sl := by
  intro p e s m args below meth c D g tys L0 L ws A H locs lsC stC hK hw hls hst
  exact lv_iconst hK.2.2.1 hK.2.2.2.1 (dm_ok_at hK.1 hi).1 hv (kk _ _ _ _ _ _ _ _ _ _ _ _ _ _ _ _ _ _ _ hK hw hls ⟨rfl, hst⟩)
theorem dr_bipush {n : Int} {v : Int32} (hi : dm_at z pc = some (.bipush n, 2, [])) (hv : (Int8.ofInt n).toInt32 = v) (kk : dm_W E P l z d MC MS (pc + 2) ls (.int v :: st) h ce sl) : dm_W E P l z d MC MS pc ls st h ce sl := by
  intro p e s m args below meth c D g tys L0 L ws A H locs lsC stC hK hw hls hst
  exact lv_bipush hK.2.2.1 hK.2.2.2.1 (dm_ok_at hK.1 hi).1 hv (kk _ _ _ _ _ _ _ _ _ _ _ _ _ _ _ _ _ _ _ hK hw hls ⟨rfl, hst⟩)
theorem dr_sipush {n : Int} {v : Int32} (hi : dm_at z pc = some (.sipush n, 3, [])) (hv : (Int16.ofInt n).toInt32 = v) (kk : dm_W E P l z d MC MS (pc + 3) ls (.int v :: st) h ce sl) : dm_W E P l z d MC MS pc ls st h ce sl := by
  intro p e s m args below meth c D g tys L0 L ws A H locs lsC stC hK hw hls hst
  exact lv_sipush hK.2.2.1 hK.2.2.2.1 (dm_ok_at hK.1 hi).1 hv (kk _ _ _ _ _ _ _ _ _ _ _ _ _ _ _ _ _ _ _ hK hw hls ⟨rfl, hst⟩)
theorem dr_lconst {n : Fin 2} {v : Int64} (hi : dm_at z pc = some (.lconst n, 1, [])) (hv : Int64.ofNat (n : Nat) = v) (kk : dm_W E P l z d MC MS (pc + 1) ls (.long v :: st) h ce sl) : dm_W E P l z d MC MS pc ls st h ce sl := by
  intro p e s m args below meth c D g tys L0 L ws A H locs lsC stC hK hw hls hst
  exact lv_lconst hK.2.2.1 hK.2.2.2.1 (dm_ok_at hK.1 hi).1 hv (kk _ _ _ _ _ _ _ _ _ _ _ _ _ _ _ _ _ _ _ hK hw hls ⟨rfl, hst⟩)
theorem dr_ldc2 {idx t v : Nat} (hi : dm_at z pc = some (.ldc2_w idx, 3, [t, v])) (kk : dm_W E P l z d MC MS (pc + 3) ls (.long (Int64.ofNat v) :: st) h ce sl) : dm_W E P l z d MC MS pc ls st h ce sl := by
  intro p e s m args below meth c D g tys L0 L ws A H locs lsC stC hK hw hls hst
  have hd := dm_ok_at hK.1 hi
  exact lv_ldc2 hK.2.2.1 hK.2.2.2.1 hK.2.2.2.2.2.2.1 (hK.2.2.2.2.2.2.2.1 _ (dm_g_mem hd.2)) hd.1 (kk _ _ _ _ _ _ _ _ _ _ _ _ _ _ _ _ _ _ _ hK hw hls ⟨rfl, hst⟩)
theorem dr_iload_n {k : Fin 4} {x : Int32} (hi : dm_at z pc = some (.iload_n k, 1, [])) (hl : ls[(k : Nat)]? = some (some (.int x))) (kk : dm_W E P l z d MC MS (pc + 1) ls (.int x :: st) h ce sl) : dm_W E P l z d MC MS pc ls st h ce sl := by
  intro p e s m args below meth c D g tys L0 L ws A H locs lsC stC hK hw hls hst
  obtain ⟨y, h1, h2⟩ := dm_ls_get hls hl
  have h2 : y = .int x := h2
  subst h2
  exact lv_iload_n hK.2.2.1 hK.2.2.2.1 (dm_ok_at hK.1 hi).1 rfl h1 (kk _ _ _ _ _ _ _ _ _ _ _ _ _ _ _ _ _ _ _ hK hw hls ⟨rfl, hst⟩)
theorem dr_iload {k : Nat} {x : Int32} (hi : dm_at z pc = some (.iload k, 2, [])) (hl : ls[(k : Nat)]? = some (some (.int x))) (kk : dm_W E P l z d MC MS (pc + 2) ls (.int x :: st) h ce sl) : dm_W E P l z d MC MS pc ls st h ce sl := by
  intro p e s m args below meth c D g tys L0 L ws A H locs lsC stC hK hw hls hst
  obtain ⟨y, h1, h2⟩ := dm_ls_get hls hl
  have h2 : y = .int x := h2
  subst h2
  exact lv_iload hK.2.2.1 hK.2.2.2.1 (dm_ok_at hK.1 hi).1 h1 (kk _ _ _ _ _ _ _ _ _ _ _ _ _ _ _ _ _ _ _ hK hw hls ⟨rfl, hst⟩)
theorem dr_lload_n {k : Fin 4} {x : Int64} (hi : dm_at z pc = some (.lload_n k, 1, [])) (hl : ls[(k : Nat)]? = some (some (.long x))) (kk : dm_W E P l z d MC MS (pc + 1) ls (.long x :: st) h ce sl) : dm_W E P l z d MC MS pc ls st h ce sl := by
  intro p e s m args below meth c D g tys L0 L ws A H locs lsC stC hK hw hls hst
  obtain ⟨y, h1, h2⟩ := dm_ls_get hls hl
  have h2 : y = .long x := h2
  subst h2
  exact lv_lload_n hK.2.2.1 hK.2.2.2.1 (dm_ok_at hK.1 hi).1 rfl h1 (kk _ _ _ _ _ _ _ _ _ _ _ _ _ _ _ _ _ _ _ hK hw hls ⟨rfl, hst⟩)
theorem dr_lload {k : Nat} {x : Int64} (hi : dm_at z pc = some (.lload k, 2, [])) (hl : ls[(k : Nat)]? = some (some (.long x))) (kk : dm_W E P l z d MC MS (pc + 2) ls (.long x :: st) h ce sl) : dm_W E P l z d MC MS pc ls st h ce sl := by
  intro p e s m args below meth c D g tys L0 L ws A H locs lsC stC hK hw hls hst
  obtain ⟨y, h1, h2⟩ := dm_ls_get hls hl
  have h2 : y = .long x := h2
  subst h2
  exact lv_lload hK.2.2.1 hK.2.2.2.1 (dm_ok_at hK.1 hi).1 h1 (kk _ _ _ _ _ _ _ _ _ _ _ _ _ _ _ _ _ _ _ hK hw hls ⟨rfl, hst⟩)
theorem dr_aload_n {k : Fin 4} {v : Value} (hi : dm_at z pc = some (.aload_n k, 1, [])) (hl : ls[(k : Nat)]? = some (some v)) (hr : v = .ref (match v with | .ref i => i | _ => 0) ∨ (∃ i, v = .float i) ∨ ∃ i, v = .retAddr i) (kk : dm_W E P l z d MC MS (pc + 1) ls (v :: st) h ce sl) : dm_W E P l z d MC MS pc ls st h ce sl := by
  intro p e s m args below meth c D g tys L0 L ws A H locs lsC stC hK hw hls hst
  obtain ⟨y, h1, h2⟩ := dm_ls_get hls hl
  have h3 : ∃ b, y = .ref b := by
    rcases hr with q | ⟨i, q⟩ | ⟨i, q⟩
    · rw [q] at h2; obtain ⟨b, -, h2⟩ := h2; exact ⟨b, h2⟩
    · rw [q] at h2; exact h2
    · rw [q] at h2; exact ⟨_, h2⟩
  obtain ⟨b, rfl⟩ := h3
  exact lv_aload_n hK.2.2.1 hK.2.2.2.1 (dm_ok_at hK.1 hi).1 rfl h1 (kk _ _ _ _ _ _ _ _ _ _ _ _ _ _ _ _ _ _ _ hK hw hls ⟨h2, hst⟩)
theorem dr_aload {k : Nat} {v : Value} (hi : dm_at z pc = some (.aload k, 2, [])) (hl : ls[(k : Nat)]? = some (some v)) (hr : v = .ref (match v with | .ref i => i | _ => 0) ∨ (∃ i, v = .float i) ∨ ∃ i, v = .retAddr i) (kk : dm_W E P l z d MC MS (pc + 2) ls (v :: st) h ce sl) : dm_W E P l z d MC MS pc ls st h ce sl := by
  intro p e s m args below meth c D g tys L0 L ws A H locs lsC stC hK hw hls hst
  obtain ⟨y, h1, h2⟩ := dm_ls_get hls hl
  have h3 : ∃ b, y = .ref b := by
    rcases hr with q | ⟨i, q⟩ | ⟨i, q⟩
    · rw [q] at h2; obtain ⟨b, -, h2⟩ := h2; exact ⟨b, h2⟩
    · rw [q] at h2; exact h2
    · rw [q] at h2; exact ⟨_, h2⟩
  obtain ⟨b, rfl⟩ := h3
  exact lv_aload hK.2.2.1 hK.2.2.2.1 (dm_ok_at hK.1 hi).1 h1 (kk _ _ _ _ _ _ _ _ _ _ _ _ _ _ _ _ _ _ _ hK hw hls ⟨h2, hst⟩)
theorem dr_istore_n {k : Fin 4} {x : Int32} (hi : dm_at z pc = some (.istore_n k, 1, [])) (hf : dm_fr ls (k : Nat) = true) (kk : dm_W E P l z d MC MS (pc + 1) (ls.set (k : Nat) (some (.int x))) st h ce sl) : dm_W E P l z d MC MS pc ls (.int x :: st) h ce sl := by
  intro p e s m args below meth c D g tys L0 L ws A H locs lsC stC hK hw hls hst
  obtain ⟨y, sc, rfl, hv, hs1⟩ := dm_st_cons hst
  clear hst
  have hst := hs1
  have hv : y = .int x := hv
  subst hv
  obtain ⟨lv, h1, h2, h3⟩ := hls
  exact lv_istore_n hK.2.2.1 hK.2.2.2.1 (dm_ok_at hK.1 hi).1 rfl h1 (by rw [← h2]; exact dm_fr_lt hf) rfl (fun ls9 h9 => kk _ _ _ _ _ _ _ _ _ _ _ _ _ _ _ _ _ _ _ hK hw (dm_ls_set1 h2 h3 hf rfl h9) hst)
theorem dr_istore {k : Nat} {x : Int32} (hi : dm_at z pc = some (.istore k, 2, [])) (hf : dm_fr ls (k : Nat) = true) (kk : dm_W E P l z d MC MS (pc + 2) (ls.set (k : Nat) (some (.int x))) st h ce sl) : dm_W E P l z d MC MS pc ls (.int x :: st) h ce sl := by
  intro p e s m args below meth c D g tys L0 L ws A H locs lsC stC hK hw hls hst
  obtain ⟨y, sc, rfl, hv, hs1⟩ := dm_st_cons hst
  clear hst
  have hst := hs1
  have hv : y = .int x := hv
  subst hv
  obtain ⟨lv, h1, h2, h3⟩ := hls
  exact lv_istore hK.2.2.1 hK.2.2.2.1 (dm_ok_at hK.1 hi).1 h1 (by rw [← h2]; exact dm_fr_lt hf) rfl (fun ls9 h9 => kk _ _ _ _ _ _ _ _ _ _ _ _ _ _ _ _ _ _ _ hK hw (dm_ls_set1 h2 h3 hf rfl h9) hst)
theorem dr_lstore_n {k : Fin 4} {x : Int64} (hi : dm_at z pc = some (.lstore_n k, 1, [])) (hf : dm_fr ls (k : Nat) = true) (hf2 : Nat.blt ((k : Nat) + 1) ls.length = true) (kk : dm_W E P l z d MC MS (pc + 1) ((ls.set (k : Nat) (some (.long x))).set ((k : Nat) + 1) none) st h ce sl) : dm_W E P l z d MC MS pc ls (.long x :: st) h ce sl := by
  intro p e s m args below meth c D g tys L0 L ws A H locs lsC stC hK hw hls hst
  obtain ⟨y, sc, rfl, hv, hs1⟩ := dm_st_cons hst
  clear hst
  have hst := hs1
  have hv : y = .long x := hv
  subst hv
  obtain ⟨lv, h1, h2, h3⟩ := hls
  exact lv_lstore_n hK.2.2.1 hK.2.2.2.1 (dm_ok_at hK.1 hi).1 rfl h1 (by rw [← h2]; exact Nat.blt_eq.mp hf2) rfl (fun ls9 h9 => kk _ _ _ _ _ _ _ _ _ _ _ _ _ _ _ _ _ _ _ hK hw (dm_ls_set2 h2 h3 hf rfl h9) hst)
theorem dr_lstore {k : Nat} {x : Int64} (hi : dm_at z pc = some (.lstore k, 2, [])) (hf : dm_fr ls (k : Nat) = true) (hf2 : Nat.blt ((k : Nat) + 1) ls.length = true) (kk : dm_W E P l z d MC MS (pc + 2) ((ls.set (k : Nat) (some (.long x))).set ((k : Nat) + 1) none) st h ce sl) : dm_W E P l z d MC MS pc ls (.long x :: st) h ce sl := by
  intro p e s m args below meth c D g tys L0 L ws A H locs lsC stC hK hw hls hst
  obtain ⟨y, sc, rfl, hv, hs1⟩ := dm_st_cons hst
  clear hst
  have hst := hs1
  have hv : y = .long x := hv
  subst hv
  obtain ⟨lv, h1, h2, h3⟩ := hls
  exact lv_lstore hK.2.2.1 hK.2.2.2.1 (dm_ok_at hK.1 hi).1 h1 (by rw [← h2]; exact Nat.blt_eq.mp hf2) rfl (fun ls9 h9 => kk _ _ _ _ _ _ _ _ _ _ _ _ _ _ _ _ _ _ _ hK hw (dm_ls_set2 h2 h3 hf rfl h9) hst)
theorem dr_astore_n {k : Fin 4} {v : Value} (hi : dm_at z pc = some (.astore_n k, 1, [])) (hf : dm_fr ls (k : Nat) = true) (hr : v = .ref (match v with | .ref i => i | _ => 0) ∨ (∃ i, v = .float i) ∨ ∃ i, v = .retAddr i) (kk : dm_W E P l z d MC MS (pc + 1) (ls.set (k : Nat) (some v)) st h ce sl) : dm_W E P l z d MC MS pc ls (v :: st) h ce sl := by
  intro p e s m args below meth c D g tys L0 L ws A H locs lsC stC hK hw hls hst
  obtain ⟨y, sc, rfl, hv, hs1⟩ := dm_st_cons hst
  clear hst
  have hst := hs1
  have h8 : ∃ b, y = .ref b := by
    rcases hr with q | ⟨i, q⟩ | ⟨i, q⟩
    · rw [q] at hv; obtain ⟨b, -, hv⟩ := hv; exact ⟨b, hv⟩
    · rw [q] at hv; exact hv
    · rw [q] at hv; exact ⟨_, hv⟩
  obtain ⟨b, rfl⟩ := h8
  obtain ⟨lv, h1, h2, h3⟩ := hls
  exact lv_astore_n hK.2.2.1 hK.2.2.2.1 (dm_ok_at hK.1 hi).1 rfl h1 (by rw [← h2]; exact dm_fr_lt hf) rfl (fun ls9 h9 => kk _ _ _ _ _ _ _ _ _ _ _ _ _ _ _ _ _ _ _ hK hw (dm_ls_set1 h2 h3 hf hv h9) hst)
theorem dr_astore {k : Nat} {v : Value} (hi : dm_at z pc = some (.astore k, 2, [])) (hf : dm_fr ls (k : Nat) = true) (hr : v = .ref (match v with | .ref i => i | _ => 0) ∨ (∃ i, v = .float i) ∨ ∃ i, v = .retAddr i) (kk : dm_W E P l z d MC MS (pc + 2) (ls.set (k : Nat) (some v)) st h ce sl) : dm_W E P l z d MC MS pc ls (v :: st) h ce sl := by
  intro p e s m args below meth c D g tys L0 L ws A H locs lsC stC hK hw hls hst
  obtain ⟨y, sc, rfl, hv, hs1⟩ := dm_st_cons hst
  clear hst
  have hst := hs1
  have h8 : ∃ b, y = .ref b := by
    rcases hr with q | ⟨i, q⟩ | ⟨i, q⟩
    · rw [q] at hv; obtain ⟨b, -, hv⟩ := hv; exact ⟨b, hv⟩
    · rw [q] at hv; exact hv
    · rw [q] at hv; exact ⟨_, hv⟩
  obtain ⟨b, rfl⟩ := h8
  obtain ⟨lv, h1, h2, h3⟩ := hls
  exact lv_astore hK.2.2.1 hK.2.2.2.1 (dm_ok_at hK.1 hi).1 h1 (by rw [← h2]; exact dm_fr_lt hf) rfl (fun ls9 h9 => kk _ _ _ _ _ _ _ _ _ _ _ _ _ _ _ _ _ _ _ hK hw (dm_ls_set1 h2 h3 hf hv h9) hst)
theorem dr_iinc {i : Nat} {n : Int} {x v : Int32} (hi : dm_at z pc = some (.iinc i n, 3, [])) (hl : ls[i]? = some (some (.int x))) (hv : x + Int32.ofInt n = v) (hf : dm_fr ls i = true) (kk : dm_W E P l z d MC MS (pc + 3) (ls.set i (some (.int v))) st h ce sl) : dm_W E P l z d MC MS pc ls st h ce sl := by
  intro p e s m args below meth c D g tys L0 L ws A H locs lsC stC hK hw hls hst
  obtain ⟨lv, h1, h2, h3⟩ := hls
  obtain ⟨y, h4, h5⟩ := h3 i _ hl
  have h5 : y = .int x := h5
  subst h5
  obtain ⟨k, h6⟩ := List.getElem?_of_mem h4
  exact lv_iinc hK.2.2.1 hK.2.2.2.1 (dm_ok_at hK.1 hi).1 h1 h6 hv (by rw [← h2]; exact dm_fr_lt hf) rfl (fun ls9 h9 => kk _ _ _ _ _ _ _ _ _ _ _ _ _ _ _ _ _ _ _ hK hw (dm_ls_set1 h2 h3 hf rfl h9) hst)
theorem dr_iadd {x y v : Int32} (hi : dm_at z pc = some (.iadd, 1, [])) (he : x + y = v) (kk : dm_W E P l z d MC MS (pc + 1) ls (.int v :: st) h ce sl) : dm_W E P l z d MC MS pc ls (.int y :: .int x :: st) h ce sl := by
  intro p e s m args below meth c D g tys L0 L ws A H locs lsC stC hK hw hls hst
  obtain ⟨y9, sc, rfl, hv, hs1⟩ := dm_st_cons hst
  clear hst
  have hv : y9 = .int y := hv
  subst hv
  obtain ⟨y8, sc, rfl, hv2, hst⟩ := dm_st_cons hs1
  have hv2 : y8 = .int x := hv2
  subst hv2
  subst he
  exact lv_iadd hK.2.2.1 hK.2.2.2.1 (dm_ok_at hK.1 hi).1 (kk _ _ _ _ _ _ _ _ _ _ _ _ _ _ _ _ _ _ _ hK hw hls ⟨rfl, hst⟩)
theorem dr_isub {x y v : Int32} (hi : dm_at z pc = some (.isub, 1, [])) (he : x - y = v) (kk : dm_W E P l z d MC MS (pc + 1) ls (.int v :: st) h ce sl) : dm_W E P l z d MC MS pc ls (.int y :: .int x :: st) h ce sl := by
  intro p e s m args below meth c D g tys L0 L ws A H locs lsC stC hK hw hls hst
  obtain ⟨y9, sc, rfl, hv, hs1⟩ := dm_st_cons hst
  clear hst
  have hv : y9 = .int y := hv
  subst hv
  obtain ⟨y8, sc, rfl, hv2, hst⟩ := dm_st_cons hs1
  have hv2 : y8 = .int x := hv2
  subst hv2
  subst he
  exact lv_isub hK.2.2.1 hK.2.2.2.1 (dm_ok_at hK.1 hi).1 (kk _ _ _ _ _ _ _ _ _ _ _ _ _ _ _ _ _ _ _ hK hw hls ⟨rfl, hst⟩)
theorem dr_imul {x y v : Int32} (hi : dm_at z pc = some (.imul, 1, [])) (he : x * y = v) (kk : dm_W E P l z d MC MS (pc + 1) ls (.int v :: st) h ce sl) : dm_W E P l z d MC MS pc ls (.int y :: .int x :: st) h ce sl := by
  intro p e s m args below meth c D g tys L0 L ws A H locs lsC stC hK hw hls hst
  obtain ⟨y9, sc, rfl, hv, hs1⟩ := dm_st_cons hst
  clear hst
  have hv : y9 = .int y := hv
  subst hv
  obtain ⟨y8, sc, rfl, hv2, hst⟩ := dm_st_cons hs1
  have hv2 : y8 = .int x := hv2
  subst hv2
  subst he
  exact lv_imul hK.2.2.1 hK.2.2.2.1 (dm_ok_at hK.1 hi).1 (kk _ _ _ _ _ _ _ _ _ _ _ _ _ _ _ _ _ _ _ hK hw hls ⟨rfl, hst⟩)
theorem dr_iand {x y v : Int32} (hi : dm_at z pc = some (.iand, 1, [])) (he : x &&& y = v) (kk : dm_W E P l z d MC MS (pc + 1) ls (.int v :: st) h ce sl) : dm_W E P l z d MC MS pc ls (.int y :: .int x :: st) h ce sl := by
  intro p e s m args below meth c D g tys L0 L ws A H locs lsC stC hK hw hls hst
  obtain ⟨y9, sc, rfl, hv, hs1⟩ := dm_st_cons hst
  clear hst
  have hv : y9 = .int y := hv
  subst hv
  obtain ⟨y8, sc, rfl, hv2, hst⟩ := dm_st_cons hs1
  have hv2 : y8 = .int x := hv2
  subst hv2
  subst he
  exact lv_iand hK.2.2.1 hK.2.2.2.1 (dm_ok_at hK.1 hi).1 (kk _ _ _ _ _ _ _ _ _ _ _ _ _ _ _ _ _ _ _ hK hw hls ⟨rfl, hst⟩)
theorem dr_ior {x y v : Int32} (hi : dm_at z pc = some (.ior, 1, [])) (he : x ||| y = v) (kk : dm_W E P l z d MC MS (pc + 1) ls (.int v :: st) h ce sl) : dm_W E P l z d MC MS pc ls (.int y :: .int x :: st) h ce sl := by
  intro p e s m args below meth c D g tys L0 L ws A H locs lsC stC hK hw hls hst
  obtain ⟨y9, sc, rfl, hv, hs1⟩ := dm_st_cons hst
  clear hst
  have hv : y9 = .int y := hv
  subst hv
  obtain ⟨y8, sc, rfl, hv2, hst⟩ := dm_st_cons hs1
  have hv2 : y8 = .int x := hv2
  subst hv2
  subst he
  exact lv_ior hK.2.2.1 hK.2.2.2.1 (dm_ok_at hK.1 hi).1 (kk _ _ _ _ _ _ _ _ _ _ _ _ _ _ _ _ _ _ _ hK hw hls ⟨rfl, hst⟩)
theorem dr_ixor {x y v : Int32} (hi : dm_at z pc = some (.ixor, 1, [])) (he : x ^^^ y = v) (kk : dm_W E P l z d MC MS (pc + 1) ls (.int v :: st) h ce sl) : dm_W E P l z d MC MS pc ls (.int y :: .int x :: st) h ce sl := by
  intro p e s m args below meth c D g tys L0 L ws A H locs lsC stC hK hw hls hst
  obtain ⟨y9, sc, rfl, hv, hs1⟩ := dm_st_cons hst
  clear hst
  have hv : y9 = .int y := hv
  subst hv
  obtain ⟨y8, sc, rfl, hv2, hst⟩ := dm_st_cons hs1
  have hv2 : y8 = .int x := hv2
  subst hv2
  subst he
  exact lv_ixor hK.2.2.1 hK.2.2.2.1 (dm_ok_at hK.1 hi).1 (kk _ _ _ _ _ _ _ _ _ _ _ _ _ _ _ _ _ _ _ hK hw hls ⟨rfl, hst⟩)
theorem dr_ishl {x y v : Int32} (hi : dm_at z pc = some (.ishl, 1, [])) (he : x <<< (y &&& 31) = v) (kk : dm_W E P l z d MC MS (pc + 1) ls (.int v :: st) h ce sl) : dm_W E P l z d MC MS pc ls (.int y :: .int x :: st) h ce sl := by
  intro p e s m args below meth c D g tys L0 L ws A H locs lsC stC hK hw hls hst
  obtain ⟨y9, sc, rfl, hv, hs1⟩ := dm_st_cons hst
  clear hst
  have hv : y9 = .int y := hv
  subst hv
  obtain ⟨y8, sc, rfl, hv2, hst⟩ := dm_st_cons hs1
  have hv2 : y8 = .int x := hv2
  subst hv2
  subst he
  exact lv_ishl hK.2.2.1 hK.2.2.2.1 (dm_ok_at hK.1 hi).1 (kk _ _ _ _ _ _ _ _ _ _ _ _ _ _ _ _ _ _ _ hK hw hls ⟨rfl, hst⟩)
theorem dr_ishr {x y v : Int32} (hi : dm_at z pc = some (.ishr, 1, [])) (he : x >>> (y &&& 31) = v) (kk : dm_W E P l z d MC MS (pc + 1) ls (.int v :: st) h ce sl) : dm_W E P l z d MC MS pc ls (.int y :: .int x :: st) h ce sl := by
  intro p e s m args below meth c D g tys L0 L ws A H locs lsC stC hK hw hls hst
  obtain ⟨y9, sc, rfl, hv, hs1⟩ := dm_st_cons hst
  clear hst
  have hv : y9 = .int y := hv
  subst hv
  obtain ⟨y8, sc, rfl, hv2, hst⟩ := dm_st_cons hs1
  have hv2 : y8 = .int x := hv2
  subst hv2
  subst he
  exact lv_ishr hK.2.2.1 hK.2.2.2.1 (dm_ok_at hK.1 hi).1 (kk _ _ _ _ _ _ _ _ _ _ _ _ _ _ _ _ _ _ _ hK hw hls ⟨rfl, hst⟩)
theorem dr_ladd {x y v : Int64} (hi : dm_at z pc = some (.ladd, 1, [])) (he : x + y = v) (kk : dm_W E P l z d MC MS (pc + 1) ls (.long v :: st) h ce sl) : dm_W E P l z d MC MS pc ls (.long y :: .long x :: st) h ce sl := by
  intro p e s m args below meth c D g tys L0 L ws A H locs lsC stC hK hw hls hst
  obtain ⟨y9, sc, rfl, hv, hs1⟩ := dm_st_cons hst
  clear hst
  have hv : y9 = .long y := hv
  subst hv
  obtain ⟨y8, sc, rfl, hv2, hst⟩ := dm_st_cons hs1
  have hv2 : y8 = .long x := hv2
  subst hv2
  subst he
  exact lv_ladd hK.2.2.1 hK.2.2.2.1 (dm_ok_at hK.1 hi).1 (kk _ _ _ _ _ _ _ _ _ _ _ _ _ _ _ _ _ _ _ hK hw hls ⟨rfl, hst⟩)
theorem dr_lmul {x y v : Int64} (hi : dm_at z pc = some (.lmul, 1, [])) (he : x * y = v) (kk : dm_W E P l z d MC MS (pc + 1) ls (.long v :: st) h ce sl) : dm_W E P l z d MC MS pc ls (.long y :: .long x :: st) h ce sl := by
  intro p e s m args below meth c D g tys L0 L ws A H locs lsC stC hK hw hls hst
  obtain ⟨y9, sc, rfl, hv, hs1⟩ := dm_st_cons hst
  clear hst
  have hv : y9 = .long y := hv
  subst hv
  obtain ⟨y8, sc, rfl, hv2, hst⟩ := dm_st_cons hs1
  have hv2 : y8 = .long x := hv2
  subst hv2
  subst he
  exact lv_lmul hK.2.2.1 hK.2.2.2.1 (dm_ok_at hK.1 hi).1 (kk _ _ _ _ _ _ _ _ _ _ _ _ _ _ _ _ _ _ _ hK hw hls ⟨rfl, hst⟩)
theorem dr_idiv {x y v : Int32} (hi : dm_at z pc = some (.idiv, 1, [])) (hn : ¬ y = 0) (he : x / y = v) (kk : dm_W E P l z d MC MS (pc + 1) ls (.int v :: st) h ce sl) : dm_W E P l z d MC MS pc ls (.int y :: .int x :: st) h ce sl := by
  intro p e s m args below meth c D g tys L0 L ws A H locs lsC stC hK hw hls hst
  obtain ⟨y9, sc, rfl, hv, hs1⟩ := dm_st_cons hst
  clear hst
  have hv : y9 = .int y := hv
  subst hv
  obtain ⟨y8, sc, rfl, hv2, hst⟩ := dm_st_cons hs1
  have hv2 : y8 = .int x := hv2
  subst hv2
  subst he
  exact lv_idiv hK.2.2.1 hK.2.2.2.1 (dm_ok_at hK.1 hi).1 hn (kk _ _ _ _ _ _ _ _ _ _ _ _ _ _ _ _ _ _ _ hK hw hls ⟨rfl, hst⟩)
theorem dr_irem {x y v : Int32} (hi : dm_at z pc = some (.irem, 1, [])) (hn : ¬ y = 0) (he : x - x / y * y = v) (kk : dm_W E P l z d MC MS (pc + 1) ls (.int v :: st) h ce sl) : dm_W E P l z d MC MS pc ls (.int y :: .int x :: st) h ce sl := by
  intro p e s m args below meth c D g tys L0 L ws A H locs lsC stC hK hw hls hst
  obtain ⟨y9, sc, rfl, hv, hs1⟩ := dm_st_cons hst
  clear hst
  have hv : y9 = .int y := hv
  subst hv
  obtain ⟨y8, sc, rfl, hv2, hst⟩ := dm_st_cons hs1
  have hv2 : y8 = .int x := hv2
  subst hv2
  subst he
  exact lv_irem hK.2.2.1 hK.2.2.2.1 (dm_ok_at hK.1 hi).1 hn (kk _ _ _ _ _ _ _ _ _ _ _ _ _ _ _ _ _ _ _ hK hw hls ⟨rfl, hst⟩)
theorem dr_iushr {x y v : Int32} (hi : dm_at z pc = some (.iushr, 1, [])) (he : (x.toUInt32 >>> (y.toUInt32 &&& Int32.toUInt32 31)).toInt32 = v) (kk : dm_W E P l z d MC MS (pc + 1) ls (.int v :: st) h ce sl) : dm_W E P l z d MC MS pc ls (.int y :: .int x :: st) h ce sl := by
  intro p e s m args below meth c D g tys L0 L ws A H locs lsC stC hK hw hls hst
  obtain ⟨y9, sc, rfl, hv, hs1⟩ := dm_st_cons hst
  clear hst
  have hv : y9 = .int y := hv
  subst hv
  obtain ⟨y8, sc, rfl, hv2, hst⟩ := dm_st_cons hs1
  have hv2 : y8 = .int x := hv2
  subst hv2
  exact lv_iushr hK.2.2.1 hK.2.2.2.1 (dm_ok_at hK.1 hi).1 he (kk _ _ _ _ _ _ _ _ _ _ _ _ _ _ _ _ _ _ _ hK hw hls ⟨rfl, hst⟩)
theorem dr_ineg {x v : Int32} (hi : dm_at z pc = some (.ineg, 1, [])) (he : -x = v) (kk : dm_W E P l z d MC MS (pc + 1) ls (.int v :: st) h ce sl) : dm_W E P l z d MC MS pc ls (.int x :: st) h ce sl := by
  intro p e s m args below meth c D g tys L0 L ws A H locs lsC stC hK hw hls hst
  obtain ⟨y9, sc, rfl, hv, hs1⟩ := dm_st_cons hst
  clear hst
  have hst := hs1
  have hv : y9 = .int x := hv
  subst hv
  subst he
  exact lv_ineg hK.2.2.1 hK.2.2.2.1 (dm_ok_at hK.1 hi).1 (kk _ _ _ _ _ _ _ _ _ _ _ _ _ _ _ _ _ _ _ hK hw hls ⟨rfl, hst⟩)
theorem dr_i2l {x : Int32} {v : Int64} (hi : dm_at z pc = some (.i2l, 1, [])) (he : x.toInt64 = v) (kk : dm_W E P l z d MC MS (pc + 1) ls (.long v :: st) h ce sl) : dm_W E P l z d MC MS pc ls (.int x :: st) h ce sl := by
  intro p e s m args below meth c D g tys L0 L ws A H locs lsC stC hK hw hls hst
  obtain ⟨y9, sc, rfl, hv, hs1⟩ := dm_st_cons hst
  clear hst
  have hst := hs1
  have hv : y9 = .int x := hv
  subst hv
  exact lv_i2l hK.2.2.1 hK.2.2.2.1 (dm_ok_at hK.1 hi).1 he (kk _ _ _ _ _ _ _ _ _ _ _ _ _ _ _ _ _ _ _ hK hw hls ⟨rfl, hst⟩)
theorem dr_i2b {x v : Int32} (hi : dm_at z pc = some (.i2b, 1, [])) (he : x.toInt8.toInt32 = v) (kk : dm_W E P l z d MC MS (pc + 1) ls (.int v :: st) h ce sl) : dm_W E P l z d MC MS pc ls (.int x :: st) h ce sl := by
  intro p e s m args below meth c D g tys L0 L ws A H locs lsC stC hK hw hls hst
  obtain ⟨y9, sc, rfl, hv, hs1⟩ := dm_st_cons hst
  clear hst
  have hst := hs1
  have hv : y9 = .int x := hv
  subst hv
  exact lv_i2b hK.2.2.1 hK.2.2.2.1 (dm_ok_at hK.1 hi).1 he (kk _ _ _ _ _ _ _ _ _ _ _ _ _ _ _ _ _ _ _ hK hw hls ⟨rfl, hst⟩)
theorem dr_dup {v : Value} (hi : dm_at z pc = some (.dup, 1, [])) (hc : dm_cat v = 1) (kk : dm_W E P l z d MC MS (pc + 1) ls (v :: v :: st) h ce sl) : dm_W E P l z d MC MS pc ls (v :: st) h ce sl := by
  intro p e s m args below meth c D g tys L0 L ws A H locs lsC stC hK hw hls hst
  obtain ⟨y, sc, rfl, hv, hs1⟩ := dm_st_cons hst
  clear hst
  have hst := hs1
  exact lv_dup hK.2.2.1 hK.2.2.2.1 (dm_ok_at hK.1 hi).1 ((dm_v_cat hv).trans hc) (kk _ _ _ _ _ _ _ _ _ _ _ _ _ _ _ _ _ _ _ hK hw hls ⟨hv, hv, hst⟩)
theorem dr_pop {v : Value} (hi : dm_at z pc = some (.pop, 1, [])) (hc : dm_cat v = 1) (kk : dm_W E P l z d MC MS (pc + 1) ls st h ce sl) : dm_W E P l z d MC MS pc ls (v :: st) h ce sl := by
  intro p e s m args below meth c D g tys L0 L ws A H locs lsC stC hK hw hls hst
  obtain ⟨y, sc, rfl, hv, hs1⟩ := dm_st_cons hst
  clear hst
  have hst := hs1
  exact lv_pop hK.2.2.1 hK.2.2.2.1 (dm_ok_at hK.1 hi).1 ((dm_v_cat hv).trans hc) (kk _ _ _ _ _ _ _ _ _ _ _ _ _ _ _ _ _ _ _ hK hw hls hst)
theorem dr_pop2 {v : Value} (hi : dm_at z pc = some (.pop2, 1, [])) (hc : dm_cat v = 2) (kk : dm_W E P l z d MC MS (pc + 1) ls st h ce sl) : dm_W E P l z d MC MS pc ls (v :: st) h ce sl := by
  intro p e s m args below meth c D g tys L0 L ws A H locs lsC stC hK hw hls hst
  obtain ⟨y, sc, rfl, hv, hs1⟩ := dm_st_cons hst
  clear hst
  have hst := hs1
  exact lv_pop2_2 hK.2.2.1 hK.2.2.2.1 (dm_ok_at hK.1 hi).1 ((dm_v_cat hv).trans hc) (kk _ _ _ _ _ _ _ _ _ _ _ _ _ _ _ _ _ _ _ hK hw hls hst)
theorem dr_dup2 {v u : Value} (hi : dm_at z pc = some (.dup2, 1, [])) (hc : dm_cat v = 1) (hc2 : dm_cat u = 1) (kk : dm_W E P l z d MC MS (pc + 1) ls (v :: u :: v :: u :: st) h ce sl) : dm_W E P l z d MC MS pc ls (v :: u :: st) h ce sl := by
  intro p e s m args below meth c D g tys L0 L ws A H locs lsC stC hK hw hls hst
  obtain ⟨y, sc, rfl, hv, hs1⟩ := dm_st_cons hst
  clear hst
  obtain ⟨y2, sc, rfl, hu, hst⟩ := dm_st_cons hs1
  exact lv_dup2_11 hK.2.2.1 hK.2.2.2.1 (dm_ok_at hK.1 hi).1 ((dm_v_cat hv).trans hc) ((dm_v_cat hu).trans hc2) (kk _ _ _ _ _ _ _ _ _ _ _ _ _ _ _ _ _ _ _ hK hw hls ⟨hv, hu, hv, hu, hst⟩)
theorem dr_dup_x1 {v u : Value} (hi : dm_at z pc = some (.dup_x1, 1, [])) (hc : dm_cat v = 1) (hc2 : dm_cat u = 1) (kk : dm_W E P l z d MC MS (pc + 1) ls (v :: u :: v :: st) h ce sl) : dm_W E P l z d MC MS pc ls (v :: u :: st) h ce sl := by
  intro p e s m args below meth c D g tys L0 L ws A H locs lsC stC hK hw hls hst
  obtain ⟨y, sc, rfl, hv, hs1⟩ := dm_st_cons hst
  clear hst
  obtain ⟨y2, sc, rfl, hu, hst⟩ := dm_st_cons hs1
  exact lv_dup_x1 hK.2.2.1 hK.2.2.2.1 (dm_ok_at hK.1 hi).1 ((dm_v_cat hv).trans hc) ((dm_v_cat hu).trans hc2) (kk _ _ _ _ _ _ _ _ _ _ _ _ _ _ _ _ _ _ _ hK hw hls ⟨hv, hu, hv, hst⟩)
theorem dr_if_eq {x : Int32} {off : Int} {tgt : Nat} (hi : dm_at z pc = some (.ifCond .eq off, 3, [tgt])) (ht : (pc : Int) + off = (tgt : Int)) (kt : x = 0 → dm_W E P l z d MC MS tgt ls st h ce sl) (kf : ¬ x = 0 → dm_W E P l z d MC MS (pc + 3) ls st h ce sl) : dm_W E P l z d MC MS pc ls (.int x :: st) h ce sl := by
  intro p e s m args below meth c D g tys L0 L ws A H locs lsC stC hK hw hls hst
  obtain ⟨y9, sc, rfl, hv, hs1⟩ := dm_st_cons hst
  clear hst
  have hst := hs1
  have hv : y9 = .int x := hv
  subst hv
  exact lv_if_eq hK.2.2.1 hK.2.2.2.1 (dm_ok_at hK.1 hi).1 ht (fun q => kt q _ _ _ _ _ _ _ _ _ _ _ _ _ _ _ _ _ _ _ hK hw hls hst) (fun q => kf q _ _ _ _ _ _ _ _ _ _ _ _ _ _ _ _ _ _ _ hK hw hls hst)
theorem dr_icmp_eq {x y : Int32} {off : Int} {tgt : Nat} (hi : dm_at z pc = some (.if_icmp .eq off, 3, [tgt])) (ht : (pc : Int) + off = (tgt : Int)) (kt : x = y → dm_W E P l z d MC MS tgt ls st h ce sl) (kf : ¬ x = y → dm_W E P l z d MC MS (pc + 3) ls st h ce sl) : dm_W E P l z d MC MS pc ls (.int y :: .int x :: st) h ce sl := by
  intro p e s m args below meth c D g tys L0 L ws A H locs lsC stC hK hw hls hst
  obtain ⟨y9, sc, rfl, hv, hs1⟩ := dm_st_cons hst
  clear hst
  have hv : y9 = .int y := hv
  subst hv
  obtain ⟨y8, sc, rfl, hv2, hst⟩ := dm_st_cons hs1
  have hv2 : y8 = .int x := hv2
  subst hv2
  exact lv_icmp_eq hK.2.2.1 hK.2.2.2.1 (dm_ok_at hK.1 hi).1 ht (fun q => kt q _ _ _ _ _ _ _ _ _ _ _ _ _ _ _ _ _ _ _ hK hw hls hst) (fun q => kf q _ _ _ _ _ _ _ _ _ _ _ _ _ _ _ _ _ _ _ hK hw hls hst)
theorem dr_if_ne {x : Int32} {off : Int} {tgt : Nat} (hi : dm_at z pc = some (.ifCond .ne off, 3, [tgt])) (ht : (pc : Int) + off = (tgt : Int)) (kt : ¬ x = 0 → dm_W E P l z d MC MS tgt ls st h ce sl) (kf : x = 0 → dm_W E P l z d MC MS (pc + 3) ls st h ce sl) : dm_W E P l z d MC MS pc ls (.int x :: st) h ce sl := by
  intro p e s m args below meth c D g tys L0 L ws A H locs lsC stC hK hw hls hst
  obtain ⟨y9, sc, rfl, hv, hs1⟩ := dm_st_cons hst
  clear hst
  have hst := hs1
  have hv : y9 = .int x := hv
  subst hv
  exact lv_if_ne hK.2.2.1 hK.2.2.2.1 (dm_ok_at hK.1 hi).1 ht (fun q => kt q _ _ _ _ _ _ _ _ _ _ _ _ _ _ _ _ _ _ _ hK hw hls hst) (fun q => kf q _ _ _ _ _ _ _ _ _ _ _ _ _ _ _ _ _ _ _ hK hw hls hst)
theorem dr_icmp_ne {x y : Int32} {off : Int} {tgt : Nat} (hi : dm_at z pc = some (.if_icmp .ne off, 3, [tgt])) (ht : (pc : Int) + off = (tgt : Int)) (kt : ¬ x = y → dm_W E P l z d MC MS tgt ls st h ce sl) (kf : x = y → dm_W E P l z d MC MS (pc + 3) ls st h ce sl) : dm_W E P l z d MC MS pc ls (.int y :: .int x :: st) h ce sl := by
  intro p e s m args below meth c D g tys L0 L ws A H locs lsC stC hK hw hls hst
  obtain ⟨y9, sc, rfl, hv, hs1⟩ := dm_st_cons hst
  clear hst
  have hv : y9 = .int y := hv
  subst hv
  obtain ⟨y8, sc, rfl, hv2, hst⟩ := dm_st_cons hs1
  have hv2 : y8 = .int x := hv2
  subst hv2
  exact lv_icmp_ne hK.2.2.1 hK.2.2.2.1 (dm_ok_at hK.1 hi).1 ht (fun q => kt q _ _ _ _ _ _ _ _ _ _ _ _ _ _ _ _ _ _ _ hK hw hls hst) (fun q => kf q _ _ _ _ _ _ _ _ _ _ _ _ _ _ _ _ _ _ _ hK hw hls hst)
theorem dr_if_lt {x : Int32} {off : Int} {tgt : Nat} (hi : dm_at z pc = some (.ifCond .lt off, 3, [tgt])) (ht : (pc : Int) + off = (tgt : Int)) (kt : x < 0 → dm_W E P l z d MC MS tgt ls st h ce sl) (kf : ¬ x < 0 → dm_W E P l z d MC MS (pc + 3) ls st h ce sl) : dm_W E P l z d MC MS pc ls (.int x :: st) h ce sl := by
  intro p e s m args below meth c D g tys L0 L ws A H locs lsC stC hK hw hls hst
  obtain ⟨y9, sc, rfl, hv, hs1⟩ := dm_st_cons hst
  clear hst
  have hst := hs1
  have hv : y9 = .int x := hv
  subst hv
  exact lv_if_lt hK.2.2.1 hK.2.2.2.1 (dm_ok_at hK.1 hi).1 ht (fun q => kt q _ _ _ _ _ _ _ _ _ _ _ _ _ _ _ _ _ _ _ hK hw hls hst) (fun q => kf q _ _ _ _ _ _ _ _ _ _ _ _ _ _ _ _ _ _ _ hK hw hls hst)
theorem dr_icmp_lt {x y : Int32} {off : Int} {tgt : Nat} (hi : dm_at z pc = some (.if_icmp .lt off, 3, [tgt])) (ht : (pc : Int) + off = (tgt : Int)) (kt : x < y → dm_W E P l z d MC MS tgt ls st h ce sl) (kf : ¬ x < y → dm_W E P l z d MC MS (pc + 3) ls st h ce sl) : dm_W E P l z d MC MS pc ls (.int y :: .int x :: st) h ce sl := by
  intro p e s m args below meth c D g tys L0 L ws A H locs lsC stC hK hw hls hst
  obtain ⟨y9, sc, rfl, hv, hs1⟩ := dm_st_cons hst
  clear hst
  have hv : y9 = .int y := hv
  subst hv
  obtain ⟨y8, sc, rfl, hv2, hst⟩ := dm_st_cons hs1
  have hv2 : y8 = .int x := hv2
  subst hv2
  exact lv_icmp_lt hK.2.2.1 hK.2.2.2.1 (dm_ok_at hK.1 hi).1 ht (fun q => kt q _ _ _ _ _ _ _ _ _ _ _ _ _ _ _ _ _ _ _ hK hw hls hst) (fun q => kf q _ _ _ _ _ _ _ _ _ _ _ _ _ _ _ _ _ _ _ hK hw hls hst)
theorem dr_if_ge {x : Int32} {off : Int} {tgt : Nat} (hi : dm_at z pc = some (.ifCond .ge off, 3, [tgt])) (ht : (pc : Int) + off = (tgt : Int)) (kt : 0 ≤ x → dm_W E P l z d MC MS tgt ls st h ce sl) (kf : ¬ 0 ≤ x → dm_W E P l z d MC MS (pc + 3) ls st h ce sl) : dm_W E P l z d MC MS pc ls (.int x :: st) h ce sl := by
  intro p e s m args below meth c D g tys L0 L ws A H locs lsC stC hK hw hls hst
  obtain ⟨y9, sc, rfl, hv, hs1⟩ := dm_st_cons hst
  clear hst
  have hst := hs1
  have hv : y9 = .int x := hv
  subst hv
  exact lv_if_ge hK.2.2.1 hK.2.2.2.1 (dm_ok_at hK.1 hi).1 ht (fun q => kt q _ _ _ _ _ _ _ _ _ _ _ _ _ _ _ _ _ _ _ hK hw hls hst) (fun q => kf q _ _ _ _ _ _ _ _ _ _ _ _ _ _ _ _ _ _ _ hK hw hls hst)
theorem dr_icmp_ge {x y : Int32} {off : Int} {tgt : Nat} (hi : dm_at z pc = some (.if_icmp .ge off, 3, [tgt])) (ht : (pc : Int) + off = (tgt : Int)) (kt : y ≤ x → dm_W E P l z d MC MS tgt ls st h ce sl) (kf : ¬ y ≤ x → dm_W E P l z d MC MS (pc + 3) ls st h ce sl) : dm_W E P l z d MC MS pc ls (.int y :: .int x :: st) h ce sl := by
  intro p e s m args below meth c D g tys L0 L ws A H locs lsC stC hK hw hls hst
  obtain ⟨y9, sc, rfl, hv, hs1⟩ := dm_st_cons hst
  clear hst
  have hv : y9 = .int y := hv
  subst hv
  obtain ⟨y8, sc, rfl, hv2, hst⟩ := dm_st_cons hs1
  have hv2 : y8 = .int x := hv2
  subst hv2
  exact lv_icmp_ge hK.2.2.1 hK.2.2.2.1 (dm_ok_at hK.1 hi).1 ht (fun q => kt q _ _ _ _ _ _ _ _ _ _ _ _ _ _ _ _ _ _ _ hK hw hls hst) (fun q => kf q _ _ _ _ _ _ _ _ _ _ _ _ _ _ _ _ _ _ _ hK hw hls hst)
theorem dr_if_gt {x : Int32} {off : Int} {tgt : Nat} (hi : dm_at z pc = some (.ifCond .gt off, 3, [tgt])) (ht : (pc : Int) + off = (tgt : Int)) (kt : 0 < x → dm_W E P l z d MC MS tgt ls st h ce sl) (kf : ¬ 0 < x → dm_W E P l z d MC MS (pc + 3) ls st h ce sl) : dm_W E P l z d MC MS pc ls (.int x :: st) h ce sl := by
  intro p e s m args below meth c D g tys L0 L ws A H locs lsC stC hK hw hls hst
  obtain ⟨y9, sc, rfl, hv, hs1⟩ := dm_st_cons hst
  clear hst
  have hst := hs1
  have hv : y9 = .int x := hv
  subst hv
  exact lv_if_gt hK.2.2.1 hK.2.2.2.1 (dm_ok_at hK.1 hi).1 ht (fun q => kt q _ _ _ _ _ _ _ _ _ _ _ _ _ _ _ _ _ _ _ hK hw hls hst) (fun q => kf q _ _ _ _ _ _ _ _ _ _ _ _ _ _ _ _ _ _ _ hK hw hls hst)
theorem dr_icmp_gt {x y : Int32} {off : Int} {tgt : Nat} (hi : dm_at z pc = some (.if_icmp .gt off, 3, [tgt])) (ht : (pc : Int) + off = (tgt : Int)) (kt : y < x → dm_W E P l z d MC MS tgt ls st h ce sl) (kf : ¬ y < x → dm_W E P l z d MC MS (pc + 3) ls st h ce sl) : dm_W E P l z d MC MS pc ls (.int y :: .int x :: st) h ce sl := by
  intro p e s m args below meth c D g tys L0 L ws A H locs lsC stC hK hw hls hst
  obtain ⟨y9, sc, rfl, hv, hs1⟩ := dm_st_cons hst
  clear hst
  have hv : y9 = .int y := hv
  subst hv
  obtain ⟨y8, sc, rfl, hv2, hst⟩ := dm_st_cons hs1
  have hv2 : y8 = .int x := hv2
  subst hv2
  exact lv_icmp_gt hK.2.2.1 hK.2.2.2.1 (dm_ok_at hK.1 hi).1 ht (fun q => kt q _ _ _ _ _ _ _ _ _ _ _ _ _ _ _ _ _ _ _ hK hw hls hst) (fun q => kf q _ _ _ _ _ _ _ _ _ _ _ _ _ _ _ _ _ _ _ hK hw hls hst)
theorem dr_if_le {x : Int32} {off : Int} {tgt : Nat} (hi : dm_at z pc = some (.ifCond .le off, 3, [tgt])) (ht : (pc : Int) + off = (tgt : Int)) (kt : x ≤ 0 → dm_W E P l z d MC MS tgt ls st h ce sl) (kf : ¬ x ≤ 0 → dm_W E P l z d MC MS (pc + 3) ls st h ce sl) : dm_W E P l z d MC MS pc ls (.int x :: st) h ce sl := by
  intro p e s m args below meth c D g tys L0 L ws A H locs lsC stC hK hw hls hst
  obtain ⟨y9, sc, rfl, hv, hs1⟩ := dm_st_cons hst
  clear hst
  have hst := hs1
  have hv : y9 = .int x := hv
  subst hv
  exact lv_if_le hK.2.2.1 hK.2.2.2.1 (dm_ok_at hK.1 hi).1 ht (fun q => kt q _ _ _ _ _ _ _ _ _ _ _ _ _ _ _ _ _ _ _ hK hw hls hst) (fun q => kf q _ _ _ _ _ _ _ _ _ _ _ _ _ _ _ _ _ _ _ hK hw hls hst)
theorem dr_icmp_le {x y : Int32} {off : Int} {tgt : Nat} (hi : dm_at z pc = some (.if_icmp .le off, 3, [tgt])) (ht : (pc : Int) + off = (tgt : Int)) (kt : x ≤ y → dm_W E P l z d MC MS tgt ls st h ce sl) (kf : ¬ x ≤ y → dm_W E P l z d MC MS (pc + 3) ls st h ce sl) : dm_W E P l z d MC MS pc ls (.int y :: .int x :: st) h ce sl := by
  intro p e s m args below meth c D g tys L0 L ws A H locs lsC stC hK hw hls hst
  obtain ⟨y9, sc, rfl, hv, hs1⟩ := dm_st_cons hst
  clear hst
  have hv : y9 = .int y := hv
  subst hv
  obtain ⟨y8, sc, rfl, hv2, hst⟩ := dm_st_cons hs1
  have hv2 : y8 = .int x := hv2
  subst hv2
  exact lv_icmp_le hK.2.2.1 hK.2.2.2.1 (dm_ok_at hK.1 hi).1 ht (fun q => kt q _ _ _ _ _ _ _ _ _ _ _ _ _ _ _ _ _ _ _ hK hw hls hst) (fun q => kf q _ _ _ _ _ _ _ _ _ _ _ _ _ _ _ _ _ _ _ hK hw hls hst)
theorem dr_goto {off : Int} {tgt : Nat} (hi : dm_at z pc = some (.goto off, 3, [tgt])) (ht : (pc : Int) + off = (tgt : Int)) (kk : dm_W E P l z d MC MS tgt ls st h ce sl) : dm_W E P l z d MC MS pc ls st h ce sl := by
  intro p e s m args below meth c D g tys L0 L ws A H locs lsC stC hK hw hls hst
  exact lv_goto hK.2.2.1 hK.2.2.2.1 (dm_ok_at hK.1 hi).1 ht (kk _ _ _ _ _ _ _ _ _ _ _ _ _ _ _ _ _ _ _ hK hw hls hst)
theorem dr_tabOut {x : Int32} {dflt lo hi9 : Int} {offs : Array Int} {len tgt : Nat} {ts : List Nat} (hi : dm_at z pc = some (.tableswitch dflt lo hi9 offs, len, ts)) (hx : x.toInt < lo ∨ hi9 < x.toInt) (ht : (pc : Int) + dflt = (tgt : Int)) (kk : dm_W E P l z d MC MS tgt ls st h ce sl) : dm_W E P l z d MC MS pc ls (.int x :: st) h ce sl := by
  intro p e s m args below meth c D g tys L0 L ws A H locs lsC stC hK hw hls hst
  obtain ⟨y9, sc, rfl, hv, hs1⟩ := dm_st_cons hst
  clear hst
  have hst := hs1
  have hv : y9 = .int x := hv
  subst hv
  exact lv_tableOut hK.2.2.1 hK.2.2.2.1 (dm_ok_at hK.1 hi).1 hx ht (kk _ _ _ _ _ _ _ _ _ _ _ _ _ _ _ _ _ _ _ hK hw hls hst)
theorem dr_tabIn {x : Int32} {dflt lo hi9 off : Int} {offs : Array Int} {len tgt : Nat} {ts : List Nat} (hi : dm_at z pc = some (.tableswitch dflt lo hi9 offs, len, ts)) (h1 : ¬ x.toInt < lo) (h2 : ¬ hi9 < x.toInt) (ho : offs[(x.toInt - lo).toNat]? = some off) (ht : (pc : Int) + off = (tgt : Int)) (kk : dm_W E P l z d MC MS tgt ls st h ce sl) : dm_W E P l z d MC MS pc ls (.int x :: st) h ce sl := by
  intro p e s m args below meth c D g tys L0 L ws A H locs lsC stC hK hw hls hst
  obtain ⟨y9, sc, rfl, hv, hs1⟩ := dm_st_cons hst
  clear hst
  have hst := hs1
  have hv : y9 = .int x := hv
  subst hv
  exact lv_tableIn hK.2.2.1 hK.2.2.2.1 (dm_ok_at hK.1 hi).1 h1 h2 ho ht (kk _ _ _ _ _ _ _ _ _ _ _ _ _ _ _ _ _ _ _ hK hw hls hst)
end DMW
/-! ===== the step over the heap: fields, arrays, new ===== -/
section DMF
variable {E : dm_Ex} {P : dm_Po} {l : Launch} {z d MC MS pc ce sl : Nat} {ls : List (Option Value)} {st : List Value} {h : dm_H}
theorem dm_vwlt {ci : Nat} {q : vw_C} (h : vwCl[ci]? = some q) : ci < 11 := (List.getElem?_eq_some_iff.mp h).1
/-- the thing at a place, an object -/
theorem dm_obj {g : Nat → Nat} {tys : List (ClassId × FieldType)} {L : List Nat} {h : dm_H} {ws : va_W} (hh : dm_h g tys L h ws) {i ci : Nat} {vs : List Value} (hi : h[i]? = some (ci, vs)) (hc : ci < 20) :
    ∃ a fs, L[i]? = some a ∧ ws[i]? = some (a, .inr (ci, fs)) ∧ fs.length = vs.length ∧ ∀ (j : Nat) (v : Value), vs[j]? = some v → ∃ x, fs[j]? = some x ∧ dm_v g L v x := by
  obtain ⟨a, c, h1, h2, h3⟩ := hh.2.2 i _ hi
  rcases c with ⟨c, n, X⟩ | ⟨ci', fs⟩
  · obtain ⟨-, -, h3⟩ := h3
    rcases h3 with ⟨a1, -⟩ | ⟨a1, -⟩ | ⟨a1, -⟩ | ⟨a1, -⟩ <;> (have a1 : ci = _ := a1; omega)
  · obtain ⟨h4, -, h5, h6⟩ := h3
    have h4 : ci = ci' := h4
    subst h4
    exact ⟨a, fs, h1, h2, h5, h6⟩
theorem dm_arrI {g : Nat → Nat} {tys : List (ClassId × FieldType)} {L : List Nat} {h : dm_H} {ws : va_W} (hh : dm_h g tys L h ws) {i : Nat} {vs : List Value} (hi : h[i]? = some (20, vs)) :
    ∃ a c f, L[i]? = some a ∧ ws[i]? = some (a, .inl (c, vs.length, .inl f)) ∧ vs.length < 2 ^ 31 ∧ (c, FieldType.int) ∈ tys ∧ ∀ (j : Nat) (v : Value), vs[j]? = some v → v = .int (f j) := by
  obtain ⟨a, c, h1, h2, h3⟩ := hh.2.2 i _ hi
  rcases c with ⟨c, n, X⟩ | ⟨ci', fs⟩
  · obtain ⟨b1, b2, h3⟩ := h3
    rcases h3 with ⟨a1, a2, f, a3, a4⟩ | ⟨a1, -⟩ | ⟨a1, -⟩ | ⟨a1, -⟩
    · have b1 : n = vs.length := b1
      subst b1; subst a3
      exact ⟨a, c, f, h1, h2, b2, a2, a4⟩
    all_goals (have a1 : 20 = _ := a1; omega)
  · obtain ⟨h4, h5, -⟩ := h3
    have h4 : 20 = ci' := h4
    omega
theorem dm_arrB {g : Nat → Nat} {tys : List (ClassId × FieldType)} {L : List Nat} {h : dm_H} {ws : va_W} (hh : dm_h g tys L h ws) {i : Nat} {vs : List Value} (hi : h[i]? = some (21, vs)) :
    ∃ a c f, L[i]? = some a ∧ ws[i]? = some (a, .inl (c, vs.length, .inl f)) ∧ vs.length < 2 ^ 31 ∧ (c, FieldType.byte) ∈ tys ∧ ∀ (j : Nat) (v : Value), vs[j]? = some v → v = .int (f j) ∧ fits .byte (.int (f j)) = true := by
  obtain ⟨a, c, h1, h2, h3⟩ := hh.2.2 i _ hi
  rcases c with ⟨c, n, X⟩ | ⟨ci', fs⟩
  · obtain ⟨b1, b2, h3⟩ := h3
    rcases h3 with ⟨a1, -⟩ | ⟨a1, a2, f, a3, a4⟩ | ⟨a1, -⟩ | ⟨a1, -⟩
    · have a1 : 21 = _ := a1
      omega
    · have b1 : n = vs.length := b1
      subst b1; subst a3
      exact ⟨a, c, f, h1, h2, b2, a2, a4⟩
    all_goals (have a1 : 21 = _ := a1; omega)
  · obtain ⟨h4, h5, -⟩ := h3
    have h4 : 21 = ci' := h4
    omega
theorem dm_arrR {g : Nat → Nat} {tys : List (ClassId × FieldType)} {L : List Nat} {h : dm_H} {ws : va_W} (hh : dm_h g tys L h ws) {i k : Nat} {vs : List Value} (hi : h[i]? = some (k, vs)) (hk : k = 22 ∨ k = 23) :
    ∃ a c f, L[i]? = some a ∧ ws[i]? = some (a, .inl (c, vs.length, .inr (.inr (.inr (.inr f))))) ∧ vs.length < 2 ^ 31 ∧ (c, if k = 22 then FieldType.object "Earlyends$Book" else FieldType.array .int) ∈ tys ∧ ∀ (j : Nat) (v : Value), vs[j]? = some v → dm_v g L v (va_rf (f j)) := by
  obtain ⟨a, c, h1, h2, h3⟩ := hh.2.2 i _ hi
  rcases c with ⟨c, n, X⟩ | ⟨ci', fs⟩
  · obtain ⟨b1, b2, h3⟩ := h3
    have b1 : n = vs.length := b1
    rcases h3 with ⟨a1, -⟩ | ⟨a1, -⟩ | ⟨a1, a2, f, a3, a4⟩ | ⟨a1, a2, f, a3, a4⟩
    · have a1 : k = 20 := a1
      omega
    · have a1 : k = 21 := a1
      omega
    · have a1 : k = 22 := a1
      subst b1; subst a3; subst a1
      exact ⟨a, c, f, h1, h2, b2, a2, a4⟩
    · have a1 : k = 23 := a1
      subst b1; subst a3; subst a1
      exact ⟨a, c, f, h1, h2, b2, a2, a4⟩
  · obtain ⟨h4, h5, -⟩ := h3
    have h4 : k = ci' := h4
    omega
/-- a field read -/
theorem dr_getf {idx ci k md t i : Nat} {vs : List Value} {v : Value} (hi : dm_at z pc = some (.getfield idx, 3, [ci, k, md, t])) (hh : h[i]? = some (ci, vs)) (hv : vs[k]? = some v) (kk : dm_W E P l z d MC MS (pc + 3) ls (v :: st) h ce sl) : dm_W E P l z d MC MS pc ls (.ref i :: st) h ce sl := by
  intro p e s m args below meth c D g tys L0 L ws A H locs lsC stC hK hw hls hst
  obtain ⟨hok, hst9, hx, hb, hr, hml, hown, hts, hS9, hlk, htb, hnm, hA, hE⟩ := id hK
  obtain ⟨hle, hKK, hP, hD, hS, hh0⟩ := id hw
  obtain ⟨hd, hR⟩ := dm_ok_at hok hi
  obtain ⟨y9, sc, rfl, ⟨a, ha, rfl⟩, hs1⟩ := dm_st_cons hst
  have hR : dm_okF (dm_m z).1.cls idx ci k md t = true := hR
  unfold dm_okF at hR
  split at hR
  · rename_i q hq
    simp only [Bool.and_eq_true, decide_eq_true_eq] at hR
    obtain ⟨hk, hR⟩ := hR
    obtain ⟨a', fs, h1, h2, h3, h4⟩ := dm_obj hh0 hh (Nat.lt_of_lt_of_le (dm_vwlt hq) (by decide))
    cases ha.symm.trans h1
    obtain ⟨x, h5, h6⟩ := h4 k v hv
    split at hR
    · exact va_get (C := q.1) (T := q.2.1) (N := q.2.2) hx hb hts (dm_clw ci q hq) hown hKK hP i h2 hq k hk (hts _ (dm_g_mem hR)) (fun _ e => e) h5 hd (kk _ _ _ _ _ _ _ _ _ _ _ _ _ _ _ _ _ _ _ hK hw hls ⟨h6, hs1⟩)
    · unfold dm_okN at hR
      split at hR
      · rename_i o i9 r n d9 host hT
        simp only [decide_eq_true_eq] at hR
        obtain ⟨rfl, rfl, rfl, rfl, rfl⟩ := hR
        have hN := hS9.1 _ (List.mem_filter.mpr ⟨dm_T_mem hT, rfl⟩)
        exact va_getN (C := q.1) (T := q.2.1) (N := q.2.2) hx hb hts (dm_clw ci q hq) hown hKK hP i h2 hq k hk (va_Nw.use rfl hN) (fun _ e => e) h5 hd (kk _ _ _ _ _ _ _ _ _ _ _ _ _ _ _ _ _ _ _ hK hw hls ⟨h6, hs1⟩)
      · cases hR
  · cases hR
/-- what may be stored in a field -/
def dm_fit (ty : FieldType) (v : Value) : Bool := match ty, v with
  | .int, .int _ => true
  | .long, .long _ => true
  | .boolean, .int x => decide (x = 0 ∨ x = 1)
  | .byte, .int x => decide (x.toInt8.toInt32 = x) && fits .byte (.int x)
  | .object _, .ref _ => true
  | .object _, .float _ => true
  | .array _, .ref _ => true
  | _, _ => false
theorem dm_fit_ok {g : Nat → Nat} {L : List Nat} {ty : FieldType} {v x : Value} (h : dm_fit ty v = true) (hv : dm_v g L v x) : narrow ty x = x ∧ fits ty x = true := by
  cases ty <;> cases v <;> simp only [dm_fit, Bool.false_eq_true, decide_eq_true_eq, Bool.and_eq_true] at h
  · have hv : x = _ := hv
    subst hv
    exact ⟨congrArg Value.int h.1, h.2⟩
  · have hv : x = _ := hv
    subst hv
    exact ⟨rfl, rfl⟩
  · have hv : x = _ := hv
    subst hv
    exact ⟨rfl, rfl⟩
  · have hv : x = _ := hv
    subst hv
    rcases h with rfl | rfl <;> exact ⟨rfl, rfl⟩
  all_goals first
    | (obtain ⟨a, -, rfl⟩ := hv; exact ⟨rfl, rfl⟩)
    | (obtain ⟨a, rfl⟩ := hv; exact ⟨rfl, rfl⟩)
theorem dm_e_put {g : Nat → Nat} {tys : List (ClassId × FieldType)} {L : List Nat} {ci k : Nat} {vs fs : List Value} {v x : Value} (hc : ci < 20) (h3 : fs.length = vs.length) (h4 : ∀ (j : Nat) (v : Value), vs[j]? = some v → ∃ x, fs[j]? = some x ∧ dm_v g L v x) (hv : dm_v g L v x) :
    dm_e g tys L (ci, vs.set k v) (.inr (ci, fs.set k x)) := by
  refine ⟨rfl, hc, by rw [List.length_set]; show fs.length = (vs.set k v).length; rw [List.length_set]; exact h3, fun j u hj => ?_⟩
  have hj : (vs.set k v)[j]? = some u := hj
  rw [List.getElem?_set] at hj
  by_cases e : k = j
  · subst e
    rw [if_pos rfl] at hj
    split at hj
    · rename_i hl
      cases hj
      exact ⟨x, by rw [List.getElem?_set, if_pos rfl, if_pos (by omega)], hv⟩
    · cases hj
  · rw [if_neg e] at hj
    obtain ⟨y, h5, h6⟩ := h4 j u hj
    exact ⟨y, by rw [List.getElem?_set, if_neg e]; exact h5, h6⟩
theorem dr_putf {idx ci k md t i : Nat} {vs : List Value} {v : Value} (hi : dm_at z pc = some (.putfield idx, 3, [ci, k, md, t])) (hh : h[i]? = some (ci, vs)) (hk : k < vs.length) (hf : dm_fit (dm_ty ci k) v = true) (kk : dm_W E P l z d MC MS (pc + 3) ls st (h.set i (ci, vs.set k v)) ce sl) : dm_W E P l z d MC MS pc ls (v :: .ref i :: st) h ce sl := by
  intro p e s m args below meth c D g tys L0 L ws A H locs lsC stC hK hw hls hst
  obtain ⟨hok, hst9, hx, hb, hr, hml, hown, hts, hS9, hlk, htb, hnm, hA, hE⟩ := id hK
  obtain ⟨hle, hKK, hP, hD, hS, hh0⟩ := id hw
  obtain ⟨hd, hR⟩ := dm_ok_at hok hi
  obtain ⟨x, sc, rfl, hv, hs1⟩ := dm_st_cons hst
  obtain ⟨y9, sc, rfl, ⟨a, ha, rfl⟩, hs2⟩ := dm_st_cons hs1
  obtain ⟨hn, hft⟩ := dm_fit_ok hf hv
  have hR : (dm_okF (dm_m z).1.cls idx ci k md t && dm_okP z ci k md) = true := hR
  simp only [Bool.and_eq_true] at hR
  obtain ⟨hR, hR2⟩ := hR
  unfold dm_okF at hR
  split at hR
  · rename_i q hq
    simp only [Bool.and_eq_true, decide_eq_true_eq] at hR
    obtain ⟨hkN, hR⟩ := hR
    have hci : ci < 20 := Nat.lt_of_lt_of_le (dm_vwlt hq) (by decide)
    obtain ⟨a', fs, h1, h2, h3, h4⟩ := dm_obj hh0 hh hci
    cases ha.symm.trans h1
    have hgo : ∀ (H1 : Heap) (locs1 : List Loc), va_P D vwCl (ws.set i (a, .inr (ci, fs.set k x))) H1 → va_D A (ws.set i (a, .inr (ci, fs.set k x))) → va_S A s.heap H1 locs1 →
        W p l e (dm_R d MC MS) s m args below meth c H1 locs1 ce sl (P D g L0 A below args s) (F0 m (pc + 3) lsC sc) := fun H1 locs1 hP1 hD1 hS1 =>
      kk _ _ _ _ _ _ _ _ _ _ _ _ _ _ _ _ _ _ _ hK ⟨hle, hKK, hP1, hD1, hS1, dm_h_set hh0 h1 (dm_e_put hci h3 h4 hv)⟩ hls hs2
    unfold dm_okP at hR2
    rw [hq] at hR2
    dsimp only at hR2
    split at hR
    · split at hR2
      · simp only [decide_eq_true_eq] at hR2
        exact va_putF (C := q.1) (T := q.2.1) (N := q.2.2) hx hb hts (dm_clw ci q hq) (dm_ty ci) (dm_tyk ci q hq) (dm_nmk ci q hq) hown hKK hP hD hS i h2 hq k hkN (hts _ (dm_g_mem hR)) (fun _ e => e) hR2.1 (hnm.trans hR2.2.1) hR2.2.2 (dm_tyk ci q hq k hkN) hn hft (by omega) hd hgo
      · simp only [decide_eq_true_eq] at hR2
        exact va_put (C := q.1) (T := q.2.1) (N := q.2.2) hx hb hts (dm_clw ci q hq) (dm_ty ci) (dm_tyk ci q hq) (dm_nmk ci q hq) hown hKK hP hD hS i h2 hq k hkN (hts _ (dm_g_mem hR)) (fun _ e => e) hR2 (dm_tyk ci q hq k hkN) hn hft (by omega) hd hgo
    · rename_i hmd
      rw [if_neg (fun e => hmd (Or.inr e))] at hR2
      simp only [decide_eq_true_eq] at hR2
      unfold dm_okN at hR
      split at hR
      · rename_i o i9 r n d9 host hT
        simp only [decide_eq_true_eq] at hR
        obtain ⟨rfl, rfl, rfl, rfl, rfl⟩ := hR
        have hN := hS9.1 _ (List.mem_filter.mpr ⟨dm_T_mem hT, rfl⟩)
        exact va_putN (C := q.1) (T := q.2.1) (N := q.2.2) hx hb hts (dm_clw ci q hq) (dm_ty ci) (dm_tyk ci q hq) (dm_nmk ci q hq) hown hKK hP hD hS i h2 hq k hkN (va_Nw.use rfl hN) (fun _ e => e) hR2 (dm_tyk ci q hq k hkN) hn hft (by omega) hd hgo
      · cases hR
  · cases hR
theorem dm_vpin {k n : Nat} (hk : k < n) (hn : n < 2 ^ 31) : vp_in (nI k) n := vp_in_nI hk hn
theorem dm_ltl {vs : List Value} {k : Nat} {v : Value} (h : vs[k]? = some v) : k < vs.length := (List.getElem?_eq_some_iff.mp h).1
/-- int arrays -/
theorem dr_iald {i k : Nat} {vs : List Value} {x j : Int32} (hi : dm_at z pc = some (.iaload, 1, [])) (hh : h[i]? = some (20, vs)) (hj : j = nI k) (hv : vs[k]? = some (.int x)) (kk : dm_W E P l z d MC MS (pc + 1) ls (.int x :: st) h ce sl) : dm_W E P l z d MC MS pc ls (.int j :: .ref i :: st) h ce sl := by
  intro p e s m args below meth c D g tys L0 L ws A H locs lsC stC hK hw hls hst
  obtain ⟨hok, hst9, hx, hb, -⟩ := id hK
  obtain ⟨hle, hKK, hP, hD, hS, hh0⟩ := id hw
  obtain ⟨hd, -⟩ := dm_ok_at hok hi
  obtain ⟨y, sc, rfl, hj2, hs1⟩ := dm_st_cons hst
  have hj2 : y = .int j := hj2
  subst hj2
  obtain ⟨y9, sc, rfl, ⟨a, ha, rfl⟩, hs2⟩ := dm_st_cons hs1
  obtain ⟨a', cA, f, h1, h2, h3, h4, h5⟩ := dm_arrI hh0 hh
  cases ha.symm.trans h1
  obtain ⟨t0, ht⟩ := List.getElem?_of_mem h4
  have hlt := dm_ltl hv
  have e1 : (nI k).toNatClampNeg = k := nI_clamp (by omega)
  subst hj
  have e2 : x = f k := by cases h5 k _ hv; rfl
  subst e2
  refine va_iald hx hb hKK hP i t0 h2 ht (dm_vpin hlt h3) hd ?_
  rw [e1]
  exact kk _ _ _ _ _ _ _ _ _ _ _ _ _ _ _ _ _ _ _ hK hw hls ⟨rfl, hs2⟩
theorem dm_e_ast {g : Nat → Nat} {tys : List (ClassId × FieldType)} {L : List Nat} {k : Nat} {vs : List Value} {x : Int32} {c : ClassId} {f : Nat → Int32} (hn : vs.length < 2 ^ 31) (ht : (c, FieldType.int) ∈ tys) (hv : ∀ (j : Nat) (v : Value), vs[j]? = some v → v = .int (f j)) :
    dm_e g tys L (20, vs.set k (.int x)) (.inl (c, vs.length, .inl (upd f k x))) := by
  refine ⟨by show vs.length = (vs.set k _).length; rw [List.length_set], hn, Or.inl ⟨rfl, ht, _, rfl, fun j u hj => ?_⟩⟩
  have hj : (vs.set k (.int x))[j]? = some u := hj
  rw [List.getElem?_set] at hj
  by_cases e : k = j
  · subst e
    rw [if_pos rfl] at hj
    split at hj
    · cases hj
      rw [upd, if_pos rfl]
    · cases hj
  · rw [if_neg e] at hj
    rw [hv j u hj, upd, if_neg (fun q => e q.symm)]
theorem dr_iast {i k : Nat} {vs : List Value} {x j : Int32} (hi : dm_at z pc = some (.iastore, 1, [])) (hh : h[i]? = some (20, vs)) (hj : j = nI k) (hk : k < vs.length) (kk : dm_W E P l z d MC MS (pc + 1) ls st (h.set i (20, vs.set k (.int x))) ce sl) : dm_W E P l z d MC MS pc ls (.int x :: .int j :: .ref i :: st) h ce sl := by
  intro p e s m args below meth c D g tys L0 L ws A H locs lsC stC hK hw hls hst
  obtain ⟨hok, hst9, hx, hb, -⟩ := id hK
  obtain ⟨hle, hKK, hP, hD, hS, hh0⟩ := id hw
  obtain ⟨hd, -⟩ := dm_ok_at hok hi
  obtain ⟨y, sc, rfl, hx2, hs1⟩ := dm_st_cons hst
  have hx2 : y = .int x := hx2
  subst hx2
  obtain ⟨y, sc, rfl, hj2, hs2⟩ := dm_st_cons hs1
  have hj2 : y = .int j := hj2
  subst hj2
  obtain ⟨y9, sc, rfl, ⟨a, ha, rfl⟩, hs3⟩ := dm_st_cons hs2
  obtain ⟨a', cA, f, h1, h2, h3, h4, h5⟩ := dm_arrI hh0 hh
  cases ha.symm.trans h1
  obtain ⟨t0, ht⟩ := List.getElem?_of_mem h4
  have e1 : (nI k).toNatClampNeg = k := nI_clamp (by omega)
  subst hj
  refine va_iast hx hb hKK hP hD hS i t0 h2 ht (dm_vpin hk h3) hd (fun H1 locs1 hP1 hD1 hS1 => ?_)
  rw [e1] at hP1 hD1
  exact kk _ _ _ _ _ _ _ _ _ _ _ _ _ _ _ _ _ _ _ hK ⟨hle, hKK, hP1, hD1, hS1, dm_h_set hh0 h1 (dm_e_ast h3 h4 h5)⟩ hls hs3
/-- the length of any array -/
theorem dr_alen {i k : Nat} {vs : List Value} {n : Int32} (hi : dm_at z pc = some (.arraylength, 1, [])) (hh : h[i]? = some (k, vs)) (hk : k = 20 ∨ k = 21 ∨ k = 22 ∨ k = 23) (hn : nI vs.length = n) (kk : dm_W E P l z d MC MS (pc + 1) ls (.int n :: st) h ce sl) : dm_W E P l z d MC MS pc ls (.ref i :: st) h ce sl := by
  intro p e s m args below meth c D g tys L0 L ws A H locs lsC stC hK hw hls hst
  obtain ⟨hok, hst9, hx, hb, -⟩ := id hK
  obtain ⟨hle, hKK, hP, hD, hS, hh0⟩ := id hw
  obtain ⟨hd, -⟩ := dm_ok_at hok hi
  obtain ⟨y9, sc, rfl, ⟨a, ha, rfl⟩, hs2⟩ := dm_st_cons hst
  have hh1 : ∃ (cA : ClassId) (X : vp_A) (ty : FieldType), ws[i]? = some (a, .inl (cA, X)) ∧ X.1 = vs.length ∧ (cA, ty) ∈ tys := by
    rcases hk with rfl | rfl | hk
    · obtain ⟨a', cA, f, h1, h2, h3, h4, h5⟩ := dm_arrI hh0 hh
      cases ha.symm.trans h1
      exact ⟨cA, _, _, h2, rfl, h4⟩
    · obtain ⟨a', cA, f, h1, h2, h3, h4, h5⟩ := dm_arrB hh0 hh
      cases ha.symm.trans h1
      exact ⟨cA, _, _, h2, rfl, h4⟩
    · obtain ⟨a', cA, f, h1, h2, h3, h4, h5⟩ := dm_arrR hh0 hh hk
      cases ha.symm.trans h1
      exact ⟨cA, _, _, h2, rfl, h4⟩
  obtain ⟨cA, X, ty, h2, h3, h4⟩ := hh1
  obtain ⟨t0, ht⟩ := List.getElem?_of_mem h4
  exact va_alen hx hb hKK hP i t0 h2 ht (by rw [h3]; exact hn) hd (kk _ _ _ _ _ _ _ _ _ _ _ _ _ _ _ _ _ _ _ hK hw hls ⟨rfl, hs2⟩)
/-- arrays of references -/
theorem dr_aald {i k kd : Nat} {vs : List Value} {v : Value} {j : Int32} (hi : dm_at z pc = some (.aaload, 1, [])) (hh : h[i]? = some (kd, vs)) (hkd : kd = 22 ∨ kd = 23) (hj : j = nI k) (hv : vs[k]? = some v) (kk : dm_W E P l z d MC MS (pc + 1) ls (v :: st) h ce sl) : dm_W E P l z d MC MS pc ls (.int j :: .ref i :: st) h ce sl := by
  intro p e s m args below meth c D g tys L0 L ws A H locs lsC stC hK hw hls hst
  obtain ⟨hok, hst9, hx, hb, -⟩ := id hK
  obtain ⟨hle, hKK, hP, hD, hS, hh0⟩ := id hw
  obtain ⟨hd, -⟩ := dm_ok_at hok hi
  obtain ⟨y, sc, rfl, hj2, hs1⟩ := dm_st_cons hst
  have hj2 : y = .int j := hj2
  subst hj2
  obtain ⟨y9, sc, rfl, ⟨a, ha, rfl⟩, hs2⟩ := dm_st_cons hs1
  obtain ⟨a', cA, f, h1, h2, h3, h4, h5⟩ := dm_arrR hh0 hh hkd
  cases ha.symm.trans h1
  obtain ⟨t0, ht⟩ := List.getElem?_of_mem h4
  have hlt := dm_ltl hv
  have e1 : (nI k).toNatClampNeg = k := nI_clamp (by omega)
  subst hj
  refine W.aald (v := va_rf (f k)) (ty := if kd = 22 then FieldType.object "Earlyends$Book" else FieldType.array .int) hx hb (hP i _ h2) ((hKK.2 t0 _ ht).1 _ (fun j => va_rf (f j))) (by split <;> rfl) (fun q => by cases q)
    (by show ¬ (_ ∨ (arrV _ _ _).slots.size ≤ _); rw [arrV_size]; exact dm_vpin hlt h3) (by show (arrV _ _ _).slots[_]? = _; rw [e1, arrV_read _ _ hlt]) rfl rfl hd ?_
  exact kk _ _ _ _ _ _ _ _ _ _ _ _ _ _ _ _ _ _ _ hK hw hls ⟨h5 k v hv, hs2⟩
theorem dr_aast {i k i2 : Nat} {vs us : List Value} {j : Int32} (hi : dm_at z pc = some (.aastore, 1, [])) (hh : h[i]? = some (22, vs)) (hh2 : h[i2]? = some (2, us)) (hj : j = nI k) (hk : k < vs.length) (kk : dm_W E P l z d MC MS (pc + 1) ls st (h.set i (22, vs.set k (.ref i2))) ce sl) : dm_W E P l z d MC MS pc ls (.ref i2 :: .int j :: .ref i :: st) h ce sl := by
  intro p e s m args below meth c D g tys L0 L ws A H locs lsC stC hK hw hls hst
  obtain ⟨hok, hst9, hx, hb, -⟩ := id hK
  obtain ⟨hle, hKK, hP, hD, hS, hh0⟩ := id hw
  obtain ⟨hd, -⟩ := dm_ok_at hok hi
  obtain ⟨y, sc, rfl, ⟨b, hb2, rfl⟩, hs1⟩ := dm_st_cons hst
  obtain ⟨y, sc, rfl, hj2, hs2⟩ := dm_st_cons hs1
  have hj2 : y = .int j := hj2
  subst hj2
  obtain ⟨y9, sc, rfl, ⟨a, ha, rfl⟩, hs3⟩ := dm_st_cons hs2
  obtain ⟨a', cA, f, h1, h2, h3, h4, h5⟩ := dm_arrR hh0 hh (Or.inl rfl)
  cases ha.symm.trans h1
  obtain ⟨b', fs, g1, g2, g3, g4⟩ := dm_obj hh0 hh2 (by decide)
  cases hb2.symm.trans g1
  rw [if_pos rfl] at h4
  obtain ⟨t0, ht⟩ := List.getElem?_of_mem h4
  have e1 : (nI k).toNatClampNeg = k := nI_clamp (by omega)
  subst hj
  refine va_astq (r := (RX0, TX0, 4)) hx hb hKK hP hD hS i t0 i2 2 h2 ht g2 rfl (dm_vpin hk h3) hd (fun H1 locs1 hP1 hD1 hS1 => ?_)
  rw [e1] at hP1 hD1
  refine kk _ _ _ _ _ _ _ _ _ _ _ _ _ _ _ _ _ _ _ hK ⟨hle, hKK, hP1, hD1, hS1, dm_h_set hh0 h1 ⟨by show vs.length = (vs.set k _).length; rw [List.length_set], h3, Or.inr (Or.inr (Or.inl ⟨rfl, h4, _, rfl, fun j u hj => ?_⟩))⟩⟩ hls hs3
  have hj3 : (vs.set k (.ref i2))[j]? = some u := hj
  rw [List.getElem?_set] at hj3
  by_cases e : k = j
  · subst e
    rw [if_pos rfl, if_pos hk] at hj3
    cases hj3
    rw [va_up, if_pos rfl]
    exact ⟨b, hb2, rfl⟩
  · rw [if_neg e] at hj3
    rw [va_up, if_neg (fun q => e q.symm)]
    exact h5 j u hj3
/-- new arrays -/
theorem dr_newi {w N : Nat} {n : Int32} (hi : dm_at z pc = some (.newarray .int, 2, [20, w])) (hn : n = nI N) (hN : N ≤ 10000) (hc : ce + 1 ≤ MC) (hs : sl + N ≤ MS) (kk : dm_W E P l z d MC MS (pc + 2) ls (.ref h.length :: st) (h ++ [(20, List.replicate N (.int 0))]) (ce + 1) (sl + N)) : dm_W E P l z d MC MS pc ls (.int n :: st) h ce sl := by
  intro p e s m args below meth c D g tys L0 L ws A H locs lsC stC hK hw hls hst
  obtain ⟨hok, hst9, hx, hb, hr, hml, hown, hts, hS9, hlk, htb, hnm, hA, hE⟩ := id hK
  obtain ⟨hle, hKK, hP, hD, hS, hh0⟩ := id hw
  obtain ⟨hd, hR⟩ := dm_ok_at hok hi
  have hR : dm_g w (.arrayClass .int) = true := hR
  obtain ⟨y, sc, rfl, hj2, hs1⟩ := dm_st_cons hst
  have hj2 : y = .int n := hj2
  subst hj2
  subst hn
  have e1 : (nI N).toNatClampNeg = N := nI_clamp (by omega)
  refine va_newa (atype := .int) (a0 := (N, .inl (fun _ => 0))) hx hb (hts _ (dm_g_mem hR)) rfl hKK hP hD hS hA (fun _ => rfl) (nI_pos (by omega)) e1 (by show N * 4 ≤ _; omega) hc hs hd (fun q cA H1 hK1 hP1 hD1 hS1 => ?_)
  have hT : ∀ t ∈ tys, t ∈ tys ++ [(cA, FieldType.int)] := fun t ht => List.mem_append_left _ ht
  refine kk _ _ _ _ _ _ _ _ _ _ _ (L0 := L0) (L ++ [q]) _ _ _ _ _ _ hK ⟨dm_le_tr hle (dm_le_app _ _), hK1, hP1, hD1, hS1, dm_h_push hh0 hT ⟨(List.length_replicate).symm, by omega, Or.inl ⟨rfl, List.mem_append_right _ List.mem_cons_self, _, rfl, fun j u hj => ?_⟩⟩⟩ (dm_ls_up (dm_le_app _ _) hls) ⟨⟨q, ?_, rfl⟩, dm_st_up (dm_le_app _ _) hs1⟩
  · have hj : (List.replicate N (Value.int 0))[j]? = some u := hj
    rw [List.getElem?_replicate] at hj
    split at hj <;> cases hj
    rfl
  · rw [← hh0.1, List.getElem?_append_right (Nat.le_refl _), Nat.sub_self]; rfl
theorem dr_newb {w N : Nat} {n : Int32} (hi : dm_at z pc = some (.newarray .byte, 2, [21, w])) (hn : n = nI N) (hN : N ≤ 10000) (hc : ce + 1 ≤ MC) (hs : sl + N ≤ MS) (kk : dm_W E P l z d MC MS (pc + 2) ls (.ref h.length :: st) (h ++ [(21, List.replicate N (.int 0))]) (ce + 1) (sl + N)) : dm_W E P l z d MC MS pc ls (.int n :: st) h ce sl := by
  intro p e s m args below meth c D g tys L0 L ws A H locs lsC stC hK hw hls hst
  obtain ⟨hok, hst9, hx, hb, hr, hml, hown, hts, hS9, hlk, htb, hnm, hA, hE⟩ := id hK
  obtain ⟨hle, hKK, hP, hD, hS, hh0⟩ := id hw
  obtain ⟨hd, hR⟩ := dm_ok_at hok hi
  have hR : dm_g w (.arrayClass .byte) = true := hR
  obtain ⟨y, sc, rfl, hj2, hs1⟩ := dm_st_cons hst
  have hj2 : y = .int n := hj2
  subst hj2
  subst hn
  have e1 : (nI N).toNatClampNeg = N := nI_clamp (by omega)
  refine va_newa (atype := .byte) (a0 := (N, .inl (fun _ => 0))) hx hb (hts _ (dm_g_mem hR)) rfl hKK hP hD hS hA (fun _ => rfl) (nI_pos (by omega)) e1 (by show N * 1 ≤ _; omega) hc hs hd (fun q cA H1 hK1 hP1 hD1 hS1 => ?_)
  have hT : ∀ t ∈ tys, t ∈ tys ++ [(cA, FieldType.byte)] := fun t ht => List.mem_append_left _ ht
  refine kk _ _ _ _ _ _ _ _ _ _ _ (L0 := L0) (L ++ [q]) _ _ _ _ _ _ hK ⟨dm_le_tr hle (dm_le_app _ _), hK1, hP1, hD1, hS1, dm_h_push hh0 hT ⟨(List.length_replicate).symm, by omega, Or.inr (Or.inl ⟨rfl, List.mem_append_right _ List.mem_cons_self, _, rfl, fun j u hj => ?_⟩)⟩⟩ (dm_ls_up (dm_le_app _ _) hls) ⟨⟨q, ?_, rfl⟩, dm_st_up (dm_le_app _ _) hs1⟩
  · have hj : (List.replicate N (Value.int 0))[j]? = some u := hj
    rw [List.getElem?_replicate] at hj
    split at hj <;> cases hj
    exact ⟨rfl, rfl⟩
  · rw [← hh0.1, List.getElem?_append_right (Nat.le_refl _), Nat.sub_self]; rfl
theorem dr_newq {idx w N : Nat} {n : Int32} (hi : dm_at z pc = some (.anewarray idx, 3, [22, w])) (hn : n = nI N) (hN : N ≤ 10000) (hc : ce + 1 ≤ MC) (hs : sl + N ≤ MS) (kk : dm_W E P l z d MC MS (pc + 3) ls (.ref h.length :: st) (h ++ [(22, List.replicate N .null)]) (ce + 1) (sl + N)) : dm_W E P l z d MC MS pc ls (.int n :: st) h ce sl := by
  intro p e s m args below meth c D g tys L0 L ws A H locs lsC stC hK hw hls hst
  obtain ⟨hok, hst9, hx, hb, hr, hml, hown, hts, hS9, hlk, htb, hnm, hA, hE⟩ := id hK
  obtain ⟨hle, hKK, hP, hD, hS, hh0⟩ := id hw
  obtain ⟨hd, hR⟩ := dm_ok_at hok hi
  have hR : dm_g w (.classLink (dm_m z).1.cls idx "Earlyends$Book") = true := hR
  obtain ⟨y, sc, rfl, hj2, hs1⟩ := dm_st_cons hst
  have hj2 : y = .int n := hj2
  subst hj2
  subst hn
  have e1 : (nI N).toNatClampNeg = N := nI_clamp (by omega)
  refine va_newq hx hb hown (hts _ (dm_g_mem hR)) hS9.2.1 hKK hP hD hS hA (nI_pos (by omega)) e1 (by omega) hc hs hd (fun q cA H1 hK1 hP1 hD1 hS1 => ?_)
  have hT : ∀ t ∈ tys, t ∈ tys ++ [(cA, FieldType.object "Earlyends$Book")] := fun t ht => List.mem_append_left _ ht
  refine kk _ _ _ _ _ _ _ _ _ _ _ (L0 := L0) (L ++ [q]) _ _ _ _ _ _ hK ⟨dm_le_tr hle (dm_le_app _ _), hK1, hP1, hD1, hS1, dm_h_push hh0 hT ⟨(List.length_replicate).symm, by omega, Or.inr (Or.inr (Or.inl ⟨rfl, List.mem_append_right _ List.mem_cons_self, _, rfl, fun j u hj => ?_⟩))⟩⟩ (dm_ls_up (dm_le_app _ _) hls) ⟨⟨q, ?_, rfl⟩, dm_st_up (dm_le_app _ _) hs1⟩
  · have hj : (List.replicate N Value.null)[j]? = some u := hj
    rw [List.getElem?_replicate] at hj
    split at hj <;> cases hj
    rfl
  · rw [← hh0.1, List.getElem?_append_right (Nat.le_refl _), Nat.sub_self]; rfl
/-- new objects -/
def dm_new (ci : Nat) : List Value := match vwCl[ci]? with
  | some q => (List.range q.2.2).map (fun j => defaultValue (dm_ty ci j))
  | none => []
def dm_smp (v : Value) : Bool := match v with
  | .int _ => true
  | .long _ => true
  | .null => true
  | _ => false
theorem dm_smp_v {g : Nat → Nat} {L : List Nat} {v : Value} (h : dm_smp v = true) : dm_v g L v v := by
  cases v <;> first | rfl | (simp [dm_smp] at h)
theorem dm_new_ok : (List.range 11).all (fun ci => (dm_new ci).all dm_smp) = true := by decide +kernel
theorem dr_new {idx ci w1 w2 w3 : Nat} {fs : List Value} (hi : dm_at z pc = some (.new idx, 3, [ci, w1, w2, w3])) (hfs : dm_new ci = fs) (hc : ce + 1 ≤ MC) (hs : sl + fs.length ≤ MS) (kk : dm_W E P l z d MC MS (pc + 3) ls (.ref h.length :: st) (h ++ [(ci, fs)]) (ce + 1) (sl + fs.length)) : dm_W E P l z d MC MS pc ls st h ce sl := by
  intro p e s m args below meth c D g tys L0 L ws A H locs lsC stC hK hw hls hst
  obtain ⟨hok, hst9, hx, hb, hr, hml, hown, hts, hS9, hlk, htb, hnm, hA, hE⟩ := id hK
  obtain ⟨hle, hKK, hP, hD, hS, hh0⟩ := id hw
  obtain ⟨hd, hR⟩ := dm_ok_at hok hi
  have hR : (match vwCl[ci]? with
    | some q => dm_g w1 (.classLink (dm_m z).1.cls idx q.1) && dm_g w2 (.instantiable q.1 q.2.2) && dm_g w3 (.initialized q.1)
    | none => false) = true := hR
  split at hR
  · rename_i q hq
    simp only [Bool.and_eq_true] at hR
    obtain ⟨⟨r1, r2⟩, r3⟩ := hR
    have hlt := dm_vwlt hq
    have hfl : fs = (List.range q.2.2).map (fun j => defaultValue (dm_ty ci j)) := by rw [← hfs, dm_new, hq]
    have hN : fs.length = q.2.2 := by rw [hfl]; simp
    have hsm : ∀ v ∈ fs, dm_smp v = true := by
      rw [← hfs]
      exact List.all_eq_true.mp (List.all_eq_true.mp dm_new_ok ci (List.mem_range.mpr hlt))
    refine va_new (C := q.1) (T := q.2.1) (N := q.2.2) (fs := fs) hx hb hts (dm_clw ci q hq) (dm_ty ci) (dm_tyk ci q hq) hown (hts _ (dm_g_mem r1)) (hts _ (dm_g_mem r2)) (hts _ (dm_g_mem r3)) hKK hP hD hS hA hq (fun j hj => ?_) hc (by rw [← hN]; exact hs) hd (fun q9 H1 hP1 hD1 hS1 => ?_)
    · rw [vp_V, hfl, List.getD_eq_getElem?_getD, List.getElem?_map, List.getElem?_range hj]; rfl
    · rw [← hN]
      refine kk _ _ _ _ _ _ _ _ _ _ _ (L0 := L0) (L ++ [q9]) _ _ _ _ _ _ hK ⟨dm_le_tr hle (dm_le_app _ _), hKK, hP1, hD1, hS1, dm_h_push hh0 (fun _ t => t) ⟨rfl, by show ci < 20; omega, rfl, fun j u hj => ?_⟩⟩ (dm_ls_up (dm_le_app _ _) hls) ⟨⟨q9, ?_, rfl⟩, dm_st_up (dm_le_app _ _) hst⟩
      · exact ⟨u, hj, dm_smp_v (hsm u (List.mem_of_getElem? hj))⟩
      · rw [← hh0.1, List.getElem?_append_right (Nat.le_refl _), Nat.sub_self]; rfl
  · cases hR
end DMF
/-! ===== contracts: from a body; ends; throws; calls; handlers ===== -/
theorem dm_cw0 {z : Nat} (hh : (dm_m z).2.2.2.2 = []) : dm_cw z = .code (dm_m z).1 (dm_m z).2.1 (dm_m z).2.2.1 (dm_m z).2.2.2.1 := by
  unfold dm_cw
  rw [hh]
theorem dm_cw1 {z : Nat} (hh : (dm_m z).2.2.2.2 ≠ []) : dm_cw z = .codeWith (dm_m z).1 (dm_m z).2.1 (dm_m z).2.2.1 (dm_m z).2.2.2.1 (dm_m z).2.2.2.2 := by
  unfold dm_cw
  split
  · rename_i h; exact absurd h hh
  · rename_i h; rfl
/-- a body that keeps its contract -/
theorem dm_M_of {l : Launch} {z d mc ms : Nat} {av : List Value} {h : dm_H} {Q : dm_Rs} (hok : dm_ok z = true) (hl : l.stackTraces = false) (hh : (dm_m z).2.2.2.2 = []) (hn : dm_sz av ≤ (dm_m z).2.2.1)
    (b : dm_W (fun _ _ _ => True) (dm_P Q mc ms) l z d mc ms 0 (dm_in0 (dm_m z).2.2.1 av) [] h 0 0) : dm_M l z d mc ms av h Q := by
  intro D g tys L ws sz avC hhr hst
  have hpl : plainName (dm_m z).1.cls = true := by simp only [dm_ok, Bool.and_eq_true] at hok; exact hok.2
  refine vx_ofW (cc := (dm_m z).2.1) (maxL := (dm_m z).2.2.1) (ret := (dm_m z).2.2.2.1) (ws' := dm_G) hpl (by rw [dm_ws, dm_cw0 hh]) ?_
  intro p e s m args below meth c s₁ B hml htb hv
  obtain ⟨rfl, hsz, hP, hK, hD0, hS9⟩ := hv
  subst hsz
  have hD := hD0.self (sz := s.heap.size)
  generalize hAe : va_A ws s.heap.size = A at hD hS9 ⊢
  have hA : ∀ q : Nat, s.heap.size ≤ q → A q := fun q h => by rw [← hAe]; exact Or.inr h
  rw [lg_entry_eq]
  have hts := atoms_spec (ws := dm_ws z) B.pre
  have ht : c.exceptionTable.toList = tableOf (dm_m z).2.2.2.2 := by
    rw [hh]
    exact List.eq_nil_iff_forall_not_mem.mpr htb
  exact b p e s m _ below meth c D g tys L L ws A s.heap [] _ [] ⟨hok, hl, B.exec, B.bytes, B.returns, hml, findClass_of_methodNamed B.named, fun w hw => hts w (List.mem_cons_of_mem _ hw), hS9, B.notSynchronized, ht, (name_of_methodNamed B.named B.method).1, hA, trivial⟩
    ⟨dm_le_rf, hK, hP, hD, va_S.rf, hhr⟩ (dm_ls_in hst hn) trivial
/-- the same, with handlers -/
theorem dm_M_ofH {l : Launch} {z d mc ms : Nat} {av : List Value} {h : dm_H} {Q : dm_Rs} (hok : dm_ok z = true) (hl : l.stackTraces = false) (hh : (dm_m z).2.2.2.2 ≠ []) (hn : dm_sz av ≤ (dm_m z).2.2.1)
    (b : dm_W (fun _ _ _ => True) (dm_P Q mc ms) l z d mc ms 0 (dm_in0 (dm_m z).2.2.1 av) [] h 0 0) : dm_M l z d mc ms av h Q := by
  intro D g tys L ws sz avC hhr hst
  have hpl : plainName (dm_m z).1.cls = true := by simp only [dm_ok, Bool.and_eq_true] at hok; exact hok.2
  refine vx_ofWH (cc := (dm_m z).2.1) (maxL := (dm_m z).2.2.1) (ret := (dm_m z).2.2.2.1) (hh := (dm_m z).2.2.2.2) (ws' := dm_G) hpl (by rw [dm_ws, dm_cw1 hh]) ?_
  intro p e s m args below meth c s₁ B hml hv
  obtain ⟨rfl, hsz, hP, hK, hD0, hS9⟩ := hv
  subst hsz
  have hD := hD0.self (sz := s.heap.size)
  generalize hAe : va_A ws s.heap.size = A at hD hS9 ⊢
  have hA : ∀ q : Nat, s.heap.size ≤ q → A q := fun q h => by rw [← hAe]; exact Or.inr h
  rw [lg_entry_eq]
  have hts := atoms_spec (ws := dm_ws z) B.pre
  have ht : c.exceptionTable.toList = tableOf (dm_m z).2.2.2.2 := vx_table (x := (dm_m z).1) B (by rw [← dm_cw1 hh]; exact hts _ List.mem_cons_self)
  exact b p e s m _ below meth c D g tys L L ws A s.heap [] _ [] ⟨hok, hl, B.exec, B.bytes, B.returns, hml, findClass_of_methodNamed B.named, fun w hw => hts w (List.mem_cons_of_mem _ hw), hS9, B.notSynchronized, ht, (name_of_methodNamed B.named B.method).1, hA, trivial⟩
    ⟨dm_le_rf, hK, hP, hD, va_S.rf, hhr⟩ (dm_ls_in hst hn) trivial
theorem dm_M_imp {l : Launch} {z d mc ms : Nat} {av : List Value} {h : dm_H} {Q Q2 : dm_Rs} (hM : dm_M l z d mc ms av h Q) (hi : ∀ r h', Q r h' → Q2 r h') : dm_M l z d mc ms av h Q2 := by
  intro D g tys L ws sz avC hhr hst p e h1 h2 h3 s m args below h4 h5 h6 h7
  obtain ⟨n, o, a1, a2, a3, a4⟩ := hM D g tys L ws sz avC hhr hst p e h1 h2 h3 s m args below h4 h5 h6 h7
  refine ⟨n, o, a1, a2, a3, ?_⟩
  rcases a4 with ⟨⟨⟨v, x, h', L', tys', ws', b1, b2, b3⟩, b4⟩, b5⟩ | ⟨q, rfl, X, ce, LL, ⟨⟨h', L', tys', ws', b2, b3⟩, b4⟩, b5⟩
  · exact Or.inl ⟨⟨⟨v, x, h', L', tys', ws', b1, hi _ _ b2, b3⟩, b4⟩, b5⟩
  · exact Or.inr ⟨q, rfl, X, ce, LL, ⟨⟨h', L', tys', ws', hi _ _ b2, b3⟩, b4⟩, b5⟩
section DMC
variable {E : dm_Ex} {P : dm_Po} {Q : dm_Rs} {l : Launch} {z d MC MS pc ce sl : Nat} {ls : List (Option Value)} {st : List Value} {h : dm_H}
/-! ends -/
theorem dr_iret {ty : FieldType} {x : Int32} (hi : dm_at z pc = some (.ireturn, 1, [])) (hr : (dm_m z).2.2.2.1 = some ty) (hn : narrow ty (.int x) = .int x) (hc : ce ≤ MC) (hs : sl ≤ MS) (hq : Q (.inl (some (.int x))) h) : dm_W E (dm_P Q MC MS) l z d MC MS pc ls [.int x] h ce sl := by
  intro p e s m args below meth c D g tys L0 L ws A H locs lsC stC hK hw hls hst
  obtain ⟨hok, hst9, hx, hb, hre, hml, hown, hts, hS9, hlk, htb, hnm, hA, hE⟩ := id hK
  obtain ⟨hle, hKK, hP, hD, hS, hh0⟩ := id hw
  obtain ⟨hd, -⟩ := dm_ok_at hok hi
  obtain ⟨y, sc, rfl, hv, hs1⟩ := dm_st_cons hst
  have hv : y = .int x := hv
  subst hv
  rw [dm_st_nil hs1]
  refine W.widen hc hs (vx_ret (W.zret hx hb (hre.trans hr) hn (fun t ht hW => ⟨⟨_, _, h, L, tys, ws, rfl, hq, hle, va_K.moved hW.alike hKK, by rw [ht]; exact hP, hD, hh0, rfl⟩, hS.F ht⟩) hS.2.2 hd))
theorem dr_lret {x : Int64} (hi : dm_at z pc = some (.lreturn, 1, [])) (hr : (dm_m z).2.2.2.1 = some .long) (hc : ce ≤ MC) (hs : sl ≤ MS) (hq : Q (.inl (some (.long x))) h) : dm_W E (dm_P Q MC MS) l z d MC MS pc ls [.long x] h ce sl := by
  intro p e s m args below meth c D g tys L0 L ws A H locs lsC stC hK hw hls hst
  obtain ⟨hok, hst9, hx, hb, hre, hml, hown, hts, hS9, hlk, htb, hnm, hA, hE⟩ := id hK
  obtain ⟨hle, hKK, hP, hD, hS, hh0⟩ := id hw
  obtain ⟨hd, -⟩ := dm_ok_at hok hi
  obtain ⟨y, sc, rfl, hv, hs1⟩ := dm_st_cons hst
  have hv : y = .long x := hv
  subst hv
  rw [dm_st_nil hs1]
  refine W.widen hc hs (vx_ret (W.lret hx hb (hre.trans hr) (fun t ht hW => ⟨⟨_, _, h, L, tys, ws, rfl, hq, hle, va_K.moved hW.alike hKK, by rw [ht]; exact hP, hD, hh0, rfl⟩, hS.F ht⟩) hS.2.2 hd))
theorem dr_vret (hi : dm_at z pc = some (.return_, 1, [])) (hr : (dm_m z).2.2.2.1 = none) (hc : ce ≤ MC) (hs : sl ≤ MS) (hq : Q (.inl none) h) : dm_W E (dm_P Q MC MS) l z d MC MS pc ls [] h ce sl := by
  intro p e s m args below meth c D g tys L0 L ws A H locs lsC stC hK hw hls hst
  obtain ⟨hok, hst9, hx, hb, hre, hml, hown, hts, hS9, hlk, htb, hnm, hA, hE⟩ := id hK
  obtain ⟨hle, hKK, hP, hD, hS, hh0⟩ := id hw
  obtain ⟨hd, -⟩ := dm_ok_at hok hi
  rw [dm_st_nil hst]
  refine W.widen hc hs (vx_ret (W.vret hx hb (hre.trans hr) (fun t ht hW => ⟨⟨_, _, h, L, tys, ws, rfl, hq, hle, va_K.moved hW.alike hKK, by rw [ht]; exact hP, hD, hh0, trivial⟩, hS.F ht⟩) hS.2.2 hd))
theorem dr_aret {rt : FieldType} {v : Value} (hi : dm_at z pc = some (.areturn, 1, [])) (hr : (dm_m z).2.2.2.1 = some rt) (hrt : (∃ n, rt = .object n) ∨ ∃ t, rt = .array t) (hv0 : (∃ i, v = .ref i) ∨ ∃ i, v = .float i) (hc : ce ≤ MC) (hs : sl ≤ MS) (hq : Q (.inl (some v)) h) : dm_W E (dm_P Q MC MS) l z d MC MS pc ls [v] h ce sl := by
  intro p e s m args below meth c D g tys L0 L ws A H locs lsC stC hK hw hls hst
  obtain ⟨hok, hst9, hx, hb, hre, hml, hown, hts, hS9, hlk, htb, hnm, hA, hE⟩ := id hK
  obtain ⟨hle, hKK, hP, hD, hS, hh0⟩ := id hw
  obtain ⟨hd, -⟩ := dm_ok_at hok hi
  obtain ⟨y, sc, rfl, hv, hs1⟩ := dm_st_cons hst
  rw [dm_st_nil hs1]
  have h3 : ∃ b, y = .ref b := by
    rcases hv0 with ⟨i, q⟩ | ⟨i, q⟩
    · rw [q] at hv; obtain ⟨b, -, hv⟩ := hv; exact ⟨b, hv⟩
    · rw [q] at hv; exact hv
  refine W.widen hc hs (vx_ret (W.aret hx hb (hre.trans hr) hrt (Or.inr h3) (fun t ht hW => ⟨⟨_, _, h, L, tys, ws, rfl, hq, hle, va_K.moved hW.alike hKK, by rw [ht]; exact hP, hD, hh0, hv⟩, hS.F ht⟩) hS.2.2 hd))
/-! exceptions -/
theorem dm_E_fit (k : Nat) : Bundle.fit (dm_E k) = true := by
  unfold dm_E
  split <;> decide +kernel
theorem dm_atS {args : Array Value} {s : State} {g : Nat → Nat} {A : Nat → Prop} {own X : String} {ic : Nat} {cs : List Nat} (hts : ∀ w ∈ dm_G, w.before args s = true) (hS9 : dm_S g A s s.heap) (he : vx_atS own ic X dm_nms = cs.filterMap dm_T) (hg : (vx_atS own ic X dm_nms).all (fun w => goodWord w || dm_nw w) = true) :
    ∀ w ∈ vx_atS own ic X dm_nms, w.before args s = true := by
  intro w hw
  have h1 := List.all_eq_true.mp hg w hw
  rw [he] at hw
  obtain ⟨c, -, hc⟩ := List.mem_filterMap.mp hw
  rcases Bool.or_eq_true _ _ ▸ h1 with q | q
  · exact hts w (List.mem_filter.mpr ⟨dm_T_mem hc, q⟩)
  · exact va_Nw.use (dm_nw_tab q) (hS9.1 w (List.mem_filter.mpr ⟨dm_T_mem hc, q⟩))
theorem dr_throw {idx ex wide is ic st9 wk wi : Nat} {cs : List Nat} (hi : dm_at z pc = some (.new idx, 3, ex :: wide :: is :: ic :: st9 :: wk :: wi :: cs)) (hcs : 1 ≤ cs.length) (hh : (dm_m z).2.2.2.2 = []) (hd1 : 1 ≤ d) (hc : ce + 1 ≤ MC) (hs : sl + 6 ≤ MS) (hr9 : dm_sum st ≤ 8) (hq : Q (.inr (dm_E (ex - 200))) h) : dm_W E (dm_P Q MC MS) l z d MC MS pc ls st h ce sl := by
  intro p e s m args below meth c D g tys L0 L ws A H locs lsC stC hK hw hls hst
  obtain ⟨hok, hst9, hx, hb, hre, hml, hown, hts, hS9, hlk, htb, hnm, hA, hE⟩ := id hK
  obtain ⟨hle, hKK, hP, hD, hS, hh0⟩ := id hw
  obtain ⟨hd, hR⟩ := dm_ok_at hok hi
  cases cs with
  | nil => cases hcs
  | cons c0 cs =>
  have hR : (decide ((dm_strs[st9]?).map (fun q => (q.1, q.2.1)) = some ((dm_m z).1.cls, is)) && dm_g wk (.classLink (dm_m z).1.cls idx (dm_E (ex - 200))) && dm_g wi (.initialized (dm_E (ex - 200))) &&
      decide (vx_atS (dm_m z).1.cls ic (dm_E (ex - 200)) dm_nms = (c0 :: cs).filterMap dm_T) && (vx_atS (dm_m z).1.cls ic (dm_E (ex - 200)) dm_nms).all (fun w => goodWord w || dm_nw w) &&
      (Cond.classLink (dm_m z).1.cls idx (dm_E (ex - 200)) :: Cond.initialized (dm_E (ex - 200)) :: vx_atS (dm_m z).1.cls ic (dm_E (ex - 200)) dm_nms).all vx_ot &&
      (if wide = 0 then decide (decode (dm_m z).2.1 (pc + 3) = .ok (.dup, 1) ∧ decode (dm_m z).2.1 (pc + 4) = .ok (.ldc is, 2) ∧ decode (dm_m z).2.1 (pc + 6) = .ok (.invokespecial ic, 3) ∧ decode (dm_m z).2.1 (pc + 9) = .ok (.athrow, 1))
        else decide (decode (dm_m z).2.1 (pc + 3) = .ok (.dup, 1) ∧ decode (dm_m z).2.1 (pc + 4) = .ok (.ldc_w is, 3) ∧ decode (dm_m z).2.1 (pc + 7) = .ok (.invokespecial ic, 3) ∧ decode (dm_m z).2.1 (pc + 10) = .ok (.athrow, 1)))) = true := hR
  simp only [Bool.and_eq_true, decide_eq_true_eq] at hR
  obtain ⟨⟨⟨⟨⟨⟨r1, r2⟩, r3⟩, r4⟩, r5⟩, r6⟩, r7⟩ := hR
  obtain ⟨q, hq1, hq2⟩ := Option.map_eq_some_iff.mp r1
  obtain ⟨sa, hsa⟩ := hS9.2.2.2.2.2.1 q (List.mem_of_getElem? hq1)
  have e1 : q.1 = (dm_m z).1.cls := congrArg Prod.fst hq2
  have e2 : q.2.1 = is := congrArg Prod.snd hq2
  rw [e1, e2] at hsa
  have hout : ∀ (k : Nat), ∀ x ∈ c.exceptionTable.toList, covers x k = false := fun k x hx9 => by
    rw [htb, hh] at hx9
    cases hx9
  have hlen : lsC.size = c.maxLocals := by
    obtain ⟨lv, k1, -, -⟩ := hls
    rw [hml]
    exact k1.1
  have hX : ∀ t : State, s.vm.Alike t.vm → H.size ≤ t.heap.size → (∀ q : Nat, q < H.size → t.heap[q]? = H[q]?) → dm_X D g L0 A Q (dm_E (ex - 200)) s t := fun t k1 k2 k3 =>
    ⟨⟨h, L, tys, ws, hq, hle, va_K.moved k1 hKK, fun k q9 hq9 => (hP k q9 hq9).kept (k3 _ (hP k q9 hq9).lt), hD, hh0⟩, Nat.le_trans hS.1 k2, fun q9 n1 n2 => by rw [k3 q9 (Nat.lt_of_lt_of_le n1 hS.1)]; exact hS.2.1 q9 n1 n2⟩
  have hsum : (stC.map fun v => v.category).sum ≤ 8 := by rw [dm_st_sum hst]; exact hr9
  have hrl : (stC.map fun v => v.category).sum + (13 * (dm_nms.length + 1) + 43) ≤ (dm_R d MC MS).locals := by
    show _ + (13 * (2 + 1) + 43) ≤ 200 * d
    omega
  have hrf : dm_nms.length + 3 < (dm_R d MC MS).frames := by
    show 2 + 3 < 4 * d + 368
    omega
  have hgo : ∀ w ∈ Cond.classLink (dm_m z).1.cls idx (dm_E (ex - 200)) :: Cond.initialized (dm_E (ex - 200)) :: vx_atS (dm_m z).1.cls ic (dm_E (ex - 200)) dm_nms, vx_ot w = true := List.all_eq_true.mp r6
  have hnm2 : ∀ n ∈ dm_nms, Bundle.fit n = true := by decide +kernel
  split at r7
  · simp only [decide_eq_true_eq] at r7
    exact vx_throwS hx hb hst9 hown (dm_E_fit _) hnm2 (hts _ (dm_g_mem r2)) (hts _ (dm_g_mem r3)) hsa (dm_atS hts hS9 r4 r5) hgo hS9.2.2.2.1 hS9.2.2.2.2.1 hS hlen hd r7.1 r7.2.1 r7.2.2.1 r7.2.2.2 (hout _) hrf hrl hc hs hlk hX hS.2.2 hc hs
  · simp only [decide_eq_true_eq] at r7
    exact vx_throwSW hx hb hst9 hown (dm_E_fit _) hnm2 (hts _ (dm_g_mem r2)) (hts _ (dm_g_mem r3)) hsa (dm_atS hts hS9 r4 r5) hgo hS9.2.2.2.1 hS9.2.2.2.2.1 hS hlen hd r7.1 r7.2.1 r7.2.2.1 r7.2.2.2 (hout _) hrf hrl hc hs hlk hX hS.2.2 hc hs
/-- an exception goes on to the caller -/
theorem dr_out {X : String} (hh : (dm_m z).2.2.2.2 = []) (hc : ce ≤ MC) (hs : sl ≤ MS) (hq : Q (.inr X) h) : dm_T9 E (dm_P Q MC MS) l z d MC MS X pc ls h ce sl := by
  intro p e s m args below meth c D g tys L0 L ws A H locs lsC stC cx q hK hw hls hcx hcv hcl
  obtain ⟨hok, hst9, hx, hb, hre, hml, hown, hts, hS9, hlk, htb, hnm, hA, hE⟩ := id hK
  obtain ⟨hle, hKK, hP, hD, hS, hh0⟩ := id hw
  exact vx_out (fun x hx9 => by rw [htb, hh] at hx9; cases hx9) hlk hcx hcv hcl (fun t ht hv => ⟨⟨h, L, tys, ws, hq, hle, va_K.moved hv hKK, by rw [ht]; exact hP, hD, hh0⟩, hS.F ht⟩) hS.2.2 hc hs
/-- .. or is caught here -/
theorem dr_catch {X : String} {pre suf : List ExceptionTableEntry} {x : ExceptionTableEntry} (hsp : tableOf (dm_m z).2.2.2.2 = pre ++ x :: suf) (hX : X ∈ dm_exs)
    (hpass : ∀ y ∈ pre, covers y pc = false ∨ (y.catchType ≠ 0 ∧ ∃ nm ∈ dm_exs, X ≠ nm ∧ Cond.classLink (dm_m z).1.cls y.catchType nm ∈ dm_G)) (hx : covers x pc = true) (h0 : x.catchType ≠ 0) (hl : Cond.classLink (dm_m z).1.cls x.catchType X ∈ dm_G) (hcs : Cond.castable X X ∈ dm_N)
    (kk : dm_W E P l z d MC MS x.handlerPc ls [.float 0] h ce sl) : dm_T9 E P l z d MC MS X pc ls h ce sl := by
  intro p e s m args below meth c D g tys L0 L ws A H locs lsC stC cx q hK hw hls hcx hcv hcl
  obtain ⟨hok, hst9, hx9, hb, hre, hml, hown, hts, hS9, hlk, htb, hnm, hA, hE⟩ := id hK
  refine vx_catch hown pre x suf (by rw [htb, hsp]) (fun y hy => ?_) hx h0 (hts _ hl) (va_Nw.use rfl (hS9.1 _ hcs)) hcx hcv hcl (kk _ _ _ _ _ _ _ _ _ _ _ _ _ _ _ _ _ _ _ hK hw hls ⟨⟨q, rfl⟩, trivial⟩)
  rcases hpass y hy with q | ⟨q1, nm, q2, q3, q4⟩
  · exact Or.inl q
  · exact Or.inr ⟨q1, nm, hts _ q4, hS9.2.2.2.2.2.2.1 X hX nm q2 q3⟩
/-! calls -/
def dm_split : Nat → List Value → List Value → Option (List Value × List Value)
  | 0, r, acc => some (acc, r)
  | n + 1, v :: r, acc => dm_split n r (v :: acc)
  | _ + 1, [], _ => none
theorem dm_split_ok : ∀ {n : Nat} {st acc av r : List Value}, dm_split n st acc = some (av, r) → ∃ b, st = b ++ r ∧ av = b.reverse ++ acc ∧ b.length = n
  | 0, st, acc, av, r, h => by
    cases h
    exact ⟨[], rfl, rfl, rfl⟩
  | n + 1, v :: st, acc, av, r, h => by
    obtain ⟨b, h1, h2, h3⟩ := dm_split_ok (n := n) h
    exact ⟨v :: b, by rw [h1]; rfl, by rw [h2, List.reverse_cons, List.append_assoc]; rfl, by rw [List.length_cons, h3]⟩
  | n + 1, [], acc, av, r, h => by cases h
theorem dm_o_st {g : Nat → Nat} {L : List Nat} : ∀ {v x : Option Value}, dm_o g L v x → dm_st g L v.toList x.toList
  | none, none, _ => trivial
  | some _, some _, h => ⟨h, trivial⟩
  | none, some _, h => h.elim
  | some _, none, h => h.elim
theorem dm_A_in {A : Nat → Prop} {s : State} {ws : va_W} {H : Heap} {locs : List Loc} (hD : va_D A ws) (hS : va_S A s.heap H locs) (hA : ∀ q, s.heap.size ≤ q → A q) : ∀ q, va_A ws H.size q → A q := by
  intro q hq
  rcases hq with ⟨k, e, h⟩ | h
  · exact hD.2 k (q, e) h
  · exact hA q (Nat.le_trans hS.1 h)
theorem dm_go {p : Program} {e : Env} {R : Room} {s : State} {m : MethodId} {args : Array Value} {below : List Frame} {meth : Method} {c : Code} {D : va_G} {g : Nat → Nat} {L : List Nat} {ws : va_W} {A : Nat → Prop} {H : Heap} {locs : List Loc} {lsC : Array Slot} {stC restC : List Value} {mc2 ms2 : Nat} {aC : Array Value} {Q2 : dm_Rs} {PQ : State → Prop}
    (hr : vx_Run p l e R s m args below meth c H locs ce sl mc2 ms2 (F0 m pc lsC stC) restC (dm_Q D g L (va_A ws H.size) Q2 aC) (dm_X D g L (va_A ws H.size) Q2) (va_A ws H.size))
    (hD : va_D A ws) (hS : va_S A s.heap H locs) (hA : ∀ q, s.heap.size ≤ q → A q)
    (kx : ∀ (X : String) (cx : Cell) (q : Addr) (h' : dm_H) (L' : List Nat) (tys' : List (ClassId × FieldType)) (ws' : va_W) (H1 : Heap) (locs1 : List Loc), Q2 (.inr X) h' → dm_wd D g tys' L L' ws' A s H1 locs1 h' → H1[q]? = some cx → cx.vm = .none → s.vm.findClass X = some cx.cls → vx_W p l e R s m args below meth c H1 locs1 (ce + mc2) (sl + ms2) PQ (F0 m pc lsC restC) q)
    (kk : ∀ (v x : Option Value) (h' : dm_H) (L' : List Nat) (tys' : List (ClassId × FieldType)) (ws' : va_W) (H1 : Heap) (locs1 : List Loc), Q2 (.inl v) h' → dm_wd D g tys' L L' ws' A s H1 locs1 h' → dm_o g L' v x → W p l e R s m args below meth c H1 locs1 (ce + mc2) (sl + ms2) PQ (F0 m (pc + 3) lsC (x.toList ++ restC))) :
    W p l e R s m args below meth c H locs ce sl PQ (F0 m pc lsC stC) := by
  have hA1 := dm_A_in hD hS hA
  intro T hT X
  rcases hr T hT X with ⟨v, st₀, t, T', LL, h0, X', hL, e1, e2, ⟨⟨va, vx, h', L', tys', ws', ho, hq, hle, hk, hp, hd, hh, hov⟩, hF⟩, stp⟩ | ⟨q, st₀, t, T', LL, EX, cx, h0, X', hL, e1, e2, ⟨⟨h', L', tys', ws', hq, hle, hk, hp, hd, hh⟩, hF⟩, hce, hcv, hcl, stp⟩
  · cases ho
    obtain ⟨k1, k2, k3⟩ := vx_keep h0 e1 hS (fun q _ z9 => hA1 q z9) hA1 hL hF
    have hvm : s.vm.Alike t.vm := by rw [← e2]; exact X'.warmed.alike
    obtain ⟨t2, a1, b1⟩ := kk va v h' L' tys' ws' T'.heap (locs ++ LL) hq ⟨hle, va_K.moved hvm.symm hk, by rw [e1]; exact hp, hd.weaken (fun _ q9 _ w9 => hA1 q9.1 w9), k3, hh⟩ hov T' rfl X'
    exact ⟨t2, stp t2 a1, b1⟩
  · obtain ⟨k1, k2, k3⟩ := vx_keep h0 e1 hS (fun q _ z9 => hA1 q z9) hA1 hL hF
    have hvm : s.vm.Alike t.vm := by rw [← e2]; exact X'.warmed.alike
    obtain ⟨t2, a1, b1⟩ := kx EX cx q h' L' tys' ws' T'.heap (locs ++ LL) hq ⟨hle, va_K.moved hvm.symm hk, by rw [e1]; exact hp, hd.weaken (fun _ q9 _ w9 => hA1 q9.1 w9), k3, hh⟩ (by rw [e1]; exact hce) hcv hcl T' rfl X'
    exact ⟨t2, stp.trans a1, b1⟩
abbrev dm_Pc (D : va_G) (g : Nat → Nat) (tys : List (ClassId × FieldType)) (ws : va_W) (sz : Nat) (avC : List Value) : Array Value → State → Prop := va_Pc avC (fun U => U.heap.size = sz ∧ va_P D vwCl ws U.heap ∧ va_K D vwCl tys U ∧ va_D (fun _ => True) ws ∧ dm_S g (va_A ws sz) U U.heap)
theorem dm_blind {D : va_G} {g : Nat → Nat} {tys : List (ClassId × FieldType)} {ws : va_W} {sz : Nat} {avC : List Value} : FrameBlind (dm_Pc D g tys ws sz avC) := fun a U g9 mk q => by
  obtain ⟨q1, q2, q3, q4, q5, q6⟩ := q
  exact ⟨q1, q2, q3, va_K.moved (u := U) (U := U.calling g9 mk a) (Vm.Alike.refl U.vm) q4, q5, dm_S_same q6 rfl⟩
theorem dm_pre {s : State} {D : va_G} {g : Nat → Nat} {tys : List (ClassId × FieldType)} {ws : va_W} {A : Nat → Prop} {H : Heap} {locs : List Loc} (hS9 : dm_S g A s s.heap) (hKK : va_K D vwCl tys s) (hP : va_P D vwCl ws H) (hD : va_D A ws) (hS : va_S A s.heap H locs) (hA : ∀ q, s.heap.size ≤ q → A q) (avC : List Value) :
    ∀ U : State, U.heap = H → s.WarmedH U.vm → dm_Pc D g tys ws H.size avC avC.toArray U := fun U hU hW =>
  ⟨rfl, by rw [hU], by rw [hU]; exact hP, va_K.moved hW.alike hKK, hD.weaken (fun _ _ _ _ => trivial), by rw [hU]; exact dm_S_go hS9 hW hS.2.1 (dm_A_in hD hS hA)⟩
theorem dm_okY_use {z2 wi wc n k : Nat} {args : Array Value} {s : State} (hts : ∀ w ∈ dm_G, w.before args s = true) (hY : dm_okY z2 wi wc = true) (hnr : dm_nr[z2]? = some (n, k)) :
    (Cond.initialized (dm_m z2).1.cls).before args s = true ∧ dm_cw z2 ∈ dm_G ∧ ((dm_m z2).1.cls ≠ "java/lang/invoke/MethodHandle" ∧ (dm_m z2).1.cls ≠ "java/lang/invoke/VarHandle") ∧ (dm_m z2).2.2.1 ≤ 100 ∧ (∀ sig, parseMethodDescriptor (dm_m z2).1.desc = some sig → n = sig.parameters.length) ∧
    (∀ w ∈ dm_ws z2, ∀ (a' : Array Value) (U : State), s.WarmedH U.vm → w.before a' U = true) := by
  simp only [dm_okY, Bool.and_eq_true, decide_eq_true_eq] at hY
  obtain ⟨⟨⟨⟨r1, r2⟩, r3⟩, r4⟩, r5⟩ := hY
  have hc := dm_g_mem r2
  refine ⟨hts _ (dm_g_mem r1), hc, r3, r4, fun sig hs => ?_, fun w hw a' U hW => ?_⟩
  · rw [hs, hnr] at r5
    exact (Option.some.inj r5).symm
  · have hw' : w ∈ dm_G := by
      rcases List.mem_cons.mp hw with q | q
      · rw [q]; exact hc
      · exact q
    exact word_at hW (good_of_word (dm_G_good hw')) (hts w hw')
/-- from the run of a callee -/
theorem dm_fin {p : Program} {e : Env} {s : State} {m : MethodId} {args : Array Value} {below : List Frame} {meth : Method} {c : Code} {D : va_G} {g : Nat → Nat} {tys : List (ClassId × FieldType)} {L0 L : List Nat} {ws : va_W} {A : Nat → Prop} {H : Heap} {locs : List Loc} {lsC : Array Slot} {stC restC rest : List Value} {mc2 ms2 : Nat} {aC : Array Value} {Q2 : dm_Rs}
    (hr : vx_Run p l e (dm_R d MC MS) s m args below meth c H locs ce sl mc2 ms2 (F0 m pc lsC stC) restC (dm_Q D g L (va_A ws H.size) Q2 aC) (dm_X D g L (va_A ws H.size) Q2) (va_A ws H.size))
    (hK : dm_K E l z p s m args meth c g A) (hw : dm_wd D g tys L0 L ws A s H locs h) (hls : dm_ls g L (dm_m z).2.2.1 ls lsC) (hrs : dm_st g L rest restC)
    (kx : ∀ (X : String) (h' : dm_H), Q2 (.inr X) h' → dm_T9 E P l z d MC MS X pc ls h' (ce + mc2) (sl + ms2))
    (kk : ∀ (v : Option Value) (h' : dm_H), Q2 (.inl v) h' → dm_W E P l z d MC MS (pc + 3) ls (v.toList ++ rest) h' (ce + mc2) (sl + ms2)) :
    W p l e (dm_R d MC MS) s m args below meth c H locs ce sl (P D g L0 A below args s) (F0 m pc lsC stC) := by
  obtain ⟨hle, hKK, hP, hD, hS, hh0⟩ := id hw
  obtain ⟨hok, hst9, hx, hb, hre, hml, hown, hts, hS9, hlk, htb, hnm, hA, hE⟩ := id hK
  refine dm_go hr hD hS hA (fun X cx q h' L' tys' ws' H1 locs1 hq hw' h1 h2 h3 => ?_) (fun v x h' L' tys' ws' H1 locs1 hq hw' ho => ?_)
  · exact kx X h' hq _ _ _ _ _ _ _ _ _ _ _ L0 _ _ _ _ _ _ _ _ _ hK ⟨dm_le_tr hle hw'.1, hw'.2⟩ (dm_ls_up hw'.1 hls) h1 h2 h3
  · exact kk v h' hq _ _ _ _ _ _ _ _ _ _ _ L0 _ _ _ _ _ _ _ hK ⟨dm_le_tr hle hw'.1, hw'.2⟩ (dm_ls_up hw'.1 hls) (dm_st_join (dm_o_st ho) (dm_st_up hw'.1 hrs))
theorem dm_met {z2 d2 mc2 ms2 : Nat} {av avC : List Value} {Q2 : dm_Rs} {D : va_G} {g : Nat → Nat} {tys : List (ClassId × FieldType)} {L : List Nat} {ws : va_W} {sz : Nat} (hM : dm_M l z2 d2 mc2 ms2 av h Q2) (hno : ∀ X h', ¬ Q2 (.inr X) h') (hh0 : dm_h g tys L h ws) (hst : dm_st g L av avC) :
    Met l (dm_m z2).1 (dm_ws z2) (dm_R d2 mc2 ms2) (dm_Pc D g tys ws sz avC) (dm_Q D g L (va_A ws sz) Q2) mc2 ms2 (va_A ws sz) := by
  intro p e h1 h2 h3 s m args below h4 h5 h6 h7
  obtain ⟨n, o, a1, a2, a3, a4⟩ := hM D g tys L ws sz avC hh0 hst p e h1 h2 h3 s m args below h4 h5 h6 h7
  refine ⟨n, o, a1, a2, a3, ?_⟩
  rcases a4 with a4 | ⟨q, rfl, EX, cx, LL, ⟨⟨h', _, _, _, hq, _⟩, _⟩, _⟩
  · exact a4
  · exact absurd hq (hno _ _)
theorem dm_args {g : Nat → Nat} {L : List Nat} {n : Nat} {stC av rest : List Value} (hsp : dm_split n st [] = some (av, rest)) (hst : dm_st g L st stC) : ∃ avC restC, stC = avC.reverse ++ restC ∧ dm_st g L av avC ∧ dm_st g L rest restC ∧ avC.length = n := by
  obtain ⟨b, h1, h2, h3⟩ := dm_split_ok hsp
  rw [h1] at hst
  obtain ⟨c, dd, rfl, h4, h5⟩ := dm_st_app hst
  rw [List.append_nil] at h2
  refine ⟨c.reverse, dd, by rw [List.reverse_reverse], by rw [h2]; exact dm_st_rev h4, h5, ?_⟩
  rw [List.length_reverse, dm_st_len h4, h3]
theorem dr_stat {idx z2 w1 w2 w3 w4 d2 mc2 ms2 n k : Nat} {av rest : List Value} {Q2 : dm_Rs} (hi : dm_at z pc = some (.invokestatic idx, 3, [z2, 0, w1, w2, w3, w4])) (hnr : dm_nr[z2]? = some (n, k)) (hh2 : (dm_m z2).2.2.2.2 = []) (hsp : dm_split n st [] = some (av, rest)) (hM : dm_M l z2 d2 mc2 ms2 av h Q2)
    (hd2 : d2 < d) (hc : ce + mc2 ≤ MC) (hs : sl + ms2 ≤ MS) (hr : dm_sum rest ≤ 8)
    (kx : ∀ (X : String) (h' : dm_H), Q2 (.inr X) h' → dm_T9 E P l z d MC MS X pc ls h' (ce + mc2) (sl + ms2))
    (kk : ∀ (v : Option Value) (h' : dm_H), Q2 (.inl v) h' → dm_W E P l z d MC MS (pc + 3) ls (v.toList ++ rest) h' (ce + mc2) (sl + ms2)) : dm_W E P l z d MC MS pc ls st h ce sl := by
  intro p e s m args below meth c D g tys L0 L ws A H locs lsC stC hK hw hls hst
  obtain ⟨hok, hst9, hx, hb, hre, hml, hown, hts, hS9, hlk, htb, hnm, hA, hE⟩ := id hK
  obtain ⟨hle, hKK, hP, hD, hS, hh0⟩ := id hw
  obtain ⟨hd, hR⟩ := dm_ok_at hok hi
  have hR : (dm_g w1 (.methodLink (dm_m z).1.cls idx (dm_m z2).1) && dm_g w2 (.static (dm_m z2).1) && dm_okY z2 w3 w4) = true := hR
  simp only [Bool.and_eq_true] at hR
  obtain ⟨⟨r1, r2⟩, r3⟩ := hR
  obtain ⟨y1, y2, y3, y4, y5, y6⟩ := dm_okY_use hts r3 hnr
  obtain ⟨avC, restC, rfl, ha, hrs, hlen⟩ := dm_args hsp hst
  have hsz : lsC.size = (dm_m z).2.2.1 := by obtain ⟨lv, k1, -, -⟩ := hls; exact k1.1
  rw [dm_cw0 hh2] at y2
  refine dm_fin (vx_runS (As := avC) ⟨hx, hb, hml, hown, hts⟩ (hM D g tys L ws H.size avC hh0 ha) ⟨⟨rfl, rfl, by show 4 * d2 + 368 + 1 ≤ 4 * d + 368; omega, by show 8 + ((dm_m z2).2.2.1 + 11) + 200 * d2 ≤ 200 * d; omega, y6, by rw [dm_ws, dm_cw0 hh2]; exact List.mem_cons_self, hts _ y2, y1, y3, y5, hts _ (dm_g_mem r1)⟩, hts _ (dm_g_mem r2)⟩
    ⟨dm_blind, dm_pre hS9 hKK hP hD hS hA avC⟩ rfl hlen hsz rfl (lv_room (by rw [dm_st_sum hrs]; exact hr)) hd ⟨hc, hs⟩) hK hw hls hrs kx kk
theorem dr_virt {idx z2 w1 w2 w3 w4 w5 d2 mc2 ms2 n ci i : Nat} {av rest vs : List Value} {Q2 : dm_Rs} (hi : dm_at z pc = some (.invokevirtual idx, 3, [z2, 1, w1, w2, w3, w4, w5])) (hnr : dm_nr[z2]? = some (n, ci)) (hh2 : (dm_m z2).2.2.2.2 = []) (hsp : dm_split n st [] = some (av, .ref i :: rest)) (hob : h[i]? = some (ci, vs)) (hM : dm_M l z2 d2 mc2 ms2 (.ref i :: av) h Q2)
    (hd2 : d2 < d) (hc : ce + mc2 ≤ MC) (hs : sl + ms2 ≤ MS) (hr : dm_sum rest ≤ 8)
    (kx : ∀ (X : String) (h' : dm_H), Q2 (.inr X) h' → dm_T9 E P l z d MC MS X pc ls h' (ce + mc2) (sl + ms2))
    (kk : ∀ (v : Option Value) (h' : dm_H), Q2 (.inl v) h' → dm_W E P l z d MC MS (pc + 3) ls (v.toList ++ rest) h' (ce + mc2) (sl + ms2)) : dm_W E P l z d MC MS pc ls st h ce sl := by
  intro p e s m args below meth c D g tys L0 L ws A H locs lsC stC hK hw hls hst
  obtain ⟨hok, hst9, hx, hb, hre, hml, hown, hts, hS9, hlk, htb, hnm, hA, hE⟩ := id hK
  obtain ⟨hle, hKK, hP, hD, hS, hh0⟩ := id hw
  obtain ⟨hd, hR⟩ := dm_ok_at hok hi
  have hR : (dm_g w1 (.methodLink (dm_m z).1.cls idx (dm_m z2).1) && dm_g w2 (.instanceMethod (dm_m z2).1) && dm_g w3 (.selects (dm_m z2).1.cls (dm_m z2).1 (dm_m z2).1) && dm_okY z2 w4 w5 && dm_okC z2) = true := hR
  simp only [Bool.and_eq_true] at hR
  obtain ⟨⟨⟨⟨r1, r2⟩, r3⟩, r4⟩, r5⟩ := hR
  obtain ⟨y1, y2, y3, y4, y5, y6⟩ := dm_okY_use hts r4 hnr
  obtain ⟨avC, restC0, rfl, ha, hrs0, hlen⟩ := dm_args hsp hst
  obtain ⟨y9, restC, rfl, ⟨a, hia, rfl⟩, hrs⟩ := dm_st_cons hrs0
  have hsz : lsC.size = (dm_m z).2.2.1 := by obtain ⟨lv, k1, -, -⟩ := hls; exact k1.1
  rw [dm_cw0 hh2] at y2
  unfold dm_okC at r5
  rw [hnr] at r5
  simp only [decide_eq_true_eq] at r5
  obtain ⟨q, hq1, hq2⟩ := Option.map_eq_some_iff.mp r5
  obtain ⟨a', fs, g1, g2, g3, g4⟩ := dm_obj hh0 hob (Nat.lt_of_lt_of_le (dm_vwlt hq1) (by decide))
  cases hia.symm.trans g1
  obtain ⟨cb, b1, b2, b3⟩ := va_recv hKK hP hq1 g2
  rw [hq2] at b3
  refine dm_fin (vx_runV (As := avC) (C := (dm_m z2).1.cls) ⟨hx, hb, hml, hown, hts⟩ (hM D g tys L ws H.size (.ref a :: avC) hh0 ⟨⟨a, hia, rfl⟩, ha⟩) ⟨⟨rfl, rfl, by show 4 * d2 + 368 + 1 ≤ 4 * d + 368; omega, by show 8 + ((dm_m z2).2.2.1 + 11) + 200 * d2 ≤ 200 * d; omega, y6, by rw [dm_ws, dm_cw0 hh2]; exact List.mem_cons_self, hts _ y2, y1, y3, y5, hts _ (dm_g_mem r1)⟩, hts _ (dm_g_mem r2), hts _ (dm_g_mem r3)⟩
    ⟨dm_blind, ⟨cb, b1, b2, b3⟩, dm_pre hS9 hKK hP hD hS hA (.ref a :: avC)⟩ rfl hlen hsz rfl (lv_room (by rw [dm_st_sum hrs]; exact hr)) hd ⟨hc, hs⟩) hK hw hls hrs kx kk
theorem dm_ofMet {p : Program} {e : Env} {R : Room} {s : State} {m : MethodId} {args : Array Value} {below : List Frame} {meth : Method} {c : Code} {H : Heap} {locs : List Loc} {cells slots mc ms : Nat} {g : JFrame} {rest : List Value} {Qa : State → Outcome → State → Prop} {XC : String → State → State → Prop} {free : Addr → Prop} (hr : va_Run p l e R s m args below meth c H locs cells slots mc ms g rest Qa free) : vx_Run p l e R s m args below meth c H locs cells slots mc ms g rest Qa XC free :=
  fun T hT X => Or.inl (hr T hT X)
theorem dr_init {idx z2 w1 w2 w3 w4 d2 mc2 ms2 n k i : Nat} {av rest : List Value} {Q2 : dm_Rs} (hi : dm_at z pc = some (.invokespecial idx, 3, [z2, 2, w1, w2, w3, w4])) (hnr : dm_nr[z2]? = some (n, k)) (hh2 : (dm_m z2).2.2.2.2 = []) (hrt : (dm_m z2).2.2.2.1 = none) (hsp : dm_split n st [] = some (av, .ref i :: rest)) (hM : dm_M l z2 d2 mc2 ms2 (.ref i :: av) h Q2) (hno : ∀ X h', ¬ Q2 (.inr X) h')
    (hd2 : d2 < d) (hc : ce + mc2 ≤ MC) (hs : sl + ms2 ≤ MS) (hr : dm_sum rest ≤ 8)
    (kk : ∀ (v : Option Value) (h' : dm_H), Q2 (.inl v) h' → dm_W E P l z d MC MS (pc + 3) ls (v.toList ++ rest) h' (ce + mc2) (sl + ms2)) : dm_W E P l z d MC MS pc ls st h ce sl := by
  intro p e s m args below meth c D g tys L0 L ws A H locs lsC stC hK hw hls hst
  obtain ⟨hok, hst9, hx, hb, hre, hml, hown, hts, hS9, hlk, htb, hnm, hA, hE⟩ := id hK
  obtain ⟨hle, hKK, hP, hD, hS, hh0⟩ := id hw
  obtain ⟨hd, hR⟩ := dm_ok_at hok hi
  have hR : (dm_g w1 (.methodLink (dm_m z).1.cls idx (dm_m z2).1) && dm_g w2 (.instanceMethod (dm_m z2).1) && dm_okY z2 w3 w4 && decide ((dm_m z2).1.name = "<init>")) = true := hR
  simp only [Bool.and_eq_true, decide_eq_true_eq] at hR
  obtain ⟨⟨⟨r1, r2⟩, r3⟩, r4⟩ := hR
  obtain ⟨y1, y2, y3, y4, y5, y6⟩ := dm_okY_use hts r3 hnr
  obtain ⟨avC, restC0, rfl, ha, hrs0, hlen⟩ := dm_args hsp hst
  obtain ⟨y9, restC, rfl, ⟨a, hia, rfl⟩, hrs⟩ := dm_st_cons hrs0
  have hsz : lsC.size = (dm_m z).2.2.1 := by obtain ⟨lv, k1, -, -⟩ := hls; exact k1.1
  rw [dm_cw0 hh2, hrt] at y2
  refine dm_fin (dm_ofMet (va_runI (As := avC) ⟨hx, hb, hml, hown, hts⟩ (dm_met hM hno hh0 (avC := .ref a :: avC) ⟨⟨a, hia, rfl⟩, ha⟩) ⟨⟨rfl, rfl, by show 4 * d2 + 368 + 1 ≤ 4 * d + 368; omega, by show 8 + ((dm_m z2).2.2.1 + 11) + 200 * d2 ≤ 200 * d; omega, y6, by rw [dm_ws, dm_cw0 hh2, hrt]; exact List.mem_cons_self, hts _ y2, y1, y3, y5, hts _ (dm_g_mem r1)⟩, r4, hts _ (dm_g_mem r2)⟩
    ⟨dm_blind, dm_pre hS9 hKK hP hD hS hA (.ref a :: avC)⟩ rfl hlen hsz rfl (lv_room (by rw [dm_st_sum hrs]; exact hr)) hd ⟨hc, hs⟩)) hK hw hls hrs (fun X h' q => absurd q (hno X h')) kk
theorem dm_nh_use {own : String} {idx w : Nat} {y : MethodName} {args : Array Value} {s : State} {g : Nat → Nat} {A : Nat → Prop} (hS9 : dm_S g A s s.heap) (h : dm_nh own idx y w = true) : ∃ host, (Cond.methodLinkNest own idx y host).before args s = true := by
  unfold dm_nh at h
  split at h
  · rename_i o i x host hT
    simp only [decide_eq_true_eq] at h
    obtain ⟨rfl, rfl, rfl⟩ := h
    exact ⟨host, va_Nw.use rfl (hS9.1 _ (List.mem_filter.mpr ⟨dm_T_mem hT, rfl⟩))⟩
  · cases h
theorem dr_initN {idx z2 w1 w2 w3 w4 d2 mc2 ms2 n k i : Nat} {av rest : List Value} {Q2 : dm_Rs} (hi : dm_at z pc = some (.invokespecial idx, 3, [z2, 5, w1, w2, w3, w4])) (hnr : dm_nr[z2]? = some (n, k)) (hh2 : (dm_m z2).2.2.2.2 = []) (hrt : (dm_m z2).2.2.2.1 = none) (hsp : dm_split n st [] = some (av, .ref i :: rest)) (hM : dm_M l z2 d2 mc2 ms2 (.ref i :: av) h Q2) (hno : ∀ X h', ¬ Q2 (.inr X) h')
    (hd2 : d2 < d) (hc : ce + mc2 ≤ MC) (hs : sl + ms2 ≤ MS) (hr : dm_sum rest ≤ 8)
    (kk : ∀ (v : Option Value) (h' : dm_H), Q2 (.inl v) h' → dm_W E P l z d MC MS (pc + 3) ls (v.toList ++ rest) h' (ce + mc2) (sl + ms2)) : dm_W E P l z d MC MS pc ls st h ce sl := by
  intro p e s m args below meth c D g tys L0 L ws A H locs lsC stC hK hw hls hst
  obtain ⟨hok, hst9, hx, hb, hre, hml, hown, hts, hS9, hlk, htb, hnm, hA, hE⟩ := id hK
  obtain ⟨hle, hKK, hP, hD, hS, hh0⟩ := id hw
  obtain ⟨hd, hR⟩ := dm_ok_at hok hi
  have hR : (dm_nh (dm_m z).1.cls idx (dm_m z2).1 w1 && dm_g w2 (.instanceMethod (dm_m z2).1) && dm_okY z2 w3 w4 && decide ((dm_m z2).1.name = "<init>")) = true := hR
  simp only [Bool.and_eq_true, decide_eq_true_eq] at hR
  obtain ⟨⟨⟨r1, r2⟩, r3⟩, r4⟩ := hR
  obtain ⟨host, r1⟩ := dm_nh_use (args := args) hS9 r1
  obtain ⟨y1, y2, y3, y4, y5, y6⟩ := dm_okY_use hts r3 hnr
  obtain ⟨avC, restC0, rfl, ha, hrs0, hlen⟩ := dm_args hsp hst
  obtain ⟨y9, restC, rfl, ⟨a, hia, rfl⟩, hrs⟩ := dm_st_cons hrs0
  have hsz : lsC.size = (dm_m z).2.2.1 := by obtain ⟨lv, k1, -, -⟩ := hls; exact k1.1
  rw [dm_cw0 hh2, hrt] at y2
  refine dm_fin (dm_ofMet (va_runIN (As := avC) ⟨hx, hb, hml, hown, hts⟩ (dm_met hM hno hh0 (avC := .ref a :: avC) ⟨⟨a, hia, rfl⟩, ha⟩) ⟨⟨⟨rfl, rfl, by show 4 * d2 + 368 + 1 ≤ 4 * d + 368; omega, by show 8 + ((dm_m z2).2.2.1 + 11) + 200 * d2 ≤ 200 * d; omega, y6, by rw [dm_ws, dm_cw0 hh2, hrt]; exact List.mem_cons_self⟩, hts _ y2, y1, y3, y5, r1⟩, r4, hts _ (dm_g_mem r2)⟩
    ⟨dm_blind, dm_pre hS9 hKK hP hD hS hA (.ref a :: avC)⟩ rfl hlen hsz rfl (lv_room (by rw [dm_st_sum hrs]; exact hr)) hd ⟨hc, hs⟩)) hK hw hls hrs (fun X h' q => absurd q (hno X h')) kk
theorem dr_statN {idx z2 w1 w2 w3 w4 d2 mc2 ms2 n k : Nat} {av rest : List Value} {Q2 : dm_Rs} (hi : dm_at z pc = some (.invokestatic idx, 3, [z2, 4, w1, w2, w3, w4])) (hnr : dm_nr[z2]? = some (n, k)) (hh2 : (dm_m z2).2.2.2.2 = []) (hsp : dm_split n st [] = some (av, rest)) (hM : dm_M l z2 d2 mc2 ms2 av h Q2) (hno : ∀ X h', ¬ Q2 (.inr X) h')
    (hd2 : d2 < d) (hc : ce + mc2 ≤ MC) (hs : sl + ms2 ≤ MS) (hr : dm_sum rest ≤ 8)
    (kk : ∀ (v : Option Value) (h' : dm_H), Q2 (.inl v) h' → dm_W E P l z d MC MS (pc + 3) ls (v.toList ++ rest) h' (ce + mc2) (sl + ms2)) : dm_W E P l z d MC MS pc ls st h ce sl := by
  intro p e s m args below meth c D g tys L0 L ws A H locs lsC stC hK hw hls hst
  obtain ⟨hok, hst9, hx, hb, hre, hml, hown, hts, hS9, hlk, htb, hnm, hA, hE⟩ := id hK
  obtain ⟨hle, hKK, hP, hD, hS, hh0⟩ := id hw
  obtain ⟨hd, hR⟩ := dm_ok_at hok hi
  have hR : (dm_nh (dm_m z).1.cls idx (dm_m z2).1 w1 && dm_g w2 (.static (dm_m z2).1) && dm_okY z2 w3 w4) = true := hR
  simp only [Bool.and_eq_true] at hR
  obtain ⟨⟨r1, r2⟩, r3⟩ := hR
  obtain ⟨host, r1⟩ := dm_nh_use (args := args) hS9 r1
  obtain ⟨y1, y2, y3, y4, y5, y6⟩ := dm_okY_use hts r3 hnr
  obtain ⟨avC, restC, rfl, ha, hrs, hlen⟩ := dm_args hsp hst
  have hsz : lsC.size = (dm_m z).2.2.1 := by obtain ⟨lv, k1, -, -⟩ := hls; exact k1.1
  rw [dm_cw0 hh2] at y2
  refine dm_fin (dm_ofMet (va_runSN (As := avC) ⟨hx, hb, hml, hown, hts⟩ (dm_met hM hno hh0 ha) ⟨⟨⟨rfl, rfl, by show 4 * d2 + 368 + 1 ≤ 4 * d + 368; omega, by show 8 + ((dm_m z2).2.2.1 + 11) + 200 * d2 ≤ 200 * d; omega, y6, by rw [dm_ws, dm_cw0 hh2]; exact List.mem_cons_self⟩, hts _ y2, y1, y3, y5, r1⟩, hts _ (dm_g_mem r2), trivial⟩
    ⟨dm_blind, dm_pre hS9 hKK hP hD hS hA avC⟩ rfl hlen hsz rfl (lv_room (by rw [dm_st_sum hrs]; exact hr)) hd ⟨hc, hs⟩)) hK hw hls hrs (fun X h' q => absurd q (hno X h')) kk
theorem dr_virtN {idx z2 w1 w2 w3 w4 w5 d2 mc2 ms2 n ci i : Nat} {av rest vs : List Value} {Q2 : dm_Rs} (hi : dm_at z pc = some (.invokevirtual idx, 3, [z2, 6, w1, w2, w3, w4, w5])) (hnr : dm_nr[z2]? = some (n, ci)) (hh2 : (dm_m z2).2.2.2.2 = []) (hsp : dm_split n st [] = some (av, .ref i :: rest)) (hob : h[i]? = some (ci, vs)) (hM : dm_M l z2 d2 mc2 ms2 (.ref i :: av) h Q2) (hno : ∀ X h', ¬ Q2 (.inr X) h')
    (hd2 : d2 < d) (hc : ce + mc2 ≤ MC) (hs : sl + ms2 ≤ MS) (hr : dm_sum rest ≤ 8)
    (kk : ∀ (v : Option Value) (h' : dm_H), Q2 (.inl v) h' → dm_W E P l z d MC MS (pc + 3) ls (v.toList ++ rest) h' (ce + mc2) (sl + ms2)) : dm_W E P l z d MC MS pc ls st h ce sl := by
  intro p e s m args below meth c D g tys L0 L ws A H locs lsC stC hK hw hls hst
  obtain ⟨hok, hst9, hx, hb, hre, hml, hown, hts, hS9, hlk, htb, hnm, hA, hE⟩ := id hK
  obtain ⟨hle, hKK, hP, hD, hS, hh0⟩ := id hw
  obtain ⟨hd, hR⟩ := dm_ok_at hok hi
  have hR : (dm_nh (dm_m z).1.cls idx (dm_m z2).1 w1 && dm_g w2 (.instanceMethod (dm_m z2).1) && dm_g w3 (.selects (dm_m z2).1.cls (dm_m z2).1 (dm_m z2).1) && dm_okY z2 w4 w5 && dm_okC z2) = true := hR
  simp only [Bool.and_eq_true] at hR
  obtain ⟨⟨⟨⟨r1, r2⟩, r3⟩, r4⟩, r5⟩ := hR
  obtain ⟨host, r1⟩ := dm_nh_use (args := args) hS9 r1
  obtain ⟨y1, y2, y3, y4, y5, y6⟩ := dm_okY_use hts r4 hnr
  obtain ⟨avC, restC0, rfl, ha, hrs0, hlen⟩ := dm_args hsp hst
  obtain ⟨y9, restC, rfl, ⟨a, hia, rfl⟩, hrs⟩ := dm_st_cons hrs0
  have hsz : lsC.size = (dm_m z).2.2.1 := by obtain ⟨lv, k1, -, -⟩ := hls; exact k1.1
  rw [dm_cw0 hh2] at y2
  unfold dm_okC at r5
  rw [hnr] at r5
  simp only [decide_eq_true_eq] at r5
  obtain ⟨q, hq1, hq2⟩ := Option.map_eq_some_iff.mp r5
  obtain ⟨a', fs, g1, g2, g3, g4⟩ := dm_obj hh0 hob (Nat.lt_of_lt_of_le (dm_vwlt hq1) (by decide))
  cases hia.symm.trans g1
  obtain ⟨cb, b1, b2, b3⟩ := va_recv hKK hP hq1 g2
  rw [hq2] at b3
  refine dm_fin (dm_ofMet (va_runVN (As := avC) (C := (dm_m z2).1.cls) ⟨hx, hb, hml, hown, hts⟩ (dm_met hM hno hh0 (avC := .ref a :: avC) ⟨⟨a, hia, rfl⟩, ha⟩) ⟨⟨⟨rfl, rfl, by show 4 * d2 + 368 + 1 ≤ 4 * d + 368; omega, by show 8 + ((dm_m z2).2.2.1 + 11) + 200 * d2 ≤ 200 * d; omega, y6, by rw [dm_ws, dm_cw0 hh2]; exact List.mem_cons_self⟩, hts _ y2, y1, y3, y5, r1⟩, hts _ (dm_g_mem r2), hts _ (dm_g_mem r3)⟩
    ⟨dm_blind, ⟨cb, b1, b2, b3⟩, dm_pre hS9 hKK hP hD hS hA (.ref a :: avC)⟩ rfl hlen hsz rfl (lv_room (by rw [dm_st_sum hrs]; exact hr)) hd ⟨hc, hs⟩)) hK hw hls hrs (fun X h' q => absurd q (hno X h')) kk
/-- Object's own constructor -/
theorem dr_oinit {idx w1 w2 w3 i : Nat} (hi : dm_at z pc = some (.invokespecial idx, 3, [0, 3, w1, w2, w3])) (hd1 : 1 ≤ d) (hr : dm_sum st ≤ 8) (kk : dm_W E P l z d MC MS (pc + 3) ls st h ce sl) : dm_W E P l z d MC MS pc ls (.ref i :: st) h ce sl := by
  intro p e s m args below meth c D g tys L0 L ws A H locs lsC stC hK hw hls hst
  obtain ⟨hok, hst9, hx, hb, hre, hml, hown, hts, hS9, hlk, htb, hnm, hA, hE⟩ := id hK
  obtain ⟨hd, hR⟩ := dm_ok_at hok hi
  have hR : (dm_g w1 (.methodLink (dm_m z).1.cls idx objectInit) && dm_g w2 (.instanceMethod objectInit) && dm_g w3 (.code objectInit ⟨#[0xb1]⟩ 1 none)) = true := hR
  simp only [Bool.and_eq_true] at hR
  obtain ⟨⟨r1, r2⟩, r3⟩ := hR
  obtain ⟨y9, restC, rfl, ⟨a, hia, rfl⟩, hrs⟩ := dm_st_cons hst
  have hsz : lsC.size = c.maxLocals := by obtain ⟨lv, k1, -, -⟩ := hls; exact k1.1.trans hml.symm
  refine W.objInit hx hb hown (hts _ (dm_g_mem r1)) (hts _ (dm_g_mem r2)) (hts _ (dm_g_mem r3)) rfl hsz rfl hd (by show 1 ≤ 4 * d + 368; omega) ?_ (kk _ _ _ _ _ _ _ _ _ _ _ _ _ _ _ _ _ _ _ hK hw hls hrs)
  show 2 * 0 + _ + 12 ≤ 200 * d
  rw [dm_st_sum hrs]
  omega
/-- a method with handlers, called by its name -/
theorem dr_statH {idx z2 w1 w2 w3 w4 d2 mc2 ms2 n k : Nat} {av rest : List Value} {Q2 : dm_Rs} (hi : dm_at z pc = some (.invokestatic idx, 3, [z2, 0, w1, w2, w3, w4])) (hnr : dm_nr[z2]? = some (n, k)) (hh2 : (dm_m z2).2.2.2.2 ≠ []) (hsp : dm_split n st [] = some (av, rest)) (hM : dm_M l z2 d2 mc2 ms2 av h Q2)
    (hd2 : d2 < d) (hc : ce + mc2 ≤ MC) (hs : sl + ms2 ≤ MS) (hr : dm_sum rest ≤ 8)
    (kx : ∀ (X : String) (h' : dm_H), Q2 (.inr X) h' → dm_T9 E P l z d MC MS X pc ls h' (ce + mc2) (sl + ms2))
    (kk : ∀ (v : Option Value) (h' : dm_H), Q2 (.inl v) h' → dm_W E P l z d MC MS (pc + 3) ls (v.toList ++ rest) h' (ce + mc2) (sl + ms2)) : dm_W E P l z d MC MS pc ls st h ce sl := by
  intro p e s m args below meth c D g tys L0 L ws A H locs lsC stC hK hw hls hst
  obtain ⟨hok, hst9, hx, hb, hre, hml, hown, hts, hS9, hlk, htb, hnm, hA, hE⟩ := id hK
  obtain ⟨hle, hKK, hP, hD, hS, hh0⟩ := id hw
  obtain ⟨hd, hR⟩ := dm_ok_at hok hi
  have hR : (dm_g w1 (.methodLink (dm_m z).1.cls idx (dm_m z2).1) && dm_g w2 (.static (dm_m z2).1) && dm_okY z2 w3 w4) = true := hR
  simp only [Bool.and_eq_true] at hR
  obtain ⟨⟨r1, r2⟩, r3⟩ := hR
  obtain ⟨y1, y2, y3, y4, y5, y6⟩ := dm_okY_use hts r3 hnr
  obtain ⟨avC, restC, rfl, ha, hrs, hlen⟩ := dm_args hsp hst
  have hsz : lsC.size = (dm_m z).2.2.1 := by obtain ⟨lv, k1, -, -⟩ := hls; exact k1.1
  rw [dm_cw1 hh2] at y2
  refine dm_fin (vx_runSX (hh := (dm_m z2).2.2.2.2) (As := avC) ⟨hx, hb, hml, hown, hts⟩ (hM D g tys L ws H.size avC hh0 ha) ⟨⟨rfl, rfl, by show 4 * d2 + 368 + 1 ≤ 4 * d + 368; omega, by show 8 + ((dm_m z2).2.2.1 + 11) + 200 * d2 ≤ 200 * d; omega, y6, by rw [dm_ws, dm_cw1 hh2]; exact List.mem_cons_self⟩, hts _ y2, y1, y3, y5, hts _ (dm_g_mem r1), hts _ (dm_g_mem r2)⟩
    ⟨dm_blind, dm_pre hS9 hKK hP hD hS hA avC⟩ rfl hlen hsz rfl (lv_room (by rw [dm_st_sum hrs]; exact hr)) hd ⟨hc, hs⟩) hK hw hls hrs kx kk
end DMC
