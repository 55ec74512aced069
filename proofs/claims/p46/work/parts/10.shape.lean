/-! ===== the shape of both sides: 37 things ===== -/
def okC (x : Int) : Prop := 0 ≤ x ∧ x ≤ 9999 ∧ x % 100 ≤ x / 100
def anyI (_ : Int) : Prop := True
def okS (x : Int) : Prop := 0 ≤ x ∧ x ≤ 8
def isBk (b : Nat) : Prop := b = 17 ∨ b = 20 ∨ b = 23
def isCh (b : Nat) : Prop := b = 4 ∨ b = 11 ∨ b = 13
def isHs (b : Nat) : Prop := b = 6 ∨ b = 15
def isTa (b : Nat) : Prop := b = 9 ∨ b = 10
def isCR (b : Nat) : Prop := b = 28 ∨ b = 29 ∨ b = 30
def isNR (b : Nat) : Prop := b = 32 ∨ b = 33 ∨ b = 34
abbrev dm_C : Type := Nat × List Value
def T_a (n : Nat) (F : Int → Prop) (c : dm_C) : Prop := ∃ vs, c = (20, vs) ∧ arr n F vs
def T_cls (kc : Int) (c : dm_C) : Prop := ∃ r : Int, (-2147483648 ≤ r ∧ r < 2147483648) ∧ c = (8, [.ref 1, .ref 2, .ref 3, .ref 4, .ref 6, .ref 8, dI r, dI kc])
def T_part (c : dm_C) : Prop := ∃ b lo hi : Int, (-1 ≤ b ∧ b ≤ 2) ∧ (-1 ≤ lo ∧ lo ≤ 99) ∧ (-1 ≤ hi ∧ hi ≤ 99) ∧ c = (6, [dI b, dI lo, dI hi])
def T_hand (c : dm_C) : Prop := ∃ b s n k : Int, (-1 ≤ b ∧ b ≤ 2) ∧ (-2147483648 ≤ s ∧ s < 2147483648) ∧ (-2147483648 ≤ n ∧ n < 2147483648) ∧ (0 ≤ k ∧ k ≤ 1) ∧ c = (4, [dI b, dI s, dI n, dI k])
def T_ch (p : Nat) (c : dm_C) : Prop := ∃ n : Int, (0 ≤ n ∧ n ≤ 8) ∧ c = (3, [.ref (p + 1), dI n])
def T_hs (p : Nat) (c : dm_C) : Prop := ∃ s n : Int, (0 ≤ s ∧ s ≤ 8) ∧ (-2147483648 ≤ n ∧ n < 2147483648) ∧ c = (5, [.ref (p + 1), dI s, dI n])
def T_tr (c : dm_C) : Prop := ∃ q : Int, (-2147483648 ≤ q ∧ q < 2147483648) ∧ c = (7, [.ref 9, .ref 10, .ref 11, .ref 13, .ref 15, dI q])
def T_bk (p : Nat) (c : dm_C) : Prop := ∃ s m : Int, (0 ≤ s ∧ s ≤ 8) ∧ (-2147483648 ≤ m ∧ m < 2147483648) ∧ c = (2, [.ref (p + 1), .ref (p + 2), dI s, dI m])
def T_md (km : Int) (c : dm_C) : Prop := ∃ th ni pb lo hi hb lost re he : Int, (0 ≤ th ∧ th ≤ 2) ∧ (-2147483648 ≤ ni ∧ ni < 2147483648) ∧ (-1 ≤ pb ∧ pb ≤ 2) ∧ (-1 ≤ lo ∧ lo ≤ 99) ∧ (-1 ≤ hi ∧ hi ≤ 99) ∧ (-1 ≤ hb ∧ hb ≤ 2) ∧ (0 ≤ lost ∧ lost ≤ 1) ∧ (-2147483648 ≤ re ∧ re < 2147483648) ∧ (he = -1 ∨ okC he) ∧ c = (10, [.ref 27, .ref 31, .ref 35, dI th, dI ni, dI km, dI pb, dI lo, dI hi, dI hb, dI lost, dI re, dI he])
def T_out (c : dm_C) : Prop := ∃ (x : Int64) (v : Value), c = (9, [.long x, v])
def dm_T37 (kc km : Int) (i : Nat) (c : dm_C) : Prop := match i with
  | 0 => T_cls kc c
  | 1 => c = (22, [.ref 17, .ref 20, .ref 23])
  | 2 => T_part c
  | 3 => T_hand c
  | 4 => T_ch 4 c
  | 5 => T_a 8 anyI c
  | 6 => T_hs 6 c
  | 7 => T_a 8 anyI c
  | 8 => T_tr c
  | 9 => T_a 8 anyI c
  | 10 => T_a 8 anyI c
  | 11 => T_ch 11 c
  | 12 => T_a 8 anyI c
  | 13 => T_ch 13 c
  | 14 => T_a 8 anyI c
  | 15 => T_hs 15 c
  | 16 => T_a 8 anyI c
  | 17 => T_bk 17 c
  | 18 => T_a 8 okC c
  | 19 => T_a 8 anyI c
  | 20 => T_bk 20 c
  | 21 => T_a 8 okC c
  | 22 => T_a 8 anyI c
  | 23 => T_bk 23 c
  | 24 => T_a 8 okC c
  | 25 => T_a 8 anyI c
  | 26 => T_md km c
  | 27 => c = (23, [.ref 28, .ref 29, .ref 30])
  | 28 => T_a 8 okC c
  | 29 => T_a 8 okC c
  | 30 => T_a 8 okC c
  | 31 => c = (23, [.ref 32, .ref 33, .ref 34])
  | 32 => T_a 8 anyI c
  | 33 => T_a 8 anyI c
  | 34 => T_a 8 anyI c
  | 35 => T_a 3 okS c
  | _ => T_out c
def Inv (kc km : Int) (h : dm_H) : Prop := ∀ i : Nat, i < 37 → ∃ c, h[i]? = some c ∧ dm_T37 kc km i c
def Ext (h h' : dm_H) : Prop := h.length ≤ h'.length ∧ ∀ j : Nat, 37 ≤ j → j < h.length → h'[j]? = h[j]?
theorem Ext_rf {h : dm_H} : Ext h h := ⟨Nat.le_refl _, fun _ _ _ => rfl⟩
theorem Ext_tr {h h1 h2 : dm_H} (a : Ext h h1) (b : Ext h1 h2) : Ext h h2 := ⟨Nat.le_trans a.1 b.1, fun j h3 h4 => (b.2 j h3 (Nat.lt_of_lt_of_le h4 a.1)).trans (a.2 j h3 h4)⟩
theorem Ext_set {h : dm_H} {i : Nat} {c : dm_C} (hi : i < 37) : Ext h (h.set i c) := ⟨by rw [List.length_set]; exact Nat.le_refl _, fun j h3 _ => by rw [List.getElem?_set, if_neg (by omega)]⟩
/-- the number at a place -/
def cv (vs : List Value) (k : Int) : Int := match vs[k.toNat]? with
  | some (.int x) => x.toInt
  | _ => 0
theorem cv_eq {vs : List Value} {k x : Int} (h : vs[k.toNat]? = some (dI x)) (h1 : -2147483648 ≤ x) (h2 : x < 2147483648) : cv vs k = x := by
  unfold cv
  rw [h]
  exact dI_toInt ⟨h1, h2⟩
theorem arr_cv {n : Nat} {F : Int → Prop} {vs : List Value} (ha : arr n F vs) {k : Int} (h0 : 0 ≤ k) (h1 : k < n) : F (cv vs k) := by
  have hk : k.toNat < vs.length := by rw [ha.1]; omega
  obtain ⟨x, hF, b1, b2, hv⟩ := ha.2.2 _ _ (List.getElem?_eq_getElem hk)
  have hx : vs[k.toNat]? = some (dI x) := by rw [List.getElem?_eq_getElem hk, hv]
  rw [cv_eq hx b1 b2]
  exact hF
section INV
variable {kc km : Int} {h : dm_H}
theorem Inv_len (hI : Inv kc km h) : 37 ≤ h.length := by
  obtain ⟨c, hc, -⟩ := hI 36 (by decide)
  exact (List.getElem?_eq_some_iff.mp hc).1
theorem Inv_set {i : Nat} {c : dm_C} (hI : Inv kc km h) (hi : i < 37) (hT : dm_T37 kc km i c) : Inv kc km (h.set i c) := by
  intro j hj
  rw [List.getElem?_set]
  by_cases e : i = j
  · subst e
    rw [if_pos rfl, if_pos (Nat.lt_of_lt_of_le hi (Inv_len hI))]
    exact ⟨c, rfl, hT⟩
  · rw [if_neg e]
    exact hI j hj
theorem T37_cls {r : Int} (h0 : -2147483648 ≤ r ∧ r < 2147483648) : dm_T37 kc km 0 (8, [.ref 1, .ref 2, .ref 3, .ref 4, .ref 6, .ref 8, dI r, dI kc]) := by
  exact ⟨r, h0, rfl⟩
theorem I_cls (hI : Inv kc km h) : ∃ r : Int, -2147483648 ≤ r ∧ r < 2147483648 ∧ h[0]? = some (8, [.ref 1, .ref 2, .ref 3, .ref 4, .ref 6, .ref 8, dI r, dI kc]) := by
  obtain ⟨c, hc, r, h0, rfl⟩ := hI 0 (by decide)
  exact ⟨r, h0.1, h0.2, hc⟩
theorem T37_part {b lo hi : Int} (h0 : -1 ≤ b ∧ b ≤ 2) (h1 : -1 ≤ lo ∧ lo ≤ 99) (h2 : -1 ≤ hi ∧ hi ≤ 99) : dm_T37 kc km 2 (6, [dI b, dI lo, dI hi]) := by
  exact ⟨b, lo, hi, h0, h1, h2, rfl⟩
theorem I_part (hI : Inv kc km h) : ∃ b lo hi : Int, -1 ≤ b ∧ b ≤ 2 ∧ -1 ≤ lo ∧ lo ≤ 99 ∧ -1 ≤ hi ∧ hi ≤ 99 ∧ h[2]? = some (6, [dI b, dI lo, dI hi]) := by
  obtain ⟨c, hc, b, lo, hi, h0, h1, h2, rfl⟩ := hI 2 (by decide)
  exact ⟨b, lo, hi, h0.1, h0.2, h1.1, h1.2, h2.1, h2.2, hc⟩
theorem T37_hand {b s n k : Int} (h0 : -1 ≤ b ∧ b ≤ 2) (h1 : -2147483648 ≤ s ∧ s < 2147483648) (h2 : -2147483648 ≤ n ∧ n < 2147483648) (h3 : 0 ≤ k ∧ k ≤ 1) : dm_T37 kc km 3 (4, [dI b, dI s, dI n, dI k]) := by
  exact ⟨b, s, n, k, h0, h1, h2, h3, rfl⟩
theorem T37_ch {p : Nat} (hp : isCh p) {n : Int} (h0 : 0 ≤ n ∧ n ≤ 8) : dm_T37 kc km p (3, [.ref (p + 1), dI n]) := by
  rcases hp with rfl | rfl | rfl <;> exact ⟨n, h0, rfl⟩
theorem I_ch (hI : Inv kc km h) {p : Nat} (hp : isCh p) : ∃ n : Int, 0 ≤ n ∧ n ≤ 8 ∧ h[p]? = some (3, [.ref (p + 1), dI n]) := by
  rcases hp with rfl | rfl | rfl
  · obtain ⟨c, hc, n, h0, rfl⟩ := hI 4 (by decide)
    exact ⟨n, h0.1, h0.2, hc⟩
  · obtain ⟨c, hc, n, h0, rfl⟩ := hI 11 (by decide)
    exact ⟨n, h0.1, h0.2, hc⟩
  · obtain ⟨c, hc, n, h0, rfl⟩ := hI 13 (by decide)
    exact ⟨n, h0.1, h0.2, hc⟩
theorem T37_hs {p : Nat} (hp : isHs p) {s n : Int} (h0 : 0 ≤ s ∧ s ≤ 8) (h1 : -2147483648 ≤ n ∧ n < 2147483648) : dm_T37 kc km p (5, [.ref (p + 1), dI s, dI n]) := by
  rcases hp with rfl | rfl <;> exact ⟨s, n, h0, h1, rfl⟩
theorem I_hs (hI : Inv kc km h) {p : Nat} (hp : isHs p) : ∃ s n : Int, 0 ≤ s ∧ s ≤ 8 ∧ -2147483648 ≤ n ∧ n < 2147483648 ∧ h[p]? = some (5, [.ref (p + 1), dI s, dI n]) := by
  rcases hp with rfl | rfl
  · obtain ⟨c, hc, s, n, h0, h1, rfl⟩ := hI 6 (by decide)
    exact ⟨s, n, h0.1, h0.2, h1.1, h1.2, hc⟩
  · obtain ⟨c, hc, s, n, h0, h1, rfl⟩ := hI 15 (by decide)
    exact ⟨s, n, h0.1, h0.2, h1.1, h1.2, hc⟩
theorem T37_tr {q : Int} (h0 : -2147483648 ≤ q ∧ q < 2147483648) : dm_T37 kc km 8 (7, [.ref 9, .ref 10, .ref 11, .ref 13, .ref 15, dI q]) := by
  exact ⟨q, h0, rfl⟩
theorem I_tr (hI : Inv kc km h) : ∃ q : Int, -2147483648 ≤ q ∧ q < 2147483648 ∧ h[8]? = some (7, [.ref 9, .ref 10, .ref 11, .ref 13, .ref 15, dI q]) := by
  obtain ⟨c, hc, q, h0, rfl⟩ := hI 8 (by decide)
  exact ⟨q, h0.1, h0.2, hc⟩
theorem T37_bk {p : Nat} (hp : isBk p) {s m : Int} (h0 : 0 ≤ s ∧ s ≤ 8) (h1 : -2147483648 ≤ m ∧ m < 2147483648) : dm_T37 kc km p (2, [.ref (p + 1), .ref (p + 2), dI s, dI m]) := by
  rcases hp with rfl | rfl | rfl <;> exact ⟨s, m, h0, h1, rfl⟩
theorem I_bk (hI : Inv kc km h) {p : Nat} (hp : isBk p) : ∃ s m : Int, 0 ≤ s ∧ s ≤ 8 ∧ -2147483648 ≤ m ∧ m < 2147483648 ∧ h[p]? = some (2, [.ref (p + 1), .ref (p + 2), dI s, dI m]) := by
  rcases hp with rfl | rfl | rfl
  · obtain ⟨c, hc, s, m, h0, h1, rfl⟩ := hI 17 (by decide)
    exact ⟨s, m, h0.1, h0.2, h1.1, h1.2, hc⟩
  · obtain ⟨c, hc, s, m, h0, h1, rfl⟩ := hI 20 (by decide)
    exact ⟨s, m, h0.1, h0.2, h1.1, h1.2, hc⟩
  · obtain ⟨c, hc, s, m, h0, h1, rfl⟩ := hI 23 (by decide)
    exact ⟨s, m, h0.1, h0.2, h1.1, h1.2, hc⟩
theorem T37_md {th ni pb lo hi hb lost re he : Int} (h0 : 0 ≤ th ∧ th ≤ 2) (h1 : -2147483648 ≤ ni ∧ ni < 2147483648) (h2 : -1 ≤ pb ∧ pb ≤ 2) (h3 : -1 ≤ lo ∧ lo ≤ 99) (h4 : -1 ≤ hi ∧ hi ≤ 99) (h5 : -1 ≤ hb ∧ hb ≤ 2) (h6 : 0 ≤ lost ∧ lost ≤ 1) (h7 : -2147483648 ≤ re ∧ re < 2147483648) (h8 : he = -1 ∨ okC he) : dm_T37 kc km 26 (10, [.ref 27, .ref 31, .ref 35, dI th, dI ni, dI km, dI pb, dI lo, dI hi, dI hb, dI lost, dI re, dI he]) := by
  exact ⟨th, ni, pb, lo, hi, hb, lost, re, he, h0, h1, h2, h3, h4, h5, h6, h7, h8, rfl⟩
theorem I_md (hI : Inv kc km h) : ∃ th ni pb lo hi hb lost re he : Int, 0 ≤ th ∧ th ≤ 2 ∧ -2147483648 ≤ ni ∧ ni < 2147483648 ∧ -1 ≤ pb ∧ pb ≤ 2 ∧ -1 ≤ lo ∧ lo ≤ 99 ∧ -1 ≤ hi ∧ hi ≤ 99 ∧ -1 ≤ hb ∧ hb ≤ 2 ∧ 0 ≤ lost ∧ lost ≤ 1 ∧ -2147483648 ≤ re ∧ re < 2147483648 ∧ (he = -1 ∨ okC he) ∧ h[26]? = some (10, [.ref 27, .ref 31, .ref 35, dI th, dI ni, dI km, dI pb, dI lo, dI hi, dI hb, dI lost, dI re, dI he]) := by
  obtain ⟨c, hc, th, ni, pb, lo, hi, hb, lost, re, he, h0, h1, h2, h3, h4, h5, h6, h7, h8, rfl⟩ := hI 26 (by decide)
  exact ⟨th, ni, pb, lo, hi, hb, lost, re, he, h0.1, h0.2, h1.1, h1.2, h2.1, h2.2, h3.1, h3.2, h4.1, h4.2, h5.1, h5.2, h6.1, h6.2, h7.1, h7.2, h8, hc⟩
theorem T37_cha {p : Nat} (hp : isCh p) {vs : List Value} (ha : arr 8 anyI vs) : dm_T37 kc km (p + 1) (20, vs) := by
  rcases hp with rfl | rfl | rfl <;> exact ⟨vs, rfl, ha⟩
theorem I_cha (hI : Inv kc km h) {p : Nat} (hp : isCh p) : ∃ vs, h[p + 1]? = some (20, vs) ∧ arr 8 anyI vs := by
  rcases hp with rfl | rfl | rfl
  · obtain ⟨c, hc, vs, rfl, ha⟩ := hI 5 (by decide)
    exact ⟨vs, hc, ha⟩
  · obtain ⟨c, hc, vs, rfl, ha⟩ := hI 12 (by decide)
    exact ⟨vs, hc, ha⟩
  · obtain ⟨c, hc, vs, rfl, ha⟩ := hI 14 (by decide)
    exact ⟨vs, hc, ha⟩
theorem T37_hsa {p : Nat} (hp : isHs p) {vs : List Value} (ha : arr 8 anyI vs) : dm_T37 kc km (p + 1) (20, vs) := by
  rcases hp with rfl | rfl <;> exact ⟨vs, rfl, ha⟩
theorem I_hsa (hI : Inv kc km h) {p : Nat} (hp : isHs p) : ∃ vs, h[p + 1]? = some (20, vs) ∧ arr 8 anyI vs := by
  rcases hp with rfl | rfl
  · obtain ⟨c, hc, vs, rfl, ha⟩ := hI 7 (by decide)
    exact ⟨vs, hc, ha⟩
  · obtain ⟨c, hc, vs, rfl, ha⟩ := hI 16 (by decide)
    exact ⟨vs, hc, ha⟩
theorem T37_tra {p : Nat} (hp : isTa p) {vs : List Value} (ha : arr 8 anyI vs) : dm_T37 kc km (p) (20, vs) := by
  rcases hp with rfl | rfl <;> exact ⟨vs, rfl, ha⟩
theorem I_tra (hI : Inv kc km h) {p : Nat} (hp : isTa p) : ∃ vs, h[p]? = some (20, vs) ∧ arr 8 anyI vs := by
  rcases hp with rfl | rfl
  · obtain ⟨c, hc, vs, rfl, ha⟩ := hI 9 (by decide)
    exact ⟨vs, hc, ha⟩
  · obtain ⟨c, hc, vs, rfl, ha⟩ := hI 10 (by decide)
    exact ⟨vs, hc, ha⟩
theorem T37_bka {p : Nat} (hp : isBk p) {vs : List Value} (ha : arr 8 okC vs) : dm_T37 kc km (p + 1) (20, vs) := by
  rcases hp with rfl | rfl | rfl <;> exact ⟨vs, rfl, ha⟩
theorem I_bka (hI : Inv kc km h) {p : Nat} (hp : isBk p) : ∃ vs, h[p + 1]? = some (20, vs) ∧ arr 8 okC vs := by
  rcases hp with rfl | rfl | rfl
  · obtain ⟨c, hc, vs, rfl, ha⟩ := hI 18 (by decide)
    exact ⟨vs, hc, ha⟩
  · obtain ⟨c, hc, vs, rfl, ha⟩ := hI 21 (by decide)
    exact ⟨vs, hc, ha⟩
  · obtain ⟨c, hc, vs, rfl, ha⟩ := hI 24 (by decide)
    exact ⟨vs, hc, ha⟩
theorem T37_bkn {p : Nat} (hp : isBk p) {vs : List Value} (ha : arr 8 anyI vs) : dm_T37 kc km (p + 2) (20, vs) := by
  rcases hp with rfl | rfl | rfl <;> exact ⟨vs, rfl, ha⟩
theorem I_bkn (hI : Inv kc km h) {p : Nat} (hp : isBk p) : ∃ vs, h[p + 2]? = some (20, vs) ∧ arr 8 anyI vs := by
  rcases hp with rfl | rfl | rfl
  · obtain ⟨c, hc, vs, rfl, ha⟩ := hI 19 (by decide)
    exact ⟨vs, hc, ha⟩
  · obtain ⟨c, hc, vs, rfl, ha⟩ := hI 22 (by decide)
    exact ⟨vs, hc, ha⟩
  · obtain ⟨c, hc, vs, rfl, ha⟩ := hI 25 (by decide)
    exact ⟨vs, hc, ha⟩
theorem T37_cr {p : Nat} (hp : isCR p) {vs : List Value} (ha : arr 8 okC vs) : dm_T37 kc km (p) (20, vs) := by
  rcases hp with rfl | rfl | rfl <;> exact ⟨vs, rfl, ha⟩
theorem I_cr (hI : Inv kc km h) {p : Nat} (hp : isCR p) : ∃ vs, h[p]? = some (20, vs) ∧ arr 8 okC vs := by
  rcases hp with rfl | rfl | rfl
  · obtain ⟨c, hc, vs, rfl, ha⟩ := hI 28 (by decide)
    exact ⟨vs, hc, ha⟩
  · obtain ⟨c, hc, vs, rfl, ha⟩ := hI 29 (by decide)
    exact ⟨vs, hc, ha⟩
  · obtain ⟨c, hc, vs, rfl, ha⟩ := hI 30 (by decide)
    exact ⟨vs, hc, ha⟩
theorem T37_nr {p : Nat} (hp : isNR p) {vs : List Value} (ha : arr 8 anyI vs) : dm_T37 kc km (p) (20, vs) := by
  rcases hp with rfl | rfl | rfl <;> exact ⟨vs, rfl, ha⟩
theorem I_nr (hI : Inv kc km h) {p : Nat} (hp : isNR p) : ∃ vs, h[p]? = some (20, vs) ∧ arr 8 anyI vs := by
  rcases hp with rfl | rfl | rfl
  · obtain ⟨c, hc, vs, rfl, ha⟩ := hI 32 (by decide)
    exact ⟨vs, hc, ha⟩
  · obtain ⟨c, hc, vs, rfl, ha⟩ := hI 33 (by decide)
    exact ⟨vs, hc, ha⟩
  · obtain ⟨c, hc, vs, rfl, ha⟩ := hI 34 (by decide)
    exact ⟨vs, hc, ha⟩
theorem T37_sz {vs : List Value} (ha : arr 3 okS vs) : dm_T37 kc km (35) (20, vs) := by
  exact ⟨vs, rfl, ha⟩
theorem I_sz (hI : Inv kc km h) : ∃ vs, h[35]? = some (20, vs) ∧ arr 3 okS vs := by
  obtain ⟨c, hc, vs, rfl, ha⟩ := hI 35 (by decide)
  exact ⟨vs, hc, ha⟩
theorem I_bks (hI : Inv kc km h) : h[1]? = some (22, [.ref 17, .ref 20, .ref 23]) := by
  obtain ⟨c, hc, rfl⟩ := hI 1 (by decide)
  exact hc
theorem I_mcs (hI : Inv kc km h) : h[27]? = some (23, [.ref 28, .ref 29, .ref 30]) := by
  obtain ⟨c, hc, rfl⟩ := hI 27 (by decide)
  exact hc
theorem I_mns (hI : Inv kc km h) : h[31]? = some (23, [.ref 32, .ref 33, .ref 34]) := by
  obtain ⟨c, hc, rfl⟩ := hI 31 (by decide)
  exact hc
theorem I_out (hI : Inv kc km h) : ∃ (x : Int64) (v : Value), h[36]? = some (9, [.long x, v]) := by
  obtain ⟨c, hc, x, v, rfl⟩ := hI 36 (by decide)
  exact ⟨x, v, hc⟩
theorem T37_out {x : Int64} {v : Value} : dm_T37 kc km 36 (9, [.long x, v]) := ⟨x, v, rfl⟩
end INV
theorem lt_bk {p : Nat} (hp : isBk p) : p < 37 := by rcases hp with rfl | rfl | rfl <;> decide
theorem lt_bk1 {p : Nat} (hp : isBk p) : p + 1 < 37 := by rcases hp with rfl | rfl | rfl <;> decide
theorem lt_bk2 {p : Nat} (hp : isBk p) : p + 2 < 37 := by rcases hp with rfl | rfl | rfl <;> decide
theorem lt_ch {p : Nat} (hp : isCh p) : p < 37 := by rcases hp with rfl | rfl | rfl <;> decide
theorem lt_ch1 {p : Nat} (hp : isCh p) : p + 1 < 37 := by rcases hp with rfl | rfl | rfl <;> decide
theorem lt_hs {p : Nat} (hp : isHs p) : p < 37 := by rcases hp with rfl | rfl <;> decide
theorem lt_hs1 {p : Nat} (hp : isHs p) : p + 1 < 37 := by rcases hp with rfl | rfl <;> decide
theorem lt_ta {p : Nat} (hp : isTa p) : p < 37 := by rcases hp with rfl | rfl <;> decide
theorem lt_cr {p : Nat} (hp : isCR p) : p < 37 := by rcases hp with rfl | rfl | rfl <;> decide
theorem lt_nr {p : Nat} (hp : isNR p) : p < 37 := by rcases hp with rfl | rfl | rfl <;> decide
/-! what a method's contract says -/
/-- .. and the heap stays -/
def QP (h : dm_H) (R : Option Value → Prop) (X : List String) : dm_Rs := fun r h' => h' = h ∧ match r with
  | .inl v => R v
  | .inr e => e ∈ X
def RI (F : Int → Prop) : Option Value → Prop := fun v => ∃ x : Int, F x ∧ -2147483648 ≤ x ∧ x < 2147483648 ∧ v = some (dI x)
def RV : Option Value → Prop := fun v => v = none
def RR (F : Nat → Prop) : Option Value → Prop := fun v => ∃ b : Nat, F b ∧ v = some (.ref b)
/-- some text: of the heap, or outside -/
def RO : Option Value → Prop := fun v => ∃ u : Value, v = some u ∧ ((∃ i, u = .ref i) ∨ ∃ i, u = .float i)
section KK
variable {E : dm_Ex} {P : dm_Po} {l : Launch} {z d MC MS pc ce sl : Nat} {ls : List (Option Value)} {st : List Value} {h : dm_H} {kc km : Int} {X : List String}
theorem kIP {F : Int → Prop} (kk : ∀ (x : Int), F x → -2147483648 ≤ x → x < 2147483648 → dm_W E P l z d MC MS pc ls (dI x :: st) h ce sl) : ∀ (v : Option Value) (h1 : dm_H), QP h (RI F) X (.inl v) h1 → dm_W E P l z d MC MS pc ls (v.toList ++ st) h1 ce sl := by
  rintro v h1 ⟨rfl, x, hF, b1, b2, rfl⟩
  exact kk x hF b1 b2
theorem kVP (kk : dm_W E P l z d MC MS pc ls st h ce sl) : ∀ (v : Option Value) (h1 : dm_H), QP h RV X (.inl v) h1 → dm_W E P l z d MC MS pc ls (v.toList ++ st) h1 ce sl := by
  rintro v h1 ⟨rfl, rfl⟩
  exact kk 
theorem kRP {F : Nat → Prop} (kk : ∀ (b : Nat), F b → dm_W E P l z d MC MS pc ls (.ref b :: st) h ce sl) : ∀ (v : Option Value) (h1 : dm_H), QP h (RR F) X (.inl v) h1 → dm_W E P l z d MC MS pc ls (v.toList ++ st) h1 ce sl := by
  rintro v h1 ⟨rfl, x, hF, rfl⟩
  exact kk x hF
theorem kNP {R : Option Value → Prop} {h0 : dm_H} : ∀ (Y : String) (h1 : dm_H), QP h0 R [] (.inr Y) h1 → dm_T9 E P l z d MC MS Y pc ls h1 ce sl := fun _ _ q => absurd q.2 List.not_mem_nil
theorem kNP0 {R : Option Value → Prop} {h0 : dm_H} : ∀ (Y : String) (h1 : dm_H), ¬ QP h0 R [] (.inr Y) h1 := fun _ _ q => absurd q.2 List.not_mem_nil
/-- fields and rows, the shape kept -/
theorem pf {idx ci k md t i : Nat} {vs : List Value} {v : Value} (hi : dm_at z pc = some (.putfield idx, 3, [ci, k, md, t])) (hc : h[i]? = some (ci, vs)) (hk : k < vs.length) (hf : dm_fit (dm_ty ci k) v = true) (hI : Inv kc km h) (h37 : i < 37) (hT : dm_T37 kc km i (ci, vs.set k v))
    (kk : ∀ h1 : dm_H, Inv kc km h1 → Ext h h1 → h1[i]? = some (ci, vs.set k v) → (∀ j : Nat, j ≠ i → h1[j]? = h[j]?) → dm_W E P l z d MC MS (pc + 3) ls st h1 ce sl) : dm_W E P l z d MC MS pc ls (v :: .ref i :: st) h ce sl :=
  dr_putf hi hc hk hf (kk _ (Inv_set hI h37 hT) (Ext_set h37) (by rw [List.getElem?_set, if_pos rfl, if_pos (Nat.lt_of_lt_of_le h37 (Inv_len hI))]) (fun j hj => by rw [List.getElem?_set, if_neg (fun e => hj e.symm)]))
theorem pa {i n : Nat} {F : Int → Prop} {vs : List Value} {e x : Int} (hi : dm_at z pc = some (.iastore, 1, [])) (hh : h[i]? = some (20, vs)) (ha : arr n F vs) (h0 : 0 ≤ e) (h1 : e < n) (hF : F x) (hx1 : -2147483648 ≤ x) (hx2 : x < 2147483648) (hI : Inv kc km h) (h37 : i < 37) (hT : ∀ us, arr n F us → dm_T37 kc km i (20, us))
    (kk : ∀ h1 : dm_H, Inv kc km h1 → Ext h h1 → (∃ us, h1[i]? = some (20, us) ∧ arr n F us) → (∀ j : Nat, j ≠ i → h1[j]? = h[j]?) → dm_W E P l z d MC MS (pc + 1) ls st h1 ce sl) : dm_W E P l z d MC MS pc ls (dI x :: dI e :: .ref i :: st) h ce sl :=
  di_iast hi hh ha h0 h1 hF hx1 hx2 (fun hs => kk _ (Inv_set hI h37 (hT _ hs)) (Ext_set h37) ⟨_, by rw [List.getElem?_set, if_pos rfl, if_pos (Nat.lt_of_lt_of_le h37 (Inv_len hI))], hs⟩ (fun j hj => by rw [List.getElem?_set, if_neg (fun e => hj e.symm)]))
/-- a row of references by its number -/
theorem paa3 {i kd r0 r1 r2 : Nat} {e : Int} (hi : dm_at z pc = some (.aaload, 1, [])) (hh : h[i]? = some (kd, [.ref r0, .ref r1, .ref r2])) (hk : kd = 22 ∨ kd = 23) (h0 : 0 ≤ e) (h1 : e ≤ 2) (kk : ∀ r : Nat, (r = r0 ∨ r = r1 ∨ r = r2) → dm_W E P l z d MC MS (pc + 1) ls (.ref r :: st) h ce sl) : dm_W E P l z d MC MS pc ls (dI e :: .ref i :: st) h ce sl := by
  rcases (by omega : e = 0 ∨ e = 1 ∨ e = 2) with rfl | rfl | rfl
  · exact dr_aald (k := 0) hi hh hk (dI_nI 0) rfl (kk r0 (Or.inl rfl))
  · exact dr_aald (k := 1) hi hh hk (dI_nI 1) rfl (kk r1 (Or.inr (Or.inl rfl)))
  · exact dr_aald (k := 2) hi hh hk (dI_nI 2) rfl (kk r2 (Or.inr (Or.inr rfl)))
end KK
theorem nar_z {x : Int} (h0 : 0 ≤ x) (h1 : x ≤ 1) : narrow .boolean (dI x) = dI x := by
  rcases (by omega : x = 0 ∨ x = 1) with rfl | rfl <;> rfl
theorem fit_z {x : Int} (h0 : 0 ≤ x) (h1 : x ≤ 1) : dm_fit .boolean (dI x) = true := by
  rcases (by omega : x = 0 ∨ x = 1) with rfl | rfl <;> rfl
