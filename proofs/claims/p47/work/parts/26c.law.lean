set_option maxHeartbeats 4000000 in
set_option maxRecDepth 100000 in
theorem lw_c32 (l : Launch) (hl : l.stackTraces = false) {L : Nat} {xs : Nat → Int32} (hL : L ≤ 384) {kc : Int} {h : dm_H} (hI : Inv kc kc h) {i : Int} (hi0 : 0 ≤ i) (hi6 : i + 6 ≤ L) {ce sl : Nat} (hce : ce + 1000 ≤ 1200128) (hsl : sl + 60000 ≤ 5501098) (K : lw_K l L xs i (ce + 1000) (sl + 60000)) : dm_W (lw_E L xs) lw_PL l 329 420 1200128 5501098 1748 [some (.retAddr 2), some (.ref 0), some (.ref 26), some (.ref 36), some (dI (i)), none, none] [] h ce sl := by
  refine di_aload_n la_1748 rfl ?_
  refine dr_aload_n la_1749 rfl (Or.inr (Or.inr ⟨_, rfl⟩)) ?_
  refine dr_iload la_1750 rfl ?_
  refine di_const la_1752 ?_
  refine di_iadd la_1753 ?_
  refine dr_xld la_1754 (by omega) (by omega) hL (fun x1 x1a x1b => ?_)
  refine dr_aload_n la_1755 rfl (Or.inr (Or.inr ⟨_, rfl⟩)) ?_
  refine dr_iload la_1756 rfl ?_
  refine di_const la_1758 ?_
  refine di_iadd la_1759 ?_
  refine dr_xld la_1760 (by omega) (by omega) hL (fun x2 x2a x2b => ?_)
  refine di_if_eq la_1761 rfl (by omega) (by omega) (fun c3 => ?_) (fun c3 => ?_)
  · skip
    refine di_const la_1768 ?_
    refine di_aload_n la_1769 rfl ?_
    refine dr_statH la_1770 rfl (by decide +kernel) rfl (s_L_text l hl hI (a1 := x1) (by omega) (by omega) (a2 := 0) (by omega) (by omega)) (by decide) (by omega) (by omega) (Nat.le_of_ble_eq_true rfl) kNS (kIS (fun y7 h4 hI5 hE6 y7f y7a y7b => ?_))
    have hE8 := hE6
    refine di_istore (ls2 := [some (.retAddr 2), some (.ref 0), some (.ref 26), some (.ref 36), some (dI (i)), some (dI (y7)), none]) la_1773 rfl rfl ?_
    refine di_aload_n la_1775 rfl ?_
    refine dr_aload_n la_1776 rfl (Or.inr (Or.inr ⟨_, rfl⟩)) ?_
    refine dr_iload la_1777 rfl ?_
    refine di_const la_1779 ?_
    refine di_iadd la_1780 ?_
    refine dr_xld la_1781 (by omega) (by omega) hL (fun x9 x9a x9b => ?_)
    refine dr_aload_n la_1782 rfl (Or.inr (Or.inr ⟨_, rfl⟩)) ?_
    refine dr_iload la_1783 rfl ?_
    refine di_const la_1785 ?_
    refine di_iadd la_1786 ?_
    refine dr_xld la_1787 (by omega) (by omega) hL (fun x10 x10a x10b => ?_)
    refine di_if_eq la_1788 rfl (by omega) (by omega) (fun c11 => ?_) (fun c11 => ?_)
    · skip
      refine di_const la_1795 ?_
      obtain ⟨th_12, ni_15, pb_18, lo_21, hi_24, hb_27, ls_30, re_33, he_36, c13, c14, c16, c17, c19, c20, c22, c23, c25, c26, c28, c29, c31, c32, c34, c35, c37, hc38⟩ := I_md hI5
      have ho39 : he_36 = -1 ∨ (0 ≤ he_36 ∧ he_36 ≤ 9999 ∧ he_36 % 100 ≤ he_36 / 100) := c37
      refine dr_virt la_1796 rfl rfl rfl hc38 (s_X8_text l hl hI5 (a1 := x9) (by omega) (by omega) (a2 := 0) (by omega) (by omega)) (by decide) (by omega) (by omega) (Nat.le_of_ble_eq_true rfl) kNS (kOS (fun o43 h40 hI41 hE42 ho43 => ?_))
      have hE44 := Ext_tr hE8 hE42
      refine dr_astoreU la_1799 rfl ho43 ?_
      show dm_W (lw_E L xs) lw_PL l 329 420 1200128 5501098 1801 [some (.retAddr 2), some (.ref 0), some (.ref 26), some (.ref 36), some (dI (i)), some (dI (y7)), some (o43)] [] h40 ((ce + 59) + 58) ((sl + 22030) + 22024)
      clear ho43
      refine dr_goto la_1801 rfl ?_
      refine dm_wk (ls2 := [some (.retAddr 2), some (.ref 0), some (.ref 26), some (.ref 36), some (dI (i)), none, none]) ⟨Or.inr rfl, Or.inr rfl, Or.inr rfl, Or.inr rfl, Or.inr rfl, Or.inl rfl, Or.inl rfl, trivial⟩ ?_
      refine dm_cew (ce2 := ce + 1000) (sl2 := sl + 60000) (by omega) (by omega) ?_
      exact K _ _ hI41
    · skip
      refine di_const la_1791 ?_
      refine dr_goto la_1792 rfl ?_
      obtain ⟨th_45, ni_48, pb_51, lo_54, hi_57, hb_60, ls_63, re_66, he_69, c46, c47, c49, c50, c52, c53, c55, c56, c58, c59, c61, c62, c64, c65, c67, c68, c70, hc71⟩ := I_md hI5
      have ho72 : he_69 = -1 ∨ (0 ≤ he_69 ∧ he_69 ≤ 9999 ∧ he_69 % 100 ≤ he_69 / 100) := c70
      refine dr_virt la_1796 rfl rfl rfl hc71 (s_X8_text l hl hI5 (a1 := x9) (by omega) (by omega) (a2 := 1) (by omega) (by omega)) (by decide) (by omega) (by omega) (Nat.le_of_ble_eq_true rfl) kNS (kOS (fun o76 h73 hI74 hE75 ho76 => ?_))
      have hE77 := Ext_tr hE8 hE75
      refine dr_astoreU la_1799 rfl ho76 ?_
      show dm_W (lw_E L xs) lw_PL l 329 420 1200128 5501098 1801 [some (.retAddr 2), some (.ref 0), some (.ref 26), some (.ref 36), some (dI (i)), some (dI (y7)), some (o76)] [] h73 ((ce + 59) + 58) ((sl + 22030) + 22024)
      clear ho76
      refine dr_goto la_1801 rfl ?_
      refine dm_wk (ls2 := [some (.retAddr 2), some (.ref 0), some (.ref 26), some (.ref 36), some (dI (i)), none, none]) ⟨Or.inr rfl, Or.inr rfl, Or.inr rfl, Or.inr rfl, Or.inr rfl, Or.inl rfl, Or.inl rfl, trivial⟩ ?_
      refine dm_cew (ce2 := ce + 1000) (sl2 := sl + 60000) (by omega) (by omega) ?_
      exact K _ _ hI74
  · skip
    refine di_const la_1764 ?_
    refine dr_goto la_1765 rfl ?_
    refine di_aload_n la_1769 rfl ?_
    refine dr_statH la_1770 rfl (by decide +kernel) rfl (s_L_text l hl hI (a1 := x1) (by omega) (by omega) (a2 := 1) (by omega) (by omega)) (by decide) (by omega) (by omega) (Nat.le_of_ble_eq_true rfl) kNS (kIS (fun y81 h78 hI79 hE80 y81f y81a y81b => ?_))
    have hE82 := hE80
    refine di_istore (ls2 := [some (.retAddr 2), some (.ref 0), some (.ref 26), some (.ref 36), some (dI (i)), some (dI (y81)), none]) la_1773 rfl rfl ?_
    refine di_aload_n la_1775 rfl ?_
    refine dr_aload_n la_1776 rfl (Or.inr (Or.inr ⟨_, rfl⟩)) ?_
    refine dr_iload la_1777 rfl ?_
    refine di_const la_1779 ?_
    refine di_iadd la_1780 ?_
    refine dr_xld la_1781 (by omega) (by omega) hL (fun x83 x83a x83b => ?_)
    refine dr_aload_n la_1782 rfl (Or.inr (Or.inr ⟨_, rfl⟩)) ?_
    refine dr_iload la_1783 rfl ?_
    refine di_const la_1785 ?_
    refine di_iadd la_1786 ?_
    refine dr_xld la_1787 (by omega) (by omega) hL (fun x84 x84a x84b => ?_)
    refine di_if_eq la_1788 rfl (by omega) (by omega) (fun c85 => ?_) (fun c85 => ?_)
    · skip
      refine di_const la_1795 ?_
      obtain ⟨th_86, ni_89, pb_92, lo_95, hi_98, hb_101, ls_104, re_107, he_110, c87, c88, c90, c91, c93, c94, c96, c97, c99, c100, c102, c103, c105, c106, c108, c109, c111, hc112⟩ := I_md hI79
      have ho113 : he_110 = -1 ∨ (0 ≤ he_110 ∧ he_110 ≤ 9999 ∧ he_110 % 100 ≤ he_110 / 100) := c111
      refine dr_virt la_1796 rfl rfl rfl hc112 (s_X8_text l hl hI79 (a1 := x83) (by omega) (by omega) (a2 := 0) (by omega) (by omega)) (by decide) (by omega) (by omega) (Nat.le_of_ble_eq_true rfl) kNS (kOS (fun o117 h114 hI115 hE116 ho117 => ?_))
      have hE118 := Ext_tr hE82 hE116
      refine dr_astoreU la_1799 rfl ho117 ?_
      show dm_W (lw_E L xs) lw_PL l 329 420 1200128 5501098 1801 [some (.retAddr 2), some (.ref 0), some (.ref 26), some (.ref 36), some (dI (i)), some (dI (y81)), some (o117)] [] h114 ((ce + 59) + 58) ((sl + 22030) + 22024)
      clear ho117
      refine dr_goto la_1801 rfl ?_
      refine dm_wk (ls2 := [some (.retAddr 2), some (.ref 0), some (.ref 26), some (.ref 36), some (dI (i)), none, none]) ⟨Or.inr rfl, Or.inr rfl, Or.inr rfl, Or.inr rfl, Or.inr rfl, Or.inl rfl, Or.inl rfl, trivial⟩ ?_
      refine dm_cew (ce2 := ce + 1000) (sl2 := sl + 60000) (by omega) (by omega) ?_
      exact K _ _ hI115
    · skip
      refine di_const la_1791 ?_
      refine dr_goto la_1792 rfl ?_
      obtain ⟨th_119, ni_122, pb_125, lo_128, hi_131, hb_134, ls_137, re_140, he_143, c120, c121, c123, c124, c126, c127, c129, c130, c132, c133, c135, c136, c138, c139, c141, c142, c144, hc145⟩ := I_md hI79
      have ho146 : he_143 = -1 ∨ (0 ≤ he_143 ∧ he_143 ≤ 9999 ∧ he_143 % 100 ≤ he_143 / 100) := c144
      refine dr_virt la_1796 rfl rfl rfl hc145 (s_X8_text l hl hI79 (a1 := x83) (by omega) (by omega) (a2 := 1) (by omega) (by omega)) (by decide) (by omega) (by omega) (Nat.le_of_ble_eq_true rfl) kNS (kOS (fun o150 h147 hI148 hE149 ho150 => ?_))
      have hE151 := Ext_tr hE82 hE149
      refine dr_astoreU la_1799 rfl ho150 ?_
      show dm_W (lw_E L xs) lw_PL l 329 420 1200128 5501098 1801 [some (.retAddr 2), some (.ref 0), some (.ref 26), some (.ref 36), some (dI (i)), some (dI (y81)), some (o150)] [] h147 ((ce + 59) + 58) ((sl + 22030) + 22024)
      clear ho150
      refine dr_goto la_1801 rfl ?_
      refine dm_wk (ls2 := [some (.retAddr 2), some (.ref 0), some (.ref 26), some (.ref 36), some (dI (i)), none, none]) ⟨Or.inr rfl, Or.inr rfl, Or.inr rfl, Or.inr rfl, Or.inr rfl, Or.inl rfl, Or.inl rfl, trivial⟩ ?_
      refine dm_cew (ce2 := ce + 1000) (sl2 := sl + 60000) (by omega) (by omega) ?_
      exact K _ _ hI148
set_option maxHeartbeats 4000000 in
set_option maxRecDepth 100000 in
theorem lw_c33 (l : Launch) (hl : l.stackTraces = false) {L : Nat} {xs : Nat → Int32} (hL : L ≤ 384) {kc : Int} {h : dm_H} (hI : Inv kc kc h) {i : Int} (hi0 : 0 ≤ i) (hi6 : i + 6 ≤ L) {ce sl : Nat} (hce : ce + 1000 ≤ 1200128) (hsl : sl + 60000 ≤ 5501098) (K : lw_K l L xs i (ce + 1000) (sl + 60000)) : dm_W (lw_E L xs) lw_PL l 329 420 1200128 5501098 1804 [some (.retAddr 2), some (.ref 0), some (.ref 26), some (.ref 36), some (dI (i)), none, none] [] h ce sl := by
  refine di_aload_n la_1804 rfl ?_
  refine dr_aload_n la_1805 rfl (Or.inr (Or.inr ⟨_, rfl⟩)) ?_
  refine dr_iload la_1806 rfl ?_
  refine di_const la_1808 ?_
  refine di_iadd la_1809 ?_
  refine dr_xld la_1810 (by omega) (by omega) hL (fun x1 x1a x1b => ?_)
  refine dr_aload_n la_1811 rfl (Or.inr (Or.inr ⟨_, rfl⟩)) ?_
  refine dr_iload la_1812 rfl ?_
  refine di_const la_1814 ?_
  refine di_iadd la_1815 ?_
  refine dr_xld la_1816 (by omega) (by omega) hL (fun x2 x2a x2b => ?_)
  refine di_aload_n la_1817 rfl ?_
  refine dr_statH la_1818 rfl (by decide +kernel) rfl (s_L_areSame l hl hI (a1 := x1) (by omega) (by omega) (a2 := x2) (by omega) (by omega)) (by decide) (by omega) (by omega) (Nat.le_of_ble_eq_true rfl) kNS (kIS (fun y6 h3 hI4 hE5 y6f y6a y6b => ?_))
  have hE7 := hE5
  refine di_istore (ls2 := [some (.retAddr 2), some (.ref 0), some (.ref 26), some (.ref 36), some (dI (i)), some (dI (y6)), none]) la_1821 rfl rfl ?_
  refine di_aload_n la_1823 rfl ?_
  refine dr_aload_n la_1824 rfl (Or.inr (Or.inr ⟨_, rfl⟩)) ?_
  refine dr_iload la_1825 rfl ?_
  refine di_const la_1827 ?_
  refine di_iadd la_1828 ?_
  refine dr_xld la_1829 (by omega) (by omega) hL (fun x8 x8a x8b => ?_)
  refine dr_aload_n la_1830 rfl (Or.inr (Or.inr ⟨_, rfl⟩)) ?_
  refine dr_iload la_1831 rfl ?_
  refine di_const la_1833 ?_
  refine di_iadd la_1834 ?_
  refine dr_xld la_1835 (by omega) (by omega) hL (fun x9 x9a x9b => ?_)
  obtain ⟨th_10, ni_13, pb_16, lo_19, hi_22, hb_25, ls_28, re_31, he_34, c11, c12, c14, c15, c17, c18, c20, c21, c23, c24, c26, c27, c29, c30, c32, c33, c35, hc36⟩ := I_md hI4
  have ho37 : he_34 = -1 ∨ (0 ≤ he_34 ∧ he_34 ≤ 9999 ∧ he_34 % 100 ≤ he_34 / 100) := c35
  refine dr_virt la_1836 rfl rfl rfl hc36 (s_X8_areSame l hl hI4 (a1 := x8) (by omega) (by omega) (a2 := x9) (by omega) (by omega)) (by decide) (by omega) (by omega) (Nat.le_of_ble_eq_true rfl) kNS (kIS (fun y41 h38 hI39 hE40 y41f y41a y41b => ?_))
  have hE42 := Ext_tr hE7 hE40
  have y41g : 0 ≤ y41 ∧ y41 ≤ 1 := y41f
  refine di_istore (ls2 := [some (.retAddr 2), some (.ref 0), some (.ref 26), some (.ref 36), some (dI (i)), some (dI (y6)), some (dI (y41))]) la_1839 rfl rfl ?_
  refine dr_goto la_1841 rfl ?_
  refine dm_wk (ls2 := [some (.retAddr 2), some (.ref 0), some (.ref 26), some (.ref 36), some (dI (i)), none, none]) ⟨Or.inr rfl, Or.inr rfl, Or.inr rfl, Or.inr rfl, Or.inr rfl, Or.inl rfl, Or.inl rfl, trivial⟩ ?_
  refine dm_cew (ce2 := ce + 1000) (sl2 := sl + 60000) (by omega) (by omega) ?_
  exact K _ _ hI39
set_option maxHeartbeats 4000000 in
set_option maxRecDepth 100000 in
theorem lw_c34 (l : Launch) (hl : l.stackTraces = false) {L : Nat} {xs : Nat → Int32} (hL : L ≤ 384) {kc : Int} {h : dm_H} (hI : Inv kc kc h) {i : Int} (hi0 : 0 ≤ i) (hi6 : i + 6 ≤ L) {ce sl : Nat} (hce : ce + 1000 ≤ 1200128) (hsl : sl + 60000 ≤ 5501098) (K : lw_K l L xs i (ce + 1000) (sl + 60000)) : dm_W (lw_E L xs) lw_PL l 329 420 1200128 5501098 1844 [some (.retAddr 2), some (.ref 0), some (.ref 26), some (.ref 36), some (dI (i)), none, none] [] h ce sl := by
  refine di_aload_n la_1844 rfl ?_
  refine dr_aload_n la_1845 rfl (Or.inr (Or.inr ⟨_, rfl⟩)) ?_
  refine dr_iload la_1846 rfl ?_
  refine di_const la_1848 ?_
  refine di_iadd la_1849 ?_
  refine dr_xld la_1850 (by omega) (by omega) hL (fun x1 x1a x1b => ?_)
  refine di_aload_n la_1851 rfl ?_
  refine dr_statH la_1852 rfl (by decide +kernel) rfl (s_L_most l hl hI (a1 := x1) (by omega) (by omega)) (by decide) (by omega) (by omega) (Nat.le_of_ble_eq_true rfl) kNS (kIS (fun y5 h2 hI3 hE4 y5f y5a y5b => ?_))
  have hE6 := hE4
  refine di_istore (ls2 := [some (.retAddr 2), some (.ref 0), some (.ref 26), some (.ref 36), some (dI (i)), some (dI (y5)), none]) la_1855 rfl rfl ?_
  refine di_aload_n la_1857 rfl ?_
  refine dr_aload_n la_1858 rfl (Or.inr (Or.inr ⟨_, rfl⟩)) ?_
  refine dr_iload la_1859 rfl ?_
  refine di_const la_1861 ?_
  refine di_iadd la_1862 ?_
  refine dr_xld la_1863 (by omega) (by omega) hL (fun x7 x7a x7b => ?_)
  obtain ⟨th_8, ni_11, pb_14, lo_17, hi_20, hb_23, ls_26, re_29, he_32, c9, c10, c12, c13, c15, c16, c18, c19, c21, c22, c24, c25, c27, c28, c30, c31, c33, hc34⟩ := I_md hI3
  have ho35 : he_32 = -1 ∨ (0 ≤ he_32 ∧ he_32 ≤ 9999 ∧ he_32 % 100 ≤ he_32 / 100) := c33
  refine dr_virt la_1864 rfl rfl rfl hc34 (s_X8_most l hl hI3 (a1 := x7) (by omega) (by omega)) (by decide) (by omega) (by omega) (Nat.le_of_ble_eq_true rfl) kNS (kIS (fun y39 h36 hI37 hE38 y39f y39a y39b => ?_))
  have hE40 := Ext_tr hE6 hE38
  refine di_istore (ls2 := [some (.retAddr 2), some (.ref 0), some (.ref 26), some (.ref 36), some (dI (i)), some (dI (y5)), some (dI (y39))]) la_1867 rfl rfl ?_
  refine dr_goto la_1869 rfl ?_
  refine dm_wk (ls2 := [some (.retAddr 2), some (.ref 0), some (.ref 26), some (.ref 36), some (dI (i)), none, none]) ⟨Or.inr rfl, Or.inr rfl, Or.inr rfl, Or.inr rfl, Or.inr rfl, Or.inl rfl, Or.inl rfl, trivial⟩ ?_
  refine dm_cew (ce2 := ce + 1000) (sl2 := sl + 60000) (by omega) (by omega) ?_
  exact K _ _ hI37
set_option maxHeartbeats 4000000 in
set_option maxRecDepth 100000 in
theorem lw_c35 (l : Launch) (hl : l.stackTraces = false) {L : Nat} {xs : Nat → Int32} (hL : L ≤ 384) {kc : Int} {h : dm_H} (hI : Inv kc kc h) {i : Int} (hi0 : 0 ≤ i) (hi6 : i + 6 ≤ L) {ce sl : Nat} (hce : ce + 1000 ≤ 1200128) (hsl : sl + 60000 ≤ 5501098) (K : lw_K l L xs i (ce + 1000) (sl + 60000)) : dm_W (lw_E L xs) lw_PL l 329 420 1200128 5501098 1872 [some (.retAddr 2), some (.ref 0), some (.ref 26), some (.ref 36), some (dI (i)), none, none] [] h ce sl := by
  refine di_aload_n la_1872 rfl ?_
  refine dr_aload_n la_1873 rfl (Or.inr (Or.inr ⟨_, rfl⟩)) ?_
  refine dr_iload la_1874 rfl ?_
  refine di_const la_1876 ?_
  refine di_iadd la_1877 ?_
  refine dr_xld la_1878 (by omega) (by omega) hL (fun x1 x1a x1b => ?_)
  refine dr_aload_n la_1879 rfl (Or.inr (Or.inr ⟨_, rfl⟩)) ?_
  refine dr_iload la_1880 rfl ?_
  refine di_const la_1882 ?_
  refine di_iadd la_1883 ?_
  refine dr_xld la_1884 (by omega) (by omega) hL (fun x2 x2a x2b => ?_)
  refine di_aload_n la_1885 rfl ?_
  refine dr_statH la_1886 rfl (by decide +kernel) rfl (s_L_chosen l hl hI (a1 := x1) (by omega) (by omega) (a2 := x2) (by omega) (by omega)) (by decide) (by omega) (by omega) (Nat.le_of_ble_eq_true rfl) kNS (kIS (fun y6 h3 hI4 hE5 y6f y6a y6b => ?_))
  have hE7 := hE5
  refine di_istore (ls2 := [some (.retAddr 2), some (.ref 0), some (.ref 26), some (.ref 36), some (dI (i)), some (dI (y6)), none]) la_1889 rfl rfl ?_
  refine di_aload_n la_1891 rfl ?_
  refine dr_aload_n la_1892 rfl (Or.inr (Or.inr ⟨_, rfl⟩)) ?_
  refine dr_iload la_1893 rfl ?_
  refine di_const la_1895 ?_
  refine di_iadd la_1896 ?_
  refine dr_xld la_1897 (by omega) (by omega) hL (fun x8 x8a x8b => ?_)
  refine dr_aload_n la_1898 rfl (Or.inr (Or.inr ⟨_, rfl⟩)) ?_
  refine dr_iload la_1899 rfl ?_
  refine di_const la_1901 ?_
  refine di_iadd la_1902 ?_
  refine dr_xld la_1903 (by omega) (by omega) hL (fun x9 x9a x9b => ?_)
  obtain ⟨th_10, ni_13, pb_16, lo_19, hi_22, hb_25, ls_28, re_31, he_34, c11, c12, c14, c15, c17, c18, c20, c21, c23, c24, c26, c27, c29, c30, c32, c33, c35, hc36⟩ := I_md hI4
  have ho37 : he_34 = -1 ∨ (0 ≤ he_34 ∧ he_34 ≤ 9999 ∧ he_34 % 100 ≤ he_34 / 100) := c35
  refine dr_virt la_1904 rfl rfl rfl hc36 (s_X8_chosen l hl hI4 (a1 := x8) (by omega) (by omega) (a2 := x9) (by omega) (by omega)) (by decide) (by omega) (by omega) (Nat.le_of_ble_eq_true rfl) kNS (kIS (fun y41 h38 hI39 hE40 y41f y41a y41b => ?_))
  have hE42 := Ext_tr hE7 hE40
  refine di_istore (ls2 := [some (.retAddr 2), some (.ref 0), some (.ref 26), some (.ref 36), some (dI (i)), some (dI (y6)), some (dI (y41))]) la_1907 rfl rfl ?_
  refine dr_goto la_1909 rfl ?_
  refine dm_wk (ls2 := [some (.retAddr 2), some (.ref 0), some (.ref 26), some (.ref 36), some (dI (i)), none, none]) ⟨Or.inr rfl, Or.inr rfl, Or.inr rfl, Or.inr rfl, Or.inr rfl, Or.inl rfl, Or.inl rfl, trivial⟩ ?_
  refine dm_cew (ce2 := ce + 1000) (sl2 := sl + 60000) (by omega) (by omega) ?_
  exact K _ _ hI39
set_option maxHeartbeats 4000000 in
set_option maxRecDepth 100000 in
theorem lw_c36 (l : Launch) (hl : l.stackTraces = false) {L : Nat} {xs : Nat → Int32} (hL : L ≤ 384) {kc : Int} {h : dm_H} (hI : Inv kc kc h) {i : Int} (hi0 : 0 ≤ i) (hi6 : i + 6 ≤ L) {ce sl : Nat} (hce : ce + 1000 ≤ 1200128) (hsl : sl + 60000 ≤ 5501098) (K : lw_K l L xs i (ce + 1000) (sl + 60000)) : dm_W (lw_E L xs) lw_PL l 329 420 1200128 5501098 1912 [some (.retAddr 2), some (.ref 0), some (.ref 26), some (.ref 36), some (dI (i)), none, none] [] h ce sl := by
  refine di_aload_n la_1912 rfl ?_
  refine dr_aload_n la_1913 rfl (Or.inr (Or.inr ⟨_, rfl⟩)) ?_
  refine dr_iload la_1914 rfl ?_
  refine di_const la_1916 ?_
  refine di_iadd la_1917 ?_
  refine dr_xld la_1918 (by omega) (by omega) hL (fun x1 x1a x1b => ?_)
  refine dr_aload_n la_1919 rfl (Or.inr (Or.inr ⟨_, rfl⟩)) ?_
  refine dr_iload la_1920 rfl ?_
  refine di_const la_1922 ?_
  refine di_iadd la_1923 ?_
  refine dr_xld la_1924 (by omega) (by omega) hL (fun x2 x2a x2b => ?_)
  refine di_aload_n la_1925 rfl ?_
  refine dr_statH la_1926 rfl (by decide +kernel) rfl (s_L_choice l hl hI (a1 := x1) (by omega) (by omega) (a2 := x2) (by omega) (by omega)) (by decide) (by omega) (by omega) (Nat.le_of_ble_eq_true rfl) kNS (kIS (fun y6 h3 hI4 hE5 y6f y6a y6b => ?_))
  have hE7 := hE5
  refine di_istore (ls2 := [some (.retAddr 2), some (.ref 0), some (.ref 26), some (.ref 36), some (dI (i)), some (dI (y6)), none]) la_1929 rfl rfl ?_
  refine di_aload_n la_1931 rfl ?_
  refine dr_aload_n la_1932 rfl (Or.inr (Or.inr ⟨_, rfl⟩)) ?_
  refine dr_iload la_1933 rfl ?_
  refine di_const la_1935 ?_
  refine di_iadd la_1936 ?_
  refine dr_xld la_1937 (by omega) (by omega) hL (fun x8 x8a x8b => ?_)
  refine dr_aload_n la_1938 rfl (Or.inr (Or.inr ⟨_, rfl⟩)) ?_
  refine dr_iload la_1939 rfl ?_
  refine di_const la_1941 ?_
  refine di_iadd la_1942 ?_
  refine dr_xld la_1943 (by omega) (by omega) hL (fun x9 x9a x9b => ?_)
  obtain ⟨th_10, ni_13, pb_16, lo_19, hi_22, hb_25, ls_28, re_31, he_34, c11, c12, c14, c15, c17, c18, c20, c21, c23, c24, c26, c27, c29, c30, c32, c33, c35, hc36⟩ := I_md hI4
  have ho37 : he_34 = -1 ∨ (0 ≤ he_34 ∧ he_34 ≤ 9999 ∧ he_34 % 100 ≤ he_34 / 100) := c35
  refine dr_virt la_1944 rfl rfl rfl hc36 (s_X8_choice l hl hI4 (a1 := x8) (by omega) (by omega) (a2 := x9) (by omega) (by omega)) (by decide) (by omega) (by omega) (Nat.le_of_ble_eq_true rfl) kNS (kIS (fun y41 h38 hI39 hE40 y41f y41a y41b => ?_))
  have hE42 := Ext_tr hE7 hE40
  refine di_istore (ls2 := [some (.retAddr 2), some (.ref 0), some (.ref 26), some (.ref 36), some (dI (i)), some (dI (y6)), some (dI (y41))]) la_1947 rfl rfl ?_
  refine dr_goto la_1949 rfl ?_
  refine dm_wk (ls2 := [some (.retAddr 2), some (.ref 0), some (.ref 26), some (.ref 36), some (dI (i)), none, none]) ⟨Or.inr rfl, Or.inr rfl, Or.inr rfl, Or.inr rfl, Or.inr rfl, Or.inl rfl, Or.inl rfl, trivial⟩ ?_
  refine dm_cew (ce2 := ce + 1000) (sl2 := sl + 60000) (by omega) (by omega) ?_
  exact K _ _ hI39
set_option maxHeartbeats 4000000 in
set_option maxRecDepth 100000 in
theorem lw_c37 (l : Launch) (hl : l.stackTraces = false) {L : Nat} {xs : Nat → Int32} (hL : L ≤ 384) {kc : Int} {h : dm_H} (hI : Inv kc kc h) {i : Int} (hi0 : 0 ≤ i) (hi6 : i + 6 ≤ L) {ce sl : Nat} (hce : ce + 1000 ≤ 1200128) (hsl : sl + 60000 ≤ 5501098) (K : lw_K l L xs i (ce + 1000) (sl + 60000)) : dm_W (lw_E L xs) lw_PL l 329 420 1200128 5501098 1952 [some (.retAddr 2), some (.ref 0), some (.ref 26), some (.ref 36), some (dI (i)), none, none] [] h ce sl := by
  refine di_aload_n la_1952 rfl ?_
  refine dr_aload_n la_1953 rfl (Or.inr (Or.inr ⟨_, rfl⟩)) ?_
  refine dr_iload la_1954 rfl ?_
  refine di_const la_1956 ?_
  refine di_iadd la_1957 ?_
  refine dr_xld la_1958 (by omega) (by omega) hL (fun x1 x1a x1b => ?_)
  refine dr_aload_n la_1959 rfl (Or.inr (Or.inr ⟨_, rfl⟩)) ?_
  refine dr_iload la_1960 rfl ?_
  refine di_const la_1962 ?_
  refine di_iadd la_1963 ?_
  refine dr_xld la_1964 (by omega) (by omega) hL (fun x2 x2a x2b => ?_)
  refine di_aload_n la_1965 rfl ?_
  refine dr_statH la_1966 rfl (by decide +kernel) rfl (s_L_unheld l hl hI (a1 := x1) (by omega) (by omega) (a2 := x2) (by omega) (by omega)) (by decide) (by omega) (by omega) (Nat.le_of_ble_eq_true rfl) kNS (kIS (fun y6 h3 hI4 hE5 y6f y6a y6b => ?_))
  have hE7 := hE5
  refine di_istore (ls2 := [some (.retAddr 2), some (.ref 0), some (.ref 26), some (.ref 36), some (dI (i)), some (dI (y6)), none]) la_1969 rfl rfl ?_
  refine di_aload_n la_1971 rfl ?_
  refine dr_aload_n la_1972 rfl (Or.inr (Or.inr ⟨_, rfl⟩)) ?_
  refine dr_iload la_1973 rfl ?_
  refine di_const la_1975 ?_
  refine di_iadd la_1976 ?_
  refine dr_xld la_1977 (by omega) (by omega) hL (fun x8 x8a x8b => ?_)
  refine dr_aload_n la_1978 rfl (Or.inr (Or.inr ⟨_, rfl⟩)) ?_
  refine dr_iload la_1979 rfl ?_
  refine di_const la_1981 ?_
  refine di_iadd la_1982 ?_
  refine dr_xld la_1983 (by omega) (by omega) hL (fun x9 x9a x9b => ?_)
  obtain ⟨th_10, ni_13, pb_16, lo_19, hi_22, hb_25, ls_28, re_31, he_34, c11, c12, c14, c15, c17, c18, c20, c21, c23, c24, c26, c27, c29, c30, c32, c33, c35, hc36⟩ := I_md hI4
  have ho37 : he_34 = -1 ∨ (0 ≤ he_34 ∧ he_34 ≤ 9999 ∧ he_34 % 100 ≤ he_34 / 100) := c35
  refine dr_virt la_1984 rfl rfl rfl hc36 (s_X8_unheld l hl hI4 (a1 := x8) (by omega) (by omega) (a2 := x9) (by omega) (by omega)) (by decide) (by omega) (by omega) (Nat.le_of_ble_eq_true rfl) kNS (kIS (fun y41 h38 hI39 hE40 y41f y41a y41b => ?_))
  have hE42 := Ext_tr hE7 hE40
  refine di_istore (ls2 := [some (.retAddr 2), some (.ref 0), some (.ref 26), some (.ref 36), some (dI (i)), some (dI (y6)), some (dI (y41))]) la_1987 rfl rfl ?_
  refine dr_goto la_1989 rfl ?_
  refine dm_wk (ls2 := [some (.retAddr 2), some (.ref 0), some (.ref 26), some (.ref 36), some (dI (i)), none, none]) ⟨Or.inr rfl, Or.inr rfl, Or.inr rfl, Or.inr rfl, Or.inr rfl, Or.inl rfl, Or.inl rfl, trivial⟩ ?_
  refine dm_cew (ce2 := ce + 1000) (sl2 := sl + 60000) (by omega) (by omega) ?_
  exact K _ _ hI39
set_option maxHeartbeats 4000000 in
set_option maxRecDepth 100000 in
theorem lw_c38 (l : Launch) (hl : l.stackTraces = false) {L : Nat} {xs : Nat → Int32} (hL : L ≤ 384) {kc : Int} {h : dm_H} (hI : Inv kc kc h) {i : Int} (hi0 : 0 ≤ i) (hi6 : i + 6 ≤ L) {ce sl : Nat} (hce : ce + 1000 ≤ 1200128) (hsl : sl + 60000 ≤ 5501098) (K : lw_K l L xs i (ce + 1000) (sl + 60000)) : dm_W (lw_E L xs) lw_PL l 329 420 1200128 5501098 1992 [some (.retAddr 2), some (.ref 0), some (.ref 26), some (.ref 36), some (dI (i)), none, none] [] h ce sl := by
  refine di_aload_n la_1992 rfl ?_
  refine dr_aload_n la_1993 rfl (Or.inr (Or.inr ⟨_, rfl⟩)) ?_
  refine dr_iload la_1994 rfl ?_
  refine di_const la_1996 ?_
  refine di_iadd la_1997 ?_
  refine dr_xld la_1998 (by omega) (by omega) hL (fun x1 x1a x1b => ?_)
  refine dr_aload_n la_1999 rfl (Or.inr (Or.inr ⟨_, rfl⟩)) ?_
  refine dr_iload la_2000 rfl ?_
  refine di_const la_2002 ?_
  refine di_iadd la_2003 ?_
  refine dr_xld la_2004 (by omega) (by omega) hL (fun x2 x2a x2b => ?_)
  refine di_aload_n la_2005 rfl ?_
  refine dr_statH la_2006 rfl (by decide +kernel) rfl (s_L_holders l hl hI (a1 := x1) (by omega) (by omega) (a2 := x2) (by omega) (by omega)) (by decide) (by omega) (by omega) (Nat.le_of_ble_eq_true rfl) kNS (kIS (fun y6 h3 hI4 hE5 y6f y6a y6b => ?_))
  have hE7 := hE5
  refine di_istore (ls2 := [some (.retAddr 2), some (.ref 0), some (.ref 26), some (.ref 36), some (dI (i)), some (dI (y6)), none]) la_2009 rfl rfl ?_
  refine di_aload_n la_2011 rfl ?_
  refine dr_aload_n la_2012 rfl (Or.inr (Or.inr ⟨_, rfl⟩)) ?_
  refine dr_iload la_2013 rfl ?_
  refine di_const la_2015 ?_
  refine di_iadd la_2016 ?_
  refine dr_xld la_2017 (by omega) (by omega) hL (fun x8 x8a x8b => ?_)
  refine dr_aload_n la_2018 rfl (Or.inr (Or.inr ⟨_, rfl⟩)) ?_
  refine dr_iload la_2019 rfl ?_
  refine di_const la_2021 ?_
  refine di_iadd la_2022 ?_
  refine dr_xld la_2023 (by omega) (by omega) hL (fun x9 x9a x9b => ?_)
  obtain ⟨th_10, ni_13, pb_16, lo_19, hi_22, hb_25, ls_28, re_31, he_34, c11, c12, c14, c15, c17, c18, c20, c21, c23, c24, c26, c27, c29, c30, c32, c33, c35, hc36⟩ := I_md hI4
  have ho37 : he_34 = -1 ∨ (0 ≤ he_34 ∧ he_34 ≤ 9999 ∧ he_34 % 100 ≤ he_34 / 100) := c35
  refine dr_virt la_2024 rfl rfl rfl hc36 (s_X8_holders l hl hI4 (a1 := x8) (by omega) (by omega) (a2 := x9) (by omega) (by omega)) (by decide) (by omega) (by omega) (Nat.le_of_ble_eq_true rfl) kNS (kIS (fun y41 h38 hI39 hE40 y41f y41a y41b => ?_))
  have hE42 := Ext_tr hE7 hE40
  refine di_istore (ls2 := [some (.retAddr 2), some (.ref 0), some (.ref 26), some (.ref 36), some (dI (i)), some (dI (y6)), some (dI (y41))]) la_2027 rfl rfl ?_
  refine dr_goto la_2029 rfl ?_
  refine dm_wk (ls2 := [some (.retAddr 2), some (.ref 0), some (.ref 26), some (.ref 36), some (dI (i)), none, none]) ⟨Or.inr rfl, Or.inr rfl, Or.inr rfl, Or.inr rfl, Or.inr rfl, Or.inl rfl, Or.inl rfl, trivial⟩ ?_
  refine dm_cew (ce2 := ce + 1000) (sl2 := sl + 60000) (by omega) (by omega) ?_
  exact K _ _ hI39
set_option maxHeartbeats 4000000 in
set_option maxRecDepth 100000 in
theorem lw_c39 (l : Launch) (hl : l.stackTraces = false) {L : Nat} {xs : Nat → Int32} (hL : L ≤ 384) {kc : Int} {h : dm_H} (hI : Inv kc kc h) {i : Int} (hi0 : 0 ≤ i) (hi6 : i + 6 ≤ L) {ce sl : Nat} (hce : ce + 1000 ≤ 1200128) (hsl : sl + 60000 ≤ 5501098) (K : lw_K l L xs i (ce + 1000) (sl + 60000)) : dm_W (lw_E L xs) lw_PL l 329 420 1200128 5501098 2032 [some (.retAddr 2), some (.ref 0), some (.ref 26), some (.ref 36), some (dI (i)), none, none] [] h ce sl := by
  refine di_aload_n la_2032 rfl ?_
  refine dr_aload_n la_2033 rfl (Or.inr (Or.inr ⟨_, rfl⟩)) ?_
  refine dr_iload la_2034 rfl ?_
  refine di_const la_2036 ?_
  refine di_iadd la_2037 ?_
  refine dr_xld la_2038 (by omega) (by omega) hL (fun x1 x1a x1b => ?_)
  refine dr_aload_n la_2039 rfl (Or.inr (Or.inr ⟨_, rfl⟩)) ?_
  refine dr_iload la_2040 rfl ?_
  refine di_const la_2042 ?_
  refine di_iadd la_2043 ?_
  refine dr_xld la_2044 (by omega) (by omega) hL (fun x2 x2a x2b => ?_)
  refine di_if_eq la_2045 rfl (by omega) (by omega) (fun c3 => ?_) (fun c3 => ?_)
  · skip
    refine di_const la_2052 ?_
    refine di_aload_n la_2053 rfl ?_
    refine dr_statH la_2054 rfl (by decide +kernel) rfl (s_L_deepest l hl hI (a1 := x1) (by omega) (by omega) (a2 := 0) (by omega) (by omega)) (by decide) (by omega) (by omega) (Nat.le_of_ble_eq_true rfl) kNS (kIS (fun y7 h4 hI5 hE6 y7f y7a y7b => ?_))
    have hE8 := hE6
    refine di_istore (ls2 := [some (.retAddr 2), some (.ref 0), some (.ref 26), some (.ref 36), some (dI (i)), some (dI (y7)), none]) la_2057 rfl rfl ?_
    refine di_aload_n la_2059 rfl ?_
    refine dr_aload_n la_2060 rfl (Or.inr (Or.inr ⟨_, rfl⟩)) ?_
    refine dr_iload la_2061 rfl ?_
    refine di_const la_2063 ?_
    refine di_iadd la_2064 ?_
    refine dr_xld la_2065 (by omega) (by omega) hL (fun x9 x9a x9b => ?_)
    refine dr_aload_n la_2066 rfl (Or.inr (Or.inr ⟨_, rfl⟩)) ?_
    refine dr_iload la_2067 rfl ?_
    refine di_const la_2069 ?_
    refine di_iadd la_2070 ?_
    refine dr_xld la_2071 (by omega) (by omega) hL (fun x10 x10a x10b => ?_)
    refine di_if_eq la_2072 rfl (by omega) (by omega) (fun c11 => ?_) (fun c11 => ?_)
    · skip
      refine di_const la_2079 ?_
      obtain ⟨th_12, ni_15, pb_18, lo_21, hi_24, hb_27, ls_30, re_33, he_36, c13, c14, c16, c17, c19, c20, c22, c23, c25, c26, c28, c29, c31, c32, c34, c35, c37, hc38⟩ := I_md hI5
      have ho39 : he_36 = -1 ∨ (0 ≤ he_36 ∧ he_36 ≤ 9999 ∧ he_36 % 100 ≤ he_36 / 100) := c37
      refine dr_virt la_2080 rfl rfl rfl hc38 (s_X8_deepest l hl hI5 (a1 := x9) (by omega) (by omega) (a2 := 0) (by omega) (by omega)) (by decide) (by omega) (by omega) (Nat.le_of_ble_eq_true rfl) kNS (kIS (fun y43 h40 hI41 hE42 y43f y43a y43b => ?_))
      have hE44 := Ext_tr hE8 hE42
      refine di_istore (ls2 := [some (.retAddr 2), some (.ref 0), some (.ref 26), some (.ref 36), some (dI (i)), some (dI (y7)), some (dI (y43))]) la_2083 rfl rfl ?_
      refine dr_goto la_2085 rfl ?_
      refine dm_wk (ls2 := [some (.retAddr 2), some (.ref 0), some (.ref 26), some (.ref 36), some (dI (i)), none, none]) ⟨Or.inr rfl, Or.inr rfl, Or.inr rfl, Or.inr rfl, Or.inr rfl, Or.inl rfl, Or.inl rfl, trivial⟩ ?_
      refine dm_cew (ce2 := ce + 1000) (sl2 := sl + 60000) (by omega) (by omega) ?_
      exact K _ _ hI41
    · skip
      refine di_const la_2075 ?_
      refine dr_goto la_2076 rfl ?_
      obtain ⟨th_45, ni_48, pb_51, lo_54, hi_57, hb_60, ls_63, re_66, he_69, c46, c47, c49, c50, c52, c53, c55, c56, c58, c59, c61, c62, c64, c65, c67, c68, c70, hc71⟩ := I_md hI5
      have ho72 : he_69 = -1 ∨ (0 ≤ he_69 ∧ he_69 ≤ 9999 ∧ he_69 % 100 ≤ he_69 / 100) := c70
      refine dr_virt la_2080 rfl rfl rfl hc71 (s_X8_deepest l hl hI5 (a1 := x9) (by omega) (by omega) (a2 := 1) (by omega) (by omega)) (by decide) (by omega) (by omega) (Nat.le_of_ble_eq_true rfl) kNS (kIS (fun y76 h73 hI74 hE75 y76f y76a y76b => ?_))
      have hE77 := Ext_tr hE8 hE75
      refine di_istore (ls2 := [some (.retAddr 2), some (.ref 0), some (.ref 26), some (.ref 36), some (dI (i)), some (dI (y7)), some (dI (y76))]) la_2083 rfl rfl ?_
      refine dr_goto la_2085 rfl ?_
      refine dm_wk (ls2 := [some (.retAddr 2), some (.ref 0), some (.ref 26), some (.ref 36), some (dI (i)), none, none]) ⟨Or.inr rfl, Or.inr rfl, Or.inr rfl, Or.inr rfl, Or.inr rfl, Or.inl rfl, Or.inl rfl, trivial⟩ ?_
      refine dm_cew (ce2 := ce + 1000) (sl2 := sl + 60000) (by omega) (by omega) ?_
      exact K _ _ hI74
  · skip
    refine di_const la_2048 ?_
    refine dr_goto la_2049 rfl ?_
    refine di_aload_n la_2053 rfl ?_
    refine dr_statH la_2054 rfl (by decide +kernel) rfl (s_L_deepest l hl hI (a1 := x1) (by omega) (by omega) (a2 := 1) (by omega) (by omega)) (by decide) (by omega) (by omega) (Nat.le_of_ble_eq_true rfl) kNS (kIS (fun y81 h78 hI79 hE80 y81f y81a y81b => ?_))
    have hE82 := hE80
    refine di_istore (ls2 := [some (.retAddr 2), some (.ref 0), some (.ref 26), some (.ref 36), some (dI (i)), some (dI (y81)), none]) la_2057 rfl rfl ?_
    refine di_aload_n la_2059 rfl ?_
    refine dr_aload_n la_2060 rfl (Or.inr (Or.inr ⟨_, rfl⟩)) ?_
    refine dr_iload la_2061 rfl ?_
    refine di_const la_2063 ?_
    refine di_iadd la_2064 ?_
    refine dr_xld la_2065 (by omega) (by omega) hL (fun x83 x83a x83b => ?_)
    refine dr_aload_n la_2066 rfl (Or.inr (Or.inr ⟨_, rfl⟩)) ?_
    refine dr_iload la_2067 rfl ?_
    refine di_const la_2069 ?_
    refine di_iadd la_2070 ?_
    refine dr_xld la_2071 (by omega) (by omega) hL (fun x84 x84a x84b => ?_)
    refine di_if_eq la_2072 rfl (by omega) (by omega) (fun c85 => ?_) (fun c85 => ?_)
    · skip
      refine di_const la_2079 ?_
      obtain ⟨th_86, ni_89, pb_92, lo_95, hi_98, hb_101, ls_104, re_107, he_110, c87, c88, c90, c91, c93, c94, c96, c97, c99, c100, c102, c103, c105, c106, c108, c109, c111, hc112⟩ := I_md hI79
      have ho113 : he_110 = -1 ∨ (0 ≤ he_110 ∧ he_110 ≤ 9999 ∧ he_110 % 100 ≤ he_110 / 100) := c111
      refine dr_virt la_2080 rfl rfl rfl hc112 (s_X8_deepest l hl hI79 (a1 := x83) (by omega) (by omega) (a2 := 0) (by omega) (by omega)) (by decide) (by omega) (by omega) (Nat.le_of_ble_eq_true rfl) kNS (kIS (fun y117 h114 hI115 hE116 y117f y117a y117b => ?_))
      have hE118 := Ext_tr hE82 hE116
      refine di_istore (ls2 := [some (.retAddr 2), some (.ref 0), some (.ref 26), some (.ref 36), some (dI (i)), some (dI (y81)), some (dI (y117))]) la_2083 rfl rfl ?_
      refine dr_goto la_2085 rfl ?_
      refine dm_wk (ls2 := [some (.retAddr 2), some (.ref 0), some (.ref 26), some (.ref 36), some (dI (i)), none, none]) ⟨Or.inr rfl, Or.inr rfl, Or.inr rfl, Or.inr rfl, Or.inr rfl, Or.inl rfl, Or.inl rfl, trivial⟩ ?_
      refine dm_cew (ce2 := ce + 1000) (sl2 := sl + 60000) (by omega) (by omega) ?_
      exact K _ _ hI115
    · skip
      refine di_const la_2075 ?_
      refine dr_goto la_2076 rfl ?_
      obtain ⟨th_119, ni_122, pb_125, lo_128, hi_131, hb_134, ls_137, re_140, he_143, c120, c121, c123, c124, c126, c127, c129, c130, c132, c133, c135, c136, c138, c139, c141, c142, c144, hc145⟩ := I_md hI79
      have ho146 : he_143 = -1 ∨ (0 ≤ he_143 ∧ he_143 ≤ 9999 ∧ he_143 % 100 ≤ he_143 / 100) := c144
      refine dr_virt la_2080 rfl rfl rfl hc145 (s_X8_deepest l hl hI79 (a1 := x83) (by omega) (by omega) (a2 := 1) (by omega) (by omega)) (by decide) (by omega) (by omega) (Nat.le_of_ble_eq_true rfl) kNS (kIS (fun y150 h147 hI148 hE149 y150f y150a y150b => ?_))
      have hE151 := Ext_tr hE82 hE149
      refine di_istore (ls2 := [some (.retAddr 2), some (.ref 0), some (.ref 26), some (.ref 36), some (dI (i)), some (dI (y81)), some (dI (y150))]) la_2083 rfl rfl ?_
      refine dr_goto la_2085 rfl ?_
      refine dm_wk (ls2 := [some (.retAddr 2), some (.ref 0), some (.ref 26), some (.ref 36), some (dI (i)), none, none]) ⟨Or.inr rfl, Or.inr rfl, Or.inr rfl, Or.inr rfl, Or.inr rfl, Or.inl rfl, Or.inl rfl, trivial⟩ ?_
      refine dm_cew (ce2 := ce + 1000) (sl2 := sl + 60000) (by omega) (by omega) ?_
      exact K _ _ hI148
set_option maxHeartbeats 4000000 in
set_option maxRecDepth 100000 in
theorem lw_c40 (l : Launch) (hl : l.stackTraces = false) {L : Nat} {xs : Nat → Int32} (hL : L ≤ 384) {kc : Int} {h : dm_H} (hI : Inv kc kc h) {i : Int} (hi0 : 0 ≤ i) (hi6 : i + 6 ≤ L) {ce sl : Nat} (hce : ce + 1000 ≤ 1200128) (hsl : sl + 60000 ≤ 5501098) (K : lw_K l L xs i (ce + 1000) (sl + 60000)) : dm_W (lw_E L xs) lw_PL l 329 420 1200128 5501098 2088 [some (.retAddr 2), some (.ref 0), some (.ref 26), some (.ref 36), some (dI (i)), none, none] [] h ce sl := by
  refine di_aload_n la_2088 rfl ?_
  refine dr_aload_n la_2089 rfl (Or.inr (Or.inr ⟨_, rfl⟩)) ?_
  refine dr_iload la_2090 rfl ?_
  refine di_const la_2092 ?_
  refine di_iadd la_2093 ?_
  refine dr_xld la_2094 (by omega) (by omega) hL (fun x1 x1a x1b => ?_)
  refine di_aload_n la_2095 rfl ?_
  refine dr_statH la_2096 rfl (by decide +kernel) rfl (s_L_rooms l hl hI (a1 := x1) (by omega) (by omega)) (by decide) (by omega) (by omega) (Nat.le_of_ble_eq_true rfl) kNS (kIS (fun y5 h2 hI3 hE4 y5f y5a y5b => ?_))
  have hE6 := hE4
  refine di_istore (ls2 := [some (.retAddr 2), some (.ref 0), some (.ref 26), some (.ref 36), some (dI (i)), some (dI (y5)), none]) la_2099 rfl rfl ?_
  refine di_aload_n la_2101 rfl ?_
  refine dr_aload_n la_2102 rfl (Or.inr (Or.inr ⟨_, rfl⟩)) ?_
  refine dr_iload la_2103 rfl ?_
  refine di_const la_2105 ?_
  refine di_iadd la_2106 ?_
  refine dr_xld la_2107 (by omega) (by omega) hL (fun x7 x7a x7b => ?_)
  obtain ⟨th_8, ni_11, pb_14, lo_17, hi_20, hb_23, ls_26, re_29, he_32, c9, c10, c12, c13, c15, c16, c18, c19, c21, c22, c24, c25, c27, c28, c30, c31, c33, hc34⟩ := I_md hI3
  have ho35 : he_32 = -1 ∨ (0 ≤ he_32 ∧ he_32 ≤ 9999 ∧ he_32 % 100 ≤ he_32 / 100) := c33
  refine dr_virt la_2108 rfl rfl rfl hc34 (s_X8_rooms l hl hI3 (a1 := x7) (by omega) (by omega)) (by decide) (by omega) (by omega) (Nat.le_of_ble_eq_true rfl) kNS (kIS (fun y39 h36 hI37 hE38 y39f y39a y39b => ?_))
  have hE40 := Ext_tr hE6 hE38
  refine di_istore (ls2 := [some (.retAddr 2), some (.ref 0), some (.ref 26), some (.ref 36), some (dI (i)), some (dI (y5)), some (dI (y39))]) la_2111 rfl rfl ?_
  refine dr_goto la_2113 rfl ?_
  refine dm_wk (ls2 := [some (.retAddr 2), some (.ref 0), some (.ref 26), some (.ref 36), some (dI (i)), none, none]) ⟨Or.inr rfl, Or.inr rfl, Or.inr rfl, Or.inr rfl, Or.inr rfl, Or.inl rfl, Or.inl rfl, trivial⟩ ?_
  refine dm_cew (ce2 := ce + 1000) (sl2 := sl + 60000) (by omega) (by omega) ?_
  exact K _ _ hI37
set_option maxHeartbeats 4000000 in
set_option maxRecDepth 100000 in
theorem lw_c41 (l : Launch) (hl : l.stackTraces = false) {L : Nat} {xs : Nat → Int32} (hL : L ≤ 384) {kc : Int} {h : dm_H} (hI : Inv kc kc h) {i : Int} (hi0 : 0 ≤ i) (hi6 : i + 6 ≤ L) {ce sl : Nat} (hce : ce + 1000 ≤ 1200128) (hsl : sl + 60000 ≤ 5501098) (K : lw_K l L xs i (ce + 1000) (sl + 60000)) : dm_W (lw_E L xs) lw_PL l 329 420 1200128 5501098 2116 [some (.retAddr 2), some (.ref 0), some (.ref 26), some (.ref 36), some (dI (i)), none, none] [] h ce sl := by
  refine di_aload_n la_2116 rfl ?_
  refine dr_aload_n la_2117 rfl (Or.inr (Or.inr ⟨_, rfl⟩)) ?_
  refine dr_iload la_2118 rfl ?_
  refine di_const la_2120 ?_
  refine di_iadd la_2121 ?_
  refine dr_xld la_2122 (by omega) (by omega) hL (fun x1 x1a x1b => ?_)
  refine dr_aload_n la_2123 rfl (Or.inr (Or.inr ⟨_, rfl⟩)) ?_
  refine dr_iload la_2124 rfl ?_
  refine di_const la_2126 ?_
  refine di_iadd la_2127 ?_
  refine dr_xld la_2128 (by omega) (by omega) hL (fun x2 x2a x2b => ?_)
  refine dr_aload_n la_2129 rfl (Or.inr (Or.inr ⟨_, rfl⟩)) ?_
  refine dr_iload la_2130 rfl ?_
  refine di_const la_2132 ?_
  refine di_iadd la_2133 ?_
  refine dr_xld la_2134 (by omega) (by omega) hL (fun x3 x3a x3b => ?_)
  refine di_aload_n la_2135 rfl ?_
  refine dr_statH la_2136 rfl (by decide +kernel) rfl (s_L_roomOf l hl hI (a1 := x1) (by omega) (by omega) (a2 := x2) (by omega) (by omega) (a3 := x3) (by omega) (by omega)) (by decide) (by omega) (by omega) (Nat.le_of_ble_eq_true rfl) kNS (kIS (fun y7 h4 hI5 hE6 y7f y7a y7b => ?_))
  have hE8 := hE6
  refine di_istore (ls2 := [some (.retAddr 2), some (.ref 0), some (.ref 26), some (.ref 36), some (dI (i)), some (dI (y7)), none]) la_2139 rfl rfl ?_
  refine di_aload_n la_2141 rfl ?_
  refine dr_aload_n la_2142 rfl (Or.inr (Or.inr ⟨_, rfl⟩)) ?_
  refine dr_iload la_2143 rfl ?_
  refine di_const la_2145 ?_
  refine di_iadd la_2146 ?_
  refine dr_xld la_2147 (by omega) (by omega) hL (fun x9 x9a x9b => ?_)
  refine dr_aload_n la_2148 rfl (Or.inr (Or.inr ⟨_, rfl⟩)) ?_
  refine dr_iload la_2149 rfl ?_
  refine di_const la_2151 ?_
  refine di_iadd la_2152 ?_
  refine dr_xld la_2153 (by omega) (by omega) hL (fun x10 x10a x10b => ?_)
  refine dr_aload_n la_2154 rfl (Or.inr (Or.inr ⟨_, rfl⟩)) ?_
  refine dr_iload la_2155 rfl ?_
  refine di_const la_2157 ?_
  refine di_iadd la_2158 ?_
  refine dr_xld la_2159 (by omega) (by omega) hL (fun x11 x11a x11b => ?_)
  obtain ⟨th_12, ni_15, pb_18, lo_21, hi_24, hb_27, ls_30, re_33, he_36, c13, c14, c16, c17, c19, c20, c22, c23, c25, c26, c28, c29, c31, c32, c34, c35, c37, hc38⟩ := I_md hI5
  have ho39 : he_36 = -1 ∨ (0 ≤ he_36 ∧ he_36 ≤ 9999 ∧ he_36 % 100 ≤ he_36 / 100) := c37
  refine dr_virt la_2160 rfl rfl rfl hc38 (s_X8_roomOf l hl hI5 (a1 := x9) (by omega) (by omega) (a2 := x10) (by omega) (by omega) (a3 := x11) (by omega) (by omega)) (by decide) (by omega) (by omega) (Nat.le_of_ble_eq_true rfl) kNS (kIS (fun y43 h40 hI41 hE42 y43f y43a y43b => ?_))
  have hE44 := Ext_tr hE8 hE42
  refine di_istore (ls2 := [some (.retAddr 2), some (.ref 0), some (.ref 26), some (.ref 36), some (dI (i)), some (dI (y7)), some (dI (y43))]) la_2163 rfl rfl ?_
  refine dr_goto la_2165 rfl ?_
  refine dm_wk (ls2 := [some (.retAddr 2), some (.ref 0), some (.ref 26), some (.ref 36), some (dI (i)), none, none]) ⟨Or.inr rfl, Or.inr rfl, Or.inr rfl, Or.inr rfl, Or.inr rfl, Or.inl rfl, Or.inl rfl, trivial⟩ ?_
  refine dm_cew (ce2 := ce + 1000) (sl2 := sl + 60000) (by omega) (by omega) ?_
  exact K _ _ hI41
set_option maxHeartbeats 4000000 in
set_option maxRecDepth 100000 in
theorem lw_c42 (l : Launch) (hl : l.stackTraces = false) {L : Nat} {xs : Nat → Int32} (hL : L ≤ 384) {kc : Int} {h : dm_H} (hI : Inv kc kc h) {i : Int} (hi0 : 0 ≤ i) (hi6 : i + 6 ≤ L) {ce sl : Nat} (hce : ce + 1000 ≤ 1200128) (hsl : sl + 60000 ≤ 5501098) (K : lw_K l L xs i (ce + 1000) (sl + 60000)) : dm_W (lw_E L xs) lw_PL l 329 420 1200128 5501098 2168 [some (.retAddr 2), some (.ref 0), some (.ref 26), some (.ref 36), some (dI (i)), none, none] [] h ce sl := by
  refine di_aload_n la_2168 rfl ?_
  refine dr_aload_n la_2169 rfl (Or.inr (Or.inr ⟨_, rfl⟩)) ?_
  refine dr_iload la_2170 rfl ?_
  refine di_const la_2172 ?_
  refine di_iadd la_2173 ?_
  refine dr_xld la_2174 (by omega) (by omega) hL (fun x1 x1a x1b => ?_)
  refine dr_aload_n la_2175 rfl (Or.inr (Or.inr ⟨_, rfl⟩)) ?_
  refine dr_iload la_2176 rfl ?_
  refine di_const la_2178 ?_
  refine di_iadd la_2179 ?_
  refine dr_xld la_2180 (by omega) (by omega) hL (fun x2 x2a x2b => ?_)
  refine dr_aload_n la_2181 rfl (Or.inr (Or.inr ⟨_, rfl⟩)) ?_
  refine dr_iload la_2182 rfl ?_
  refine di_const la_2184 ?_
  refine di_iadd la_2185 ?_
  refine dr_xld la_2186 (by omega) (by omega) hL (fun x3 x3a x3b => ?_)
  refine di_aload_n la_2187 rfl ?_
  refine dr_statH la_2188 rfl (by decide +kernel) rfl (s_L_links l hl hI (a1 := x1) (by omega) (by omega) (a2 := x2) (by omega) (by omega) (a3 := x3) (by omega) (by omega)) (by decide) (by omega) (by omega) (Nat.le_of_ble_eq_true rfl) kNS (kIS (fun y7 h4 hI5 hE6 y7f y7a y7b => ?_))
  have hE8 := hE6
  refine di_istore (ls2 := [some (.retAddr 2), some (.ref 0), some (.ref 26), some (.ref 36), some (dI (i)), some (dI (y7)), none]) la_2191 rfl rfl ?_
  refine di_aload_n la_2193 rfl ?_
  refine dr_aload_n la_2194 rfl (Or.inr (Or.inr ⟨_, rfl⟩)) ?_
  refine dr_iload la_2195 rfl ?_
  refine di_const la_2197 ?_
  refine di_iadd la_2198 ?_
  refine dr_xld la_2199 (by omega) (by omega) hL (fun x9 x9a x9b => ?_)
  refine dr_aload_n la_2200 rfl (Or.inr (Or.inr ⟨_, rfl⟩)) ?_
  refine dr_iload la_2201 rfl ?_
  refine di_const la_2203 ?_
  refine di_iadd la_2204 ?_
  refine dr_xld la_2205 (by omega) (by omega) hL (fun x10 x10a x10b => ?_)
  refine dr_aload_n la_2206 rfl (Or.inr (Or.inr ⟨_, rfl⟩)) ?_
  refine dr_iload la_2207 rfl ?_
  refine di_const la_2209 ?_
  refine di_iadd la_2210 ?_
  refine dr_xld la_2211 (by omega) (by omega) hL (fun x11 x11a x11b => ?_)
  obtain ⟨th_12, ni_15, pb_18, lo_21, hi_24, hb_27, ls_30, re_33, he_36, c13, c14, c16, c17, c19, c20, c22, c23, c25, c26, c28, c29, c31, c32, c34, c35, c37, hc38⟩ := I_md hI5
  have ho39 : he_36 = -1 ∨ (0 ≤ he_36 ∧ he_36 ≤ 9999 ∧ he_36 % 100 ≤ he_36 / 100) := c37
  refine dr_virt la_2212 rfl rfl rfl hc38 (s_X8_links l hl hI5 (a1 := x9) (by omega) (by omega) (a2 := x10) (by omega) (by omega) (a3 := x11) (by omega) (by omega)) (by decide) (by omega) (by omega) (Nat.le_of_ble_eq_true rfl) kNS (kIS (fun y43 h40 hI41 hE42 y43f y43a y43b => ?_))
  have hE44 := Ext_tr hE8 hE42
  refine di_istore (ls2 := [some (.retAddr 2), some (.ref 0), some (.ref 26), some (.ref 36), some (dI (i)), some (dI (y7)), some (dI (y43))]) la_2215 rfl rfl ?_
  refine dr_goto la_2217 rfl ?_
  refine dm_wk (ls2 := [some (.retAddr 2), some (.ref 0), some (.ref 26), some (.ref 36), some (dI (i)), none, none]) ⟨Or.inr rfl, Or.inr rfl, Or.inr rfl, Or.inr rfl, Or.inr rfl, Or.inl rfl, Or.inl rfl, trivial⟩ ?_
  refine dm_cew (ce2 := ce + 1000) (sl2 := sl + 60000) (by omega) (by omega) ?_
  exact K _ _ hI41
set_option maxHeartbeats 4000000 in
set_option maxRecDepth 100000 in
theorem lw_c43 (l : Launch) (hl : l.stackTraces = false) {L : Nat} {xs : Nat → Int32} (hL : L ≤ 384) {kc : Int} {h : dm_H} (hI : Inv kc kc h) {i : Int} (hi0 : 0 ≤ i) (hi6 : i + 6 ≤ L) {ce sl : Nat} (hce : ce + 1000 ≤ 1200128) (hsl : sl + 60000 ≤ 5501098) (K : lw_K l L xs i (ce + 1000) (sl + 60000)) : dm_W (lw_E L xs) lw_PL l 329 420 1200128 5501098 2220 [some (.retAddr 2), some (.ref 0), some (.ref 26), some (.ref 36), some (dI (i)), none, none] [] h ce sl := by
  refine di_aload_n la_2220 rfl ?_
  refine dr_aload_n la_2221 rfl (Or.inr (Or.inr ⟨_, rfl⟩)) ?_
  refine dr_iload la_2222 rfl ?_
  refine di_const la_2224 ?_
  refine di_iadd la_2225 ?_
  refine dr_xld la_2226 (by omega) (by omega) hL (fun x1 x1a x1b => ?_)
  refine dr_aload_n la_2227 rfl (Or.inr (Or.inr ⟨_, rfl⟩)) ?_
  refine dr_iload la_2228 rfl ?_
  refine di_const la_2230 ?_
  refine di_iadd la_2231 ?_
  refine dr_xld la_2232 (by omega) (by omega) hL (fun x2 x2a x2b => ?_)
  refine dr_aload_n la_2233 rfl (Or.inr (Or.inr ⟨_, rfl⟩)) ?_
  refine dr_iload la_2234 rfl ?_
  refine di_const la_2236 ?_
  refine di_iadd la_2237 ?_
  refine dr_xld la_2238 (by omega) (by omega) hL (fun x3 x3a x3b => ?_)
  refine dr_aload_n la_2239 rfl (Or.inr (Or.inr ⟨_, rfl⟩)) ?_
  refine dr_iload la_2240 rfl ?_
  refine di_const la_2242 ?_
  refine di_iadd la_2243 ?_
  refine dr_xld la_2244 (by omega) (by omega) hL (fun x4 x4a x4b => ?_)
  refine di_aload_n la_2245 rfl ?_
  refine dr_statH la_2246 rfl (by decide +kernel) rfl (s_L_link l hl hI (a1 := x1) (by omega) (by omega) (a2 := x2) (by omega) (by omega) (a3 := x3) (by omega) (by omega) (a4 := x4) (by omega) (by omega)) (by decide) (by omega) (by omega) (Nat.le_of_ble_eq_true rfl) kNS (kIS (fun y8 h5 hI6 hE7 y8f y8a y8b => ?_))
  have hE9 := hE7
  refine di_istore (ls2 := [some (.retAddr 2), some (.ref 0), some (.ref 26), some (.ref 36), some (dI (i)), some (dI (y8)), none]) la_2249 rfl rfl ?_
  refine di_aload_n la_2251 rfl ?_
  refine dr_aload_n la_2252 rfl (Or.inr (Or.inr ⟨_, rfl⟩)) ?_
  refine dr_iload la_2253 rfl ?_
  refine di_const la_2255 ?_
  refine di_iadd la_2256 ?_
  refine dr_xld la_2257 (by omega) (by omega) hL (fun x10 x10a x10b => ?_)
  refine dr_aload_n la_2258 rfl (Or.inr (Or.inr ⟨_, rfl⟩)) ?_
  refine dr_iload la_2259 rfl ?_
  refine di_const la_2261 ?_
  refine di_iadd la_2262 ?_
  refine dr_xld la_2263 (by omega) (by omega) hL (fun x11 x11a x11b => ?_)
  refine dr_aload_n la_2264 rfl (Or.inr (Or.inr ⟨_, rfl⟩)) ?_
  refine dr_iload la_2265 rfl ?_
  refine di_const la_2267 ?_
  refine di_iadd la_2268 ?_
  refine dr_xld la_2269 (by omega) (by omega) hL (fun x12 x12a x12b => ?_)
  refine dr_aload_n la_2270 rfl (Or.inr (Or.inr ⟨_, rfl⟩)) ?_
  refine dr_iload la_2271 rfl ?_
  refine di_const la_2273 ?_
  refine di_iadd la_2274 ?_
  refine dr_xld la_2275 (by omega) (by omega) hL (fun x13 x13a x13b => ?_)
  obtain ⟨th_14, ni_17, pb_20, lo_23, hi_26, hb_29, ls_32, re_35, he_38, c15, c16, c18, c19, c21, c22, c24, c25, c27, c28, c30, c31, c33, c34, c36, c37, c39, hc40⟩ := I_md hI6
  have ho41 : he_38 = -1 ∨ (0 ≤ he_38 ∧ he_38 ≤ 9999 ∧ he_38 % 100 ≤ he_38 / 100) := c39
  refine dr_virt la_2276 rfl rfl rfl hc40 (s_X8_link l hl hI6 (a1 := x10) (by omega) (by omega) (a2 := x11) (by omega) (by omega) (a3 := x12) (by omega) (by omega) (a4 := x13) (by omega) (by omega)) (by decide) (by omega) (by omega) (Nat.le_of_ble_eq_true rfl) kNS (kIS (fun y45 h42 hI43 hE44 y45f y45a y45b => ?_))
  have hE46 := Ext_tr hE9 hE44
  refine di_istore (ls2 := [some (.retAddr 2), some (.ref 0), some (.ref 26), some (.ref 36), some (dI (i)), some (dI (y8)), some (dI (y45))]) la_2279 rfl rfl ?_
  refine dr_goto la_2281 rfl ?_
  refine dm_wk (ls2 := [some (.retAddr 2), some (.ref 0), some (.ref 26), some (.ref 36), some (dI (i)), none, none]) ⟨Or.inr rfl, Or.inr rfl, Or.inr rfl, Or.inr rfl, Or.inr rfl, Or.inl rfl, Or.inl rfl, trivial⟩ ?_
  refine dm_cew (ce2 := ce + 1000) (sl2 := sl + 60000) (by omega) (by omega) ?_
  exact K _ _ hI43
set_option maxHeartbeats 4000000 in
set_option maxRecDepth 100000 in
theorem lw_c44 (l : Launch) (hl : l.stackTraces = false) {L : Nat} {xs : Nat → Int32} (hL : L ≤ 384) {kc : Int} {h : dm_H} (hI : Inv kc kc h) {i : Int} (hi0 : 0 ≤ i) (hi6 : i + 6 ≤ L) {ce sl : Nat} (hce : ce + 1000 ≤ 1200128) (hsl : sl + 60000 ≤ 5501098) (K : lw_K l L xs i (ce + 1000) (sl + 60000)) : dm_W (lw_E L xs) lw_PL l 329 420 1200128 5501098 2284 [some (.retAddr 2), some (.ref 0), some (.ref 26), some (.ref 36), some (dI (i)), none, none] [] h ce sl := by
  refine di_aload_n la_2284 rfl ?_
  refine dr_aload_n la_2285 rfl (Or.inr (Or.inr ⟨_, rfl⟩)) ?_
  refine dr_iload la_2286 rfl ?_
  refine di_const la_2288 ?_
  refine di_iadd la_2289 ?_
  refine dr_xld la_2290 (by omega) (by omega) hL (fun x1 x1a x1b => ?_)
  refine di_aload_n la_2291 rfl ?_
  refine dr_statH la_2292 rfl (by decide +kernel) rfl (s_L_house l hl hI (a1 := x1) (by omega) (by omega)) (by decide) (by omega) (by omega) (Nat.le_of_ble_eq_true rfl) kNS (kIS (fun y5 h2 hI3 hE4 y5f y5a y5b => ?_))
  have hE6 := hE4
  refine di_istore (ls2 := [some (.retAddr 2), some (.ref 0), some (.ref 26), some (.ref 36), some (dI (i)), some (dI (y5)), none]) la_2295 rfl rfl ?_
  refine di_aload_n la_2297 rfl ?_
  refine dr_aload_n la_2298 rfl (Or.inr (Or.inr ⟨_, rfl⟩)) ?_
  refine dr_iload la_2299 rfl ?_
  refine di_const la_2301 ?_
  refine di_iadd la_2302 ?_
  refine dr_xld la_2303 (by omega) (by omega) hL (fun x7 x7a x7b => ?_)
  obtain ⟨th_8, ni_11, pb_14, lo_17, hi_20, hb_23, ls_26, re_29, he_32, c9, c10, c12, c13, c15, c16, c18, c19, c21, c22, c24, c25, c27, c28, c30, c31, c33, hc34⟩ := I_md hI3
  have ho35 : he_32 = -1 ∨ (0 ≤ he_32 ∧ he_32 ≤ 9999 ∧ he_32 % 100 ≤ he_32 / 100) := c33
  refine dr_virt la_2304 rfl rfl rfl hc34 (s_X8_house l hl hI3 (a1 := x7) (by omega) (by omega)) (by decide) (by omega) (by omega) (Nat.le_of_ble_eq_true rfl) kNS (kIS (fun y39 h36 hI37 hE38 y39f y39a y39b => ?_))
  have hE40 := Ext_tr hE6 hE38
  refine di_istore (ls2 := [some (.retAddr 2), some (.ref 0), some (.ref 26), some (.ref 36), some (dI (i)), some (dI (y5)), some (dI (y39))]) la_2307 rfl rfl ?_
  refine dr_goto la_2309 rfl ?_
  refine dm_wk (ls2 := [some (.retAddr 2), some (.ref 0), some (.ref 26), some (.ref 36), some (dI (i)), none, none]) ⟨Or.inr rfl, Or.inr rfl, Or.inr rfl, Or.inr rfl, Or.inr rfl, Or.inl rfl, Or.inl rfl, trivial⟩ ?_
  refine dm_cew (ce2 := ce + 1000) (sl2 := sl + 60000) (by omega) (by omega) ?_
  exact K _ _ hI37
set_option maxHeartbeats 4000000 in
set_option maxRecDepth 100000 in
theorem lw_c45 (l : Launch) (hl : l.stackTraces = false) {L : Nat} {xs : Nat → Int32} (hL : L ≤ 384) {kc : Int} {h : dm_H} (hI : Inv kc kc h) {i : Int} (hi0 : 0 ≤ i) (hi6 : i + 6 ≤ L) {ce sl : Nat} (hce : ce + 1000 ≤ 1200128) (hsl : sl + 60000 ≤ 5501098) (K : lw_K l L xs i (ce + 1000) (sl + 60000)) : dm_W (lw_E L xs) lw_PL l 329 420 1200128 5501098 2312 [some (.retAddr 2), some (.ref 0), some (.ref 26), some (.ref 36), some (dI (i)), none, none] [] h ce sl := by
  refine di_aload_n la_2312 rfl ?_
  obtain ⟨r_1, c2, c3, hc4⟩ := I_cls hI
  refine dr_virt la_2313 rfl rfl rfl hc4 (s_X6_knock l hl hI) (by decide) (by omega) (by omega) (Nat.le_of_ble_eq_true rfl) kKX (kKN (fun h5 hI6 hE7 => ?_))
  refine di_aload_n la_2316 rfl ?_
  obtain ⟨th_8, ni_11, pb_14, lo_17, hi_20, hb_23, ls_26, re_29, he_32, c9, c10, c12, c13, c15, c16, c18, c19, c21, c22, c24, c25, c27, c28, c30, c31, c33, hc34⟩ := I_md hI6
  have ho35 : he_32 = -1 ∨ (0 ≤ he_32 ∧ he_32 ≤ 9999 ∧ he_32 % 100 ≤ he_32 / 100) := c33
  refine dr_virt la_2317 rfl rfl rfl hc34 (s_X8_knock l hl hI6) (by decide) (by omega) (by omega) (Nat.le_of_ble_eq_true rfl) kKX (kKN (fun h36 hI37 hE38 => ?_))
  refine dr_icmp_eq la_2320 rfl (fun _ => ?_) (fun c9 => absurd rfl c9)
  refine dm_cew (ce2 := ce + 1000) (sl2 := sl + 60000) (by omega) (by omega) ?_
  exact K _ _ hI37
set_option maxHeartbeats 4000000 in
set_option maxRecDepth 100000 in
theorem lw_c46 (l : Launch) (hl : l.stackTraces = false) {L : Nat} {xs : Nat → Int32} (hL : L ≤ 384) {kc : Int} {h : dm_H} (hI : Inv kc kc h) {i : Int} (hi0 : 0 ≤ i) (hi6 : i + 6 ≤ L) {ce sl : Nat} (hce : ce + 1000 ≤ 1200128) (hsl : sl + 60000 ≤ 5501098) (K : lw_K l L xs i (ce + 1000) (sl + 60000)) : dm_W (lw_E L xs) lw_PL l 329 420 1200128 5501098 2325 [some (.retAddr 2), some (.ref 0), some (.ref 26), some (.ref 36), some (dI (i)), none, none] [] h ce sl := by
  refine di_aload_n la_2325 rfl ?_
  obtain ⟨r_1, c2, c3, hc4⟩ := I_cls hI
  refine dr_virt la_2326 rfl rfl rfl hc4 (s_X6_isSound l hl hI ) (by decide) (by omega) (by omega) (Nat.le_of_ble_eq_true rfl) kNS (kIS (fun y8 h5 hI6 hE7 y8f y8a y8b => ?_))
  have hE9 := hE7
  have y8g : 0 ≤ y8 ∧ y8 ≤ 1 := y8f
  refine dr_pop la_2329 rfl ?_
  refine di_aload_n la_2330 rfl ?_
  obtain ⟨th_10, ni_13, pb_16, lo_19, hi_22, hb_25, ls_28, re_31, he_34, c11, c12, c14, c15, c17, c18, c20, c21, c23, c24, c26, c27, c29, c30, c32, c33, c35, hc36⟩ := I_md hI6
  have ho37 : he_34 = -1 ∨ (0 ≤ he_34 ∧ he_34 ≤ 9999 ∧ he_34 % 100 ≤ he_34 / 100) := c35
  refine dr_virt la_2331 rfl rfl rfl hc36 (s_X8_isSound l hl hI6 ) (by decide) (by omega) (by omega) (Nat.le_of_ble_eq_true rfl) kNS (kIS (fun y41 h38 hI39 hE40 y41f y41a y41b => ?_))
  have hE42 := Ext_tr hE9 hE40
  have y41g : 0 ≤ y41 ∧ y41 ≤ 1 := y41f
  refine dr_pop la_2334 rfl ?_
  refine dr_goto la_2335 rfl ?_
  refine dm_cew (ce2 := ce + 1000) (sl2 := sl + 60000) (by omega) (by omega) ?_
  exact K _ _ hI39
set_option maxHeartbeats 4000000 in
set_option maxRecDepth 100000 in
theorem lw_c47 (l : Launch) (hl : l.stackTraces = false) {L : Nat} {xs : Nat → Int32} (hL : L ≤ 384) {kc : Int} {h : dm_H} (hI : Inv kc kc h) {i : Int} (hi0 : 0 ≤ i) (hi6 : i + 6 ≤ L) {ce sl : Nat} (hce : ce + 1000 ≤ 1200128) (hsl : sl + 60000 ≤ 5501098) (K : lw_K l L xs i (ce + 1000) (sl + 60000)) : dm_W (lw_E L xs) lw_PL l 329 420 1200128 5501098 2338 [some (.retAddr 2), some (.ref 0), some (.ref 26), some (.ref 36), some (dI (i)), none, none] [] h ce sl := by
  refine di_aload_n la_2338 rfl ?_
  obtain ⟨r_1, c2, c3, hc4⟩ := I_cls hI
  refine dr_virt la_2339 rfl rfl rfl hc4 (s_X6_digest l hl hI ) (by decide) (by omega) (by omega) (Nat.le_of_ble_eq_true rfl) kNS (kLS (fun j8 h5 hI6 hE7 => ?_))
  have hE9 := hE7
  refine dr_pop2 la_2342 rfl ?_
  refine di_aload_n la_2343 rfl ?_
  obtain ⟨th_10, ni_13, pb_16, lo_19, hi_22, hb_25, ls_28, re_31, he_34, c11, c12, c14, c15, c17, c18, c20, c21, c23, c24, c26, c27, c29, c30, c32, c33, c35, hc36⟩ := I_md hI6
  have ho37 : he_34 = -1 ∨ (0 ≤ he_34 ∧ he_34 ≤ 9999 ∧ he_34 % 100 ≤ he_34 / 100) := c35
  refine dr_virt la_2344 rfl rfl rfl hc36 (s_X8_digest l hl hI6 ) (by decide) (by omega) (by omega) (Nat.le_of_ble_eq_true rfl) kNS (kLS (fun j41 h38 hI39 hE40 => ?_))
  have hE42 := Ext_tr hE9 hE40
  refine dr_pop2 la_2347 rfl ?_
  refine dr_goto la_2348 rfl ?_
  refine dm_cew (ce2 := ce + 1000) (sl2 := sl + 60000) (by omega) (by omega) ?_
  exact K _ _ hI39
