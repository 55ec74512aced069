set_option maxHeartbeats 4000000 in
set_option maxRecDepth 100000 in
theorem lw_c32 (l : Launch) (hl : l.stackTraces = false) {L : Nat} {xs : Nat → Int32} (hL : L ≤ 384) {kc : Int} {h : dm_H} {B : Int} {σ : St} {th : Int} (hI : Inv kc kc h) (hS : CSt B σ h) (hM : MSt kc th σ h) {i : Int} (hi0 : 0 ≤ i) (hi6 : i + 6 ≤ L) (hB : 6 * B ≤ 20 * i) {ce sl : Nat} (hce : ce + 2000 ≤ 1200128) (hsl : sl + 60000 ≤ 5501098) (K : lw_K l L xs i (ce + 2000) (sl + 60000)) : dm_W (lw_E L xs) lw_PL l 329 420 1200128 5501098 1748 [some (.retAddr 2), some (.ref 0), some (.ref 26), some (.ref 36), some (dI i), none, none] [] h ce sl := by
  obtain ⟨x1, x1a, x1b, x1e⟩ := sv_x xs (i + 1)
  obtain ⟨x2, x2a, x2b, x2e⟩ := sv_x xs (i + 2)
  refine di_aload_n la_1748 rfl ?_
  refine dr_aload_n la_1749 rfl (Or.inr (Or.inr ⟨_, rfl⟩)) ?_
  refine dr_iload la_1750 rfl ?_
  refine di_const la_1752 ?_
  refine di_iadd la_1753 ?_
  refine dr_xldE la_1754 (by omega) (by omega) hL x1e ?_
  refine dr_aload_n la_1755 rfl (Or.inr (Or.inr ⟨_, rfl⟩)) ?_
  refine dr_iload la_1756 rfl ?_
  refine di_const la_1758 ?_
  refine di_iadd la_1759 ?_
  refine dr_xldE la_1760 (by omega) (by omega) hL x2e ?_
  refine di_if_eq la_1761 rfl (by omega) (by omega) (fun cz11 => ?_) (fun cz11 => ?_)
  · skip
    refine di_const la_1768 ?_
    refine di_aload_n la_1769 rfl ?_
    refine dr_statH la_1770 rfl (by decide +kernel) rfl (w_L_text l hl hI (a1 := x1) (by omega) (by omega) (a2 := 0) (by omega) (by omega)) (by decide) (by omega) (by omega) (Nat.le_of_ble_eq_true rfl) kNSw (kISw (fun y17 h12 hI13 hF14 y17f y17a y17b => ?_))
    clear y17f
    have hS15 := CSt_FW hS hF14
    have hM16 := MSt_FW hM hF14
    refine di_istore (ls2 := [some (.retAddr 2), some (.ref 0), some (.ref 26), some (.ref 36), some (dI i), some (dI y17), none]) la_1773 rfl rfl ?_
    refine di_aload_n la_1775 rfl ?_
    refine dr_aload_n la_1776 rfl (Or.inr (Or.inr ⟨_, rfl⟩)) ?_
    refine dr_iload la_1777 rfl ?_
    refine di_const la_1779 ?_
    refine di_iadd la_1780 ?_
    refine dr_xldE la_1781 (by omega) (by omega) hL x1e ?_
    refine dr_aload_n la_1782 rfl (Or.inr (Or.inr ⟨_, rfl⟩)) ?_
    refine dr_iload la_1783 rfl ?_
    refine di_const la_1785 ?_
    refine di_iadd la_1786 ?_
    refine dr_xldE la_1787 (by omega) (by omega) hL x2e ?_
    refine di_if_eq la_1788 rfl (by omega) (by omega) (fun _ => ?_) (fun c9 => absurd cz11 c9)
    refine di_const la_1795 ?_
    obtain ⟨nic23, c23, -⟩ := hM16.1
    refine dr_virt la_1796 rfl rfl rfl c23 (w_X8_text l hl hI13 (a1 := x1) (by omega) (by omega) (a2 := 0) (by omega) (by omega)) (by decide) (by omega) (by omega) (Nat.le_of_ble_eq_true rfl) kNSt (kOSt (fun y24 h18 hI19 hF20 y24m => ?_))
    have hS21 := CSt_FT hS15 hI13 hF20
    obtain ⟨th25, hM22⟩ := MSt_FT hM16 hI13 hI19 hF20
    refine dr_astoreU la_1799 rfl y24m ?_
    show dm_W (lw_E L xs) lw_PL l 329 420 1200128 5501098 1801 [some (.retAddr 2), some (.ref 0), some (.ref 26), some (.ref 36), some (dI i), some (dI y17), some (y24)] [] h18 ((ce + 59) + 58) ((sl + 22030) + 22024)
    clear y24m
    refine dr_goto la_1801 rfl ?_
    refine dm_wk (ls2 := [some (.retAddr 2), some (.ref 0), some (.ref 26), some (.ref 36), some (dI i), none, none]) ⟨Or.inr rfl, Or.inr rfl, Or.inr rfl, Or.inr rfl, Or.inr rfl, Or.inl rfl, Or.inl rfl, trivial⟩ ?_
    refine dm_cew (ce2 := ce + 2000) (sl2 := sl + 60000) (by omega) (by omega) ?_
    exact K _ _ _ _ _ hI19 hS21 hM22 (by omega)
  · skip
    refine di_const la_1764 ?_
    refine dr_goto la_1765 rfl ?_
    refine di_aload_n la_1769 rfl ?_
    refine dr_statH la_1770 rfl (by decide +kernel) rfl (w_L_text l hl hI (a1 := x1) (by omega) (by omega) (a2 := 1) (by omega) (by omega)) (by decide) (by omega) (by omega) (Nat.le_of_ble_eq_true rfl) kNSw (kISw (fun y31 h26 hI27 hF28 y31f y31a y31b => ?_))
    clear y31f
    have hS29 := CSt_FW hS hF28
    have hM30 := MSt_FW hM hF28
    refine di_istore (ls2 := [some (.retAddr 2), some (.ref 0), some (.ref 26), some (.ref 36), some (dI i), some (dI y31), none]) la_1773 rfl rfl ?_
    refine di_aload_n la_1775 rfl ?_
    refine dr_aload_n la_1776 rfl (Or.inr (Or.inr ⟨_, rfl⟩)) ?_
    refine dr_iload la_1777 rfl ?_
    refine di_const la_1779 ?_
    refine di_iadd la_1780 ?_
    refine dr_xldE la_1781 (by omega) (by omega) hL x1e ?_
    refine dr_aload_n la_1782 rfl (Or.inr (Or.inr ⟨_, rfl⟩)) ?_
    refine dr_iload la_1783 rfl ?_
    refine di_const la_1785 ?_
    refine di_iadd la_1786 ?_
    refine dr_xldE la_1787 (by omega) (by omega) hL x2e ?_
    refine di_if_eq la_1788 rfl (by omega) (by omega) (fun c9 => absurd c9 cz11) (fun _ => ?_)
    refine di_const la_1791 ?_
    refine dr_goto la_1792 rfl ?_
    obtain ⟨nic37, c37, -⟩ := hM30.1
    refine dr_virt la_1796 rfl rfl rfl c37 (w_X8_text l hl hI27 (a1 := x1) (by omega) (by omega) (a2 := 1) (by omega) (by omega)) (by decide) (by omega) (by omega) (Nat.le_of_ble_eq_true rfl) kNSt (kOSt (fun y38 h32 hI33 hF34 y38m => ?_))
    have hS35 := CSt_FT hS29 hI27 hF34
    obtain ⟨th39, hM36⟩ := MSt_FT hM30 hI27 hI33 hF34
    refine dr_astoreU la_1799 rfl y38m ?_
    show dm_W (lw_E L xs) lw_PL l 329 420 1200128 5501098 1801 [some (.retAddr 2), some (.ref 0), some (.ref 26), some (.ref 36), some (dI i), some (dI y31), some (y38)] [] h32 ((ce + 59) + 58) ((sl + 22030) + 22024)
    clear y38m
    refine dr_goto la_1801 rfl ?_
    refine dm_wk (ls2 := [some (.retAddr 2), some (.ref 0), some (.ref 26), some (.ref 36), some (dI i), none, none]) ⟨Or.inr rfl, Or.inr rfl, Or.inr rfl, Or.inr rfl, Or.inr rfl, Or.inl rfl, Or.inl rfl, trivial⟩ ?_
    refine dm_cew (ce2 := ce + 2000) (sl2 := sl + 60000) (by omega) (by omega) ?_
    exact K _ _ _ _ _ hI33 hS35 hM36 (by omega)
set_option maxHeartbeats 4000000 in
set_option maxRecDepth 100000 in
theorem lw_c33 (l : Launch) (hl : l.stackTraces = false) {L : Nat} {xs : Nat → Int32} (hL : L ≤ 384) {kc : Int} {h : dm_H} {B : Int} {σ : St} {th : Int} (hI : Inv kc kc h) (hS : CSt B σ h) (hM : MSt kc th σ h) {i : Int} (hi0 : 0 ≤ i) (hi6 : i + 6 ≤ L) (hB : 6 * B ≤ 20 * i) {ce sl : Nat} (hce : ce + 2000 ≤ 1200128) (hsl : sl + 60000 ≤ 5501098) (K : lw_K l L xs i (ce + 2000) (sl + 60000)) : dm_W (lw_E L xs) lw_PL l 329 420 1200128 5501098 1804 [some (.retAddr 2), some (.ref 0), some (.ref 26), some (.ref 36), some (dI i), none, none] [] h ce sl := by
  obtain ⟨x1, x1a, x1b, x1e⟩ := sv_x xs (i + 1)
  obtain ⟨x2, x2a, x2b, x2e⟩ := sv_x xs (i + 2)
  refine di_aload_n la_1804 rfl ?_
  refine dr_aload_n la_1805 rfl (Or.inr (Or.inr ⟨_, rfl⟩)) ?_
  refine dr_iload la_1806 rfl ?_
  refine di_const la_1808 ?_
  refine di_iadd la_1809 ?_
  refine dr_xldE la_1810 (by omega) (by omega) hL x1e ?_
  refine dr_aload_n la_1811 rfl (Or.inr (Or.inr ⟨_, rfl⟩)) ?_
  refine dr_iload la_1812 rfl ?_
  refine di_const la_1814 ?_
  refine di_iadd la_1815 ?_
  refine dr_xldE la_1816 (by omega) (by omega) hL x2e ?_
  refine di_aload_n la_1817 rfl ?_
  refine dr_statH la_1818 rfl (by decide +kernel) rfl (t_L_areSame l hl hI hS (by omega) (a1 := x1) (by omega) (by omega) (a2 := x2) (by omega) (by omega)) (by decide) (by omega) (by omega) (Nat.le_of_ble_eq_true rfl) kQLN (kQL (fun h11 hI12 hF13 hS14 hq16 ho17 => ?_))
  have hM15 := MSt_FL hM hF13
  refine di_istore (ls2 := [some (.retAddr 2), some (.ref 0), some (.ref 26), some (.ref 36), some (dI i), some (dI (spAreSame σ x1 x2).1), none]) la_1821 rfl rfl ?_
  refine di_aload_n la_1823 rfl ?_
  refine dr_aload_n la_1824 rfl (Or.inr (Or.inr ⟨_, rfl⟩)) ?_
  refine dr_iload la_1825 rfl ?_
  refine di_const la_1827 ?_
  refine di_iadd la_1828 ?_
  refine dr_xldE la_1829 (by omega) (by omega) hL x1e ?_
  refine dr_aload_n la_1830 rfl (Or.inr (Or.inr ⟨_, rfl⟩)) ?_
  refine dr_iload la_1831 rfl ?_
  refine di_const la_1833 ?_
  refine di_iadd la_1834 ?_
  refine dr_xldE la_1835 (by omega) (by omega) hL x2e ?_
  obtain ⟨nic23, c23, -⟩ := hM15.1
  refine dr_virt la_1836 rfl rfl rfl c23 (n_X8_areSame l hl hI12 hM15 (a1 := x1) (by omega) (by omega) (a2 := x2) (by omega) (by omega) ) (by decide) (by omega) (by omega) (Nat.le_of_ble_eq_true rfl) kQM9N (kQM9 (fun a24 h18 hI19 hF20 hM22 a24a a24b a24e => ?_))
  have hS21 := CSt_FrM2 hS14 hF20
  refine di_istore (ls2 := [some (.retAddr 2), some (.ref 0), some (.ref 26), some (.ref 36), some (dI i), some (dI (spAreSame σ x1 x2).1), some (dI a24)]) la_1839 rfl rfl ?_
  refine dr_goto la_1841 rfl ?_
  refine dm_wk (ls2 := [some (.retAddr 2), some (.ref 0), some (.ref 26), some (.ref 36), some (dI i), none, none]) ⟨Or.inr rfl, Or.inr rfl, Or.inr rfl, Or.inr rfl, Or.inr rfl, Or.inl rfl, Or.inl rfl, trivial⟩ ?_
  refine dm_cew (ce2 := ce + 2000) (sl2 := sl + 60000) (by omega) (by omega) ?_
  exact K _ _ _ _ _ hI19 hS21 hM22 (by omega)
set_option maxHeartbeats 4000000 in
set_option maxRecDepth 100000 in
theorem lw_c34 (l : Launch) (hl : l.stackTraces = false) {L : Nat} {xs : Nat → Int32} (hL : L ≤ 384) {kc : Int} {h : dm_H} {B : Int} {σ : St} {th : Int} (hI : Inv kc kc h) (hS : CSt B σ h) (hM : MSt kc th σ h) {i : Int} (hi0 : 0 ≤ i) (hi6 : i + 6 ≤ L) (hB : 6 * B ≤ 20 * i) {ce sl : Nat} (hce : ce + 2000 ≤ 1200128) (hsl : sl + 60000 ≤ 5501098) (K : lw_K l L xs i (ce + 2000) (sl + 60000)) : dm_W (lw_E L xs) lw_PL l 329 420 1200128 5501098 1844 [some (.retAddr 2), some (.ref 0), some (.ref 26), some (.ref 36), some (dI i), none, none] [] h ce sl := by
  obtain ⟨x1, x1a, x1b, x1e⟩ := sv_x xs (i + 1)
  refine di_aload_n la_1844 rfl ?_
  refine dr_aload_n la_1845 rfl (Or.inr (Or.inr ⟨_, rfl⟩)) ?_
  refine dr_iload la_1846 rfl ?_
  refine di_const la_1848 ?_
  refine di_iadd la_1849 ?_
  refine dr_xldE la_1850 (by omega) (by omega) hL x1e ?_
  refine di_aload_n la_1851 rfl ?_
  refine dr_statH la_1852 rfl (by decide +kernel) rfl (t_L_most l hl hI hS (by omega) (a1 := x1) (by omega) (by omega)) (by decide) (by omega) (by omega) (Nat.le_of_ble_eq_true rfl) kQLN (kQL (fun h11 hI12 hF13 hS14 hq16 ho17 => ?_))
  have hM15 := MSt_FL hM hF13
  refine di_istore (ls2 := [some (.retAddr 2), some (.ref 0), some (.ref 26), some (.ref 36), some (dI i), some (dI (spMost σ x1).1), none]) la_1855 rfl rfl ?_
  refine di_aload_n la_1857 rfl ?_
  refine dr_aload_n la_1858 rfl (Or.inr (Or.inr ⟨_, rfl⟩)) ?_
  refine dr_iload la_1859 rfl ?_
  refine di_const la_1861 ?_
  refine di_iadd la_1862 ?_
  refine dr_xldE la_1863 (by omega) (by omega) hL x1e ?_
  obtain ⟨nic23, c23, -⟩ := hM15.1
  refine dr_virt la_1864 rfl rfl rfl c23 (n_X8_most l hl hI12 hM15 (a1 := x1) (by omega) (by omega) ) (by decide) (by omega) (by omega) (Nat.le_of_ble_eq_true rfl) kQM9N (kQM9 (fun a24 h18 hI19 hF20 hM22 a24a a24b a24e => ?_))
  have hS21 := CSt_FrM2 hS14 hF20
  refine di_istore (ls2 := [some (.retAddr 2), some (.ref 0), some (.ref 26), some (.ref 36), some (dI i), some (dI (spMost σ x1).1), some (dI a24)]) la_1867 rfl rfl ?_
  refine di_aload_n la_1869 rfl ?_
  obtain ⟨nic30, c30, -⟩ := hM22.1
  refine dr_virt la_1870 rfl rfl rfl c30 (t_X8_thrown l hl hM22) (by decide) (by omega) (by omega) (Nat.le_of_ble_eq_true rfl) kNP (kIP (fun y31 y31f y31a y31b => ?_))
  have y31f : y31 = (spMost σ x1).1 := y31f
  subst y31f
  refine dr_iload la_1873 rfl ?_
  refine dr_icmp_eq la_1875 rfl (fun _ => ?_) (fun c9 => absurd rfl c9)
  refine dr_iload la_1880 rfl ?_
  refine di_if_ne la_1882 rfl (by omega) (by omega) (fun c => ?_) (fun e0 => ?_)
  · clear c
    refine dr_goto la_1898 rfl ?_
    refine dm_wk (ls2 := [some (.retAddr 2), some (.ref 0), some (.ref 26), some (.ref 36), some (dI i), none, none]) ⟨Or.inr rfl, Or.inr rfl, Or.inr rfl, Or.inr rfl, Or.inr rfl, Or.inl rfl, Or.inl rfl, trivial⟩ ?_
    refine dm_cew (ce2 := ce + 2000) (sl2 := sl + 60000) (by omega) (by omega) ?_
    exact K _ _ _ _ _ hI19 hS21 hM22 (by omega)
  · skip
    obtain ⟨v8, hv8⟩ := ho17 e0
    have hv9 := (hF20.2 36 (by decide)).trans hv8
    have ea9 : a24 = (spMost σ x1).2.1 := a24e e0
    subst ea9
    refine di_aload_n la_1885 rfl ?_
    refine dr_getf la_1886 hv9 rfl ?_
    refine dr_iload la_1889 rfl ?_
    refine dr_i2l la_1891 rfl ?_
    refine dr_lcmpE la_1892 rfl ?_
    refine di_if_eq la_1893 rfl (by omega) (by omega) (fun _ => ?_) (fun c9 => absurd rfl c9)
    refine dr_goto la_1898 rfl ?_
    refine dm_wk (ls2 := [some (.retAddr 2), some (.ref 0), some (.ref 26), some (.ref 36), some (dI i), none, none]) ⟨Or.inr rfl, Or.inr rfl, Or.inr rfl, Or.inr rfl, Or.inr rfl, Or.inl rfl, Or.inl rfl, trivial⟩ ?_
    refine dm_cew (ce2 := ce + 2000) (sl2 := sl + 60000) (by omega) (by omega) ?_
    exact K _ _ _ _ _ hI19 hS21 hM22 (by omega)
set_option maxHeartbeats 4000000 in
set_option maxRecDepth 100000 in
theorem lw_c35 (l : Launch) (hl : l.stackTraces = false) {L : Nat} {xs : Nat → Int32} (hL : L ≤ 384) {kc : Int} {h : dm_H} {B : Int} {σ : St} {th : Int} (hI : Inv kc kc h) (hS : CSt B σ h) (hM : MSt kc th σ h) {i : Int} (hi0 : 0 ≤ i) (hi6 : i + 6 ≤ L) (hB : 6 * B ≤ 20 * i) {ce sl : Nat} (hce : ce + 2000 ≤ 1200128) (hsl : sl + 60000 ≤ 5501098) (K : lw_K l L xs i (ce + 2000) (sl + 60000)) : dm_W (lw_E L xs) lw_PL l 329 420 1200128 5501098 1901 [some (.retAddr 2), some (.ref 0), some (.ref 26), some (.ref 36), some (dI i), none, none] [] h ce sl := by
  obtain ⟨x1, x1a, x1b, x1e⟩ := sv_x xs (i + 1)
  obtain ⟨x2, x2a, x2b, x2e⟩ := sv_x xs (i + 2)
  refine di_aload_n la_1901 rfl ?_
  refine dr_aload_n la_1902 rfl (Or.inr (Or.inr ⟨_, rfl⟩)) ?_
  refine dr_iload la_1903 rfl ?_
  refine di_const la_1905 ?_
  refine di_iadd la_1906 ?_
  refine dr_xldE la_1907 (by omega) (by omega) hL x1e ?_
  refine dr_aload_n la_1908 rfl (Or.inr (Or.inr ⟨_, rfl⟩)) ?_
  refine dr_iload la_1909 rfl ?_
  refine di_const la_1911 ?_
  refine di_iadd la_1912 ?_
  refine dr_xldE la_1913 (by omega) (by omega) hL x2e ?_
  refine di_aload_n la_1914 rfl ?_
  refine dr_statH la_1915 rfl (by decide +kernel) rfl (t_L_chosen l hl hI hS (by omega) (a1 := x1) (by omega) (by omega) (a2 := x2) (by omega) (by omega)) (by decide) (by omega) (by omega) (Nat.le_of_ble_eq_true rfl) kQLN (kQL (fun h11 hI12 hF13 hS14 hq16 ho17 => ?_))
  have hM15 := MSt_FL hM hF13
  refine di_istore (ls2 := [some (.retAddr 2), some (.ref 0), some (.ref 26), some (.ref 36), some (dI i), some (dI (spChosen σ x1 x2).1), none]) la_1918 rfl rfl ?_
  refine di_aload_n la_1920 rfl ?_
  refine dr_aload_n la_1921 rfl (Or.inr (Or.inr ⟨_, rfl⟩)) ?_
  refine dr_iload la_1922 rfl ?_
  refine di_const la_1924 ?_
  refine di_iadd la_1925 ?_
  refine dr_xldE la_1926 (by omega) (by omega) hL x1e ?_
  refine dr_aload_n la_1927 rfl (Or.inr (Or.inr ⟨_, rfl⟩)) ?_
  refine dr_iload la_1928 rfl ?_
  refine di_const la_1930 ?_
  refine di_iadd la_1931 ?_
  refine dr_xldE la_1932 (by omega) (by omega) hL x2e ?_
  obtain ⟨nic23, c23, -⟩ := hM15.1
  refine dr_virt la_1933 rfl rfl rfl c23 (n_X8_chosen l hl hI12 hM15 (a1 := x1) (by omega) (by omega) (a2 := x2) (by omega) (by omega) ) (by decide) (by omega) (by omega) (Nat.le_of_ble_eq_true rfl) kQM9N (kQM9 (fun a24 h18 hI19 hF20 hM22 a24a a24b a24e => ?_))
  have hS21 := CSt_FrM2 hS14 hF20
  refine di_istore (ls2 := [some (.retAddr 2), some (.ref 0), some (.ref 26), some (.ref 36), some (dI i), some (dI (spChosen σ x1 x2).1), some (dI a24)]) la_1936 rfl rfl ?_
  refine dr_goto la_1938 rfl ?_
  refine dm_wk (ls2 := [some (.retAddr 2), some (.ref 0), some (.ref 26), some (.ref 36), some (dI i), none, none]) ⟨Or.inr rfl, Or.inr rfl, Or.inr rfl, Or.inr rfl, Or.inr rfl, Or.inl rfl, Or.inl rfl, trivial⟩ ?_
  refine dm_cew (ce2 := ce + 2000) (sl2 := sl + 60000) (by omega) (by omega) ?_
  exact K _ _ _ _ _ hI19 hS21 hM22 (by omega)
set_option maxHeartbeats 4000000 in
set_option maxRecDepth 100000 in
theorem lw_c36 (l : Launch) (hl : l.stackTraces = false) {L : Nat} {xs : Nat → Int32} (hL : L ≤ 384) {kc : Int} {h : dm_H} {B : Int} {σ : St} {th : Int} (hI : Inv kc kc h) (hS : CSt B σ h) (hM : MSt kc th σ h) {i : Int} (hi0 : 0 ≤ i) (hi6 : i + 6 ≤ L) (hB : 6 * B ≤ 20 * i) {ce sl : Nat} (hce : ce + 2000 ≤ 1200128) (hsl : sl + 60000 ≤ 5501098) (K : lw_K l L xs i (ce + 2000) (sl + 60000)) : dm_W (lw_E L xs) lw_PL l 329 420 1200128 5501098 1941 [some (.retAddr 2), some (.ref 0), some (.ref 26), some (.ref 36), some (dI i), none, none] [] h ce sl := by
  obtain ⟨x1, x1a, x1b, x1e⟩ := sv_x xs (i + 1)
  obtain ⟨x2, x2a, x2b, x2e⟩ := sv_x xs (i + 2)
  refine di_aload_n la_1941 rfl ?_
  refine dr_aload_n la_1942 rfl (Or.inr (Or.inr ⟨_, rfl⟩)) ?_
  refine dr_iload la_1943 rfl ?_
  refine di_const la_1945 ?_
  refine di_iadd la_1946 ?_
  refine dr_xldE la_1947 (by omega) (by omega) hL x1e ?_
  refine dr_aload_n la_1948 rfl (Or.inr (Or.inr ⟨_, rfl⟩)) ?_
  refine dr_iload la_1949 rfl ?_
  refine di_const la_1951 ?_
  refine di_iadd la_1952 ?_
  refine dr_xldE la_1953 (by omega) (by omega) hL x2e ?_
  refine di_aload_n la_1954 rfl ?_
  refine dr_statH la_1955 rfl (by decide +kernel) rfl (t_L_choice l hl hI hS (by omega) (a1 := x1) (by omega) (by omega) (a2 := x2) (by omega) (by omega)) (by decide) (by omega) (by omega) (Nat.le_of_ble_eq_true rfl) kQLN (kQL (fun h11 hI12 hF13 hS14 hq16 ho17 => ?_))
  have hM15 := MSt_FL hM hF13
  refine di_istore (ls2 := [some (.retAddr 2), some (.ref 0), some (.ref 26), some (.ref 36), some (dI i), some (dI (spChoice σ x1 x2).1), none]) la_1958 rfl rfl ?_
  refine di_aload_n la_1960 rfl ?_
  refine dr_aload_n la_1961 rfl (Or.inr (Or.inr ⟨_, rfl⟩)) ?_
  refine dr_iload la_1962 rfl ?_
  refine di_const la_1964 ?_
  refine di_iadd la_1965 ?_
  refine dr_xldE la_1966 (by omega) (by omega) hL x1e ?_
  refine dr_aload_n la_1967 rfl (Or.inr (Or.inr ⟨_, rfl⟩)) ?_
  refine dr_iload la_1968 rfl ?_
  refine di_const la_1970 ?_
  refine di_iadd la_1971 ?_
  refine dr_xldE la_1972 (by omega) (by omega) hL x2e ?_
  obtain ⟨nic23, c23, -⟩ := hM15.1
  refine dr_virt la_1973 rfl rfl rfl c23 (n_X8_choice l hl hI12 hM15 (a1 := x1) (by omega) (by omega) (a2 := x2) (by omega) (by omega) (CSt_sSt hS)) (by decide) (by omega) (by omega) (Nat.le_of_ble_eq_true rfl) kQMAN (kQMA9 (fun a24 h18 hI19 hF20 hM22 a24a a24b a24e => ?_))
  have hS21 := CSt_FrN hS14 hI12 hF20
  refine di_istore (ls2 := [some (.retAddr 2), some (.ref 0), some (.ref 26), some (.ref 36), some (dI i), some (dI (spChoice σ x1 x2).1), some (dI a24)]) la_1976 rfl rfl ?_
  refine dr_goto la_1978 rfl ?_
  refine dm_wk (ls2 := [some (.retAddr 2), some (.ref 0), some (.ref 26), some (.ref 36), some (dI i), none, none]) ⟨Or.inr rfl, Or.inr rfl, Or.inr rfl, Or.inr rfl, Or.inr rfl, Or.inl rfl, Or.inl rfl, trivial⟩ ?_
  refine dm_cew (ce2 := ce + 2000) (sl2 := sl + 60000) (by omega) (by omega) ?_
  exact K _ _ _ _ _ hI19 hS21 hM22 (by omega)
set_option maxHeartbeats 4000000 in
set_option maxRecDepth 100000 in
theorem lw_c37 (l : Launch) (hl : l.stackTraces = false) {L : Nat} {xs : Nat → Int32} (hL : L ≤ 384) {kc : Int} {h : dm_H} {B : Int} {σ : St} {th : Int} (hI : Inv kc kc h) (hS : CSt B σ h) (hM : MSt kc th σ h) {i : Int} (hi0 : 0 ≤ i) (hi6 : i + 6 ≤ L) (hB : 6 * B ≤ 20 * i) {ce sl : Nat} (hce : ce + 2000 ≤ 1200128) (hsl : sl + 60000 ≤ 5501098) (K : lw_K l L xs i (ce + 2000) (sl + 60000)) : dm_W (lw_E L xs) lw_PL l 329 420 1200128 5501098 1981 [some (.retAddr 2), some (.ref 0), some (.ref 26), some (.ref 36), some (dI i), none, none] [] h ce sl := by
  obtain ⟨x1, x1a, x1b, x1e⟩ := sv_x xs (i + 1)
  obtain ⟨x2, x2a, x2b, x2e⟩ := sv_x xs (i + 2)
  refine di_aload_n la_1981 rfl ?_
  refine dr_aload_n la_1982 rfl (Or.inr (Or.inr ⟨_, rfl⟩)) ?_
  refine dr_iload la_1983 rfl ?_
  refine di_const la_1985 ?_
  refine di_iadd la_1986 ?_
  refine dr_xldE la_1987 (by omega) (by omega) hL x1e ?_
  refine dr_aload_n la_1988 rfl (Or.inr (Or.inr ⟨_, rfl⟩)) ?_
  refine dr_iload la_1989 rfl ?_
  refine di_const la_1991 ?_
  refine di_iadd la_1992 ?_
  refine dr_xldE la_1993 (by omega) (by omega) hL x2e ?_
  refine di_aload_n la_1994 rfl ?_
  refine dr_statH la_1995 rfl (by decide +kernel) rfl (t_L_unheld l hl hI hS (by omega) (a1 := x1) (by omega) (by omega) (a2 := x2) (by omega) (by omega)) (by decide) (by omega) (by omega) (Nat.le_of_ble_eq_true rfl) kQLN (kQL (fun h11 hI12 hF13 hS14 hq16 ho17 => ?_))
  have hM15 := MSt_FL hM hF13
  refine di_istore (ls2 := [some (.retAddr 2), some (.ref 0), some (.ref 26), some (.ref 36), some (dI i), some (dI (spUnheld σ x1 x2).1), none]) la_1998 rfl rfl ?_
  refine di_aload_n la_2000 rfl ?_
  refine dr_aload_n la_2001 rfl (Or.inr (Or.inr ⟨_, rfl⟩)) ?_
  refine dr_iload la_2002 rfl ?_
  refine di_const la_2004 ?_
  refine di_iadd la_2005 ?_
  refine dr_xldE la_2006 (by omega) (by omega) hL x1e ?_
  refine dr_aload_n la_2007 rfl (Or.inr (Or.inr ⟨_, rfl⟩)) ?_
  refine dr_iload la_2008 rfl ?_
  refine di_const la_2010 ?_
  refine di_iadd la_2011 ?_
  refine dr_xldE la_2012 (by omega) (by omega) hL x2e ?_
  obtain ⟨nic23, c23, -⟩ := hM15.1
  refine dr_virt la_2013 rfl rfl rfl c23 (n_X8_unheld l hl hI12 hM15 (a1 := x1) (by omega) (by omega) (a2 := x2) (by omega) (by omega) (CSt_sSt hS)) (by decide) (by omega) (by omega) (Nat.le_of_ble_eq_true rfl) kQMAN (kQMA9 (fun a24 h18 hI19 hF20 hM22 a24a a24b a24e => ?_))
  have hS21 := CSt_FrN hS14 hI12 hF20
  refine di_istore (ls2 := [some (.retAddr 2), some (.ref 0), some (.ref 26), some (.ref 36), some (dI i), some (dI (spUnheld σ x1 x2).1), some (dI a24)]) la_2016 rfl rfl ?_
  refine dr_goto la_2018 rfl ?_
  refine dm_wk (ls2 := [some (.retAddr 2), some (.ref 0), some (.ref 26), some (.ref 36), some (dI i), none, none]) ⟨Or.inr rfl, Or.inr rfl, Or.inr rfl, Or.inr rfl, Or.inr rfl, Or.inl rfl, Or.inl rfl, trivial⟩ ?_
  refine dm_cew (ce2 := ce + 2000) (sl2 := sl + 60000) (by omega) (by omega) ?_
  exact K _ _ _ _ _ hI19 hS21 hM22 (by omega)
set_option maxHeartbeats 4000000 in
set_option maxRecDepth 100000 in
theorem lw_c38 (l : Launch) (hl : l.stackTraces = false) {L : Nat} {xs : Nat → Int32} (hL : L ≤ 384) {kc : Int} {h : dm_H} {B : Int} {σ : St} {th : Int} (hI : Inv kc kc h) (hS : CSt B σ h) (hM : MSt kc th σ h) {i : Int} (hi0 : 0 ≤ i) (hi6 : i + 6 ≤ L) (hB : 6 * B ≤ 20 * i) {ce sl : Nat} (hce : ce + 2000 ≤ 1200128) (hsl : sl + 60000 ≤ 5501098) (K : lw_K l L xs i (ce + 2000) (sl + 60000)) : dm_W (lw_E L xs) lw_PL l 329 420 1200128 5501098 2021 [some (.retAddr 2), some (.ref 0), some (.ref 26), some (.ref 36), some (dI i), none, none] [] h ce sl := by
  obtain ⟨x1, x1a, x1b, x1e⟩ := sv_x xs (i + 1)
  obtain ⟨x2, x2a, x2b, x2e⟩ := sv_x xs (i + 2)
  refine di_aload_n la_2021 rfl ?_
  refine dr_aload_n la_2022 rfl (Or.inr (Or.inr ⟨_, rfl⟩)) ?_
  refine dr_iload la_2023 rfl ?_
  refine di_const la_2025 ?_
  refine di_iadd la_2026 ?_
  refine dr_xldE la_2027 (by omega) (by omega) hL x1e ?_
  refine dr_aload_n la_2028 rfl (Or.inr (Or.inr ⟨_, rfl⟩)) ?_
  refine dr_iload la_2029 rfl ?_
  refine di_const la_2031 ?_
  refine di_iadd la_2032 ?_
  refine dr_xldE la_2033 (by omega) (by omega) hL x2e ?_
  refine di_aload_n la_2034 rfl ?_
  refine dr_statH la_2035 rfl (by decide +kernel) rfl (t_L_holders l hl hI hS (by omega) (a1 := x1) (by omega) (by omega) (a2 := x2) (by omega) (by omega)) (by decide) (by omega) (by omega) (Nat.le_of_ble_eq_true rfl) kQLN (kQL (fun h11 hI12 hF13 hS14 hq16 ho17 => ?_))
  have hM15 := MSt_FL hM hF13
  refine di_istore (ls2 := [some (.retAddr 2), some (.ref 0), some (.ref 26), some (.ref 36), some (dI i), some (dI (spHolders σ x1 x2).1), none]) la_2038 rfl rfl ?_
  refine di_aload_n la_2040 rfl ?_
  refine dr_aload_n la_2041 rfl (Or.inr (Or.inr ⟨_, rfl⟩)) ?_
  refine dr_iload la_2042 rfl ?_
  refine di_const la_2044 ?_
  refine di_iadd la_2045 ?_
  refine dr_xldE la_2046 (by omega) (by omega) hL x1e ?_
  refine dr_aload_n la_2047 rfl (Or.inr (Or.inr ⟨_, rfl⟩)) ?_
  refine dr_iload la_2048 rfl ?_
  refine di_const la_2050 ?_
  refine di_iadd la_2051 ?_
  refine dr_xldE la_2052 (by omega) (by omega) hL x2e ?_
  obtain ⟨nic23, c23, -⟩ := hM15.1
  refine dr_virt la_2053 rfl rfl rfl c23 (n_X8_holders l hl hI12 hM15 (a1 := x1) (by omega) (by omega) (a2 := x2) (by omega) (by omega) (CSt_sSt hS)) (by decide) (by omega) (by omega) (Nat.le_of_ble_eq_true rfl) kQM9N (kQM9 (fun a24 h18 hI19 hF20 hM22 a24a a24b a24e => ?_))
  have hS21 := CSt_FrM2 hS14 hF20
  refine di_istore (ls2 := [some (.retAddr 2), some (.ref 0), some (.ref 26), some (.ref 36), some (dI i), some (dI (spHolders σ x1 x2).1), some (dI a24)]) la_2056 rfl rfl ?_
  refine dr_goto la_2058 rfl ?_
  refine dm_wk (ls2 := [some (.retAddr 2), some (.ref 0), some (.ref 26), some (.ref 36), some (dI i), none, none]) ⟨Or.inr rfl, Or.inr rfl, Or.inr rfl, Or.inr rfl, Or.inr rfl, Or.inl rfl, Or.inl rfl, trivial⟩ ?_
  refine dm_cew (ce2 := ce + 2000) (sl2 := sl + 60000) (by omega) (by omega) ?_
  exact K _ _ _ _ _ hI19 hS21 hM22 (by omega)
set_option maxHeartbeats 4000000 in
set_option maxRecDepth 100000 in
theorem lw_c39 (l : Launch) (hl : l.stackTraces = false) {L : Nat} {xs : Nat → Int32} (hL : L ≤ 384) {kc : Int} {h : dm_H} {B : Int} {σ : St} {th : Int} (hI : Inv kc kc h) (hS : CSt B σ h) (hM : MSt kc th σ h) {i : Int} (hi0 : 0 ≤ i) (hi6 : i + 6 ≤ L) (hB : 6 * B ≤ 20 * i) {ce sl : Nat} (hce : ce + 2000 ≤ 1200128) (hsl : sl + 60000 ≤ 5501098) (K : lw_K l L xs i (ce + 2000) (sl + 60000)) : dm_W (lw_E L xs) lw_PL l 329 420 1200128 5501098 2061 [some (.retAddr 2), some (.ref 0), some (.ref 26), some (.ref 36), some (dI i), none, none] [] h ce sl := by
  obtain ⟨x1, x1a, x1b, x1e⟩ := sv_x xs (i + 1)
  obtain ⟨x2, x2a, x2b, x2e⟩ := sv_x xs (i + 2)
  refine di_aload_n la_2061 rfl ?_
  refine dr_aload_n la_2062 rfl (Or.inr (Or.inr ⟨_, rfl⟩)) ?_
  refine dr_iload la_2063 rfl ?_
  refine di_const la_2065 ?_
  refine di_iadd la_2066 ?_
  refine dr_xldE la_2067 (by omega) (by omega) hL x1e ?_
  refine dr_aload_n la_2068 rfl (Or.inr (Or.inr ⟨_, rfl⟩)) ?_
  refine dr_iload la_2069 rfl ?_
  refine di_const la_2071 ?_
  refine di_iadd la_2072 ?_
  refine dr_xldE la_2073 (by omega) (by omega) hL x2e ?_
  refine di_if_eq la_2074 rfl (by omega) (by omega) (fun cz11 => ?_) (fun cz11 => ?_)
  · skip
    refine di_const la_2081 ?_
    refine di_aload_n la_2082 rfl ?_
    refine dr_statH la_2083 rfl (by decide +kernel) rfl (t_L_deepest l hl hI hS (by omega) (a1 := x1) (by omega) (by omega) (a2 := 0) (by omega) (by omega)) (by decide) (by omega) (by omega) (Nat.le_of_ble_eq_true rfl) kQLN (kQL (fun h12 hI13 hF14 hS15 hq17 ho18 => ?_))
    have hM16 := MSt_FL hM hF14
    refine di_istore (ls2 := [some (.retAddr 2), some (.ref 0), some (.ref 26), some (.ref 36), some (dI i), some (dI (spDeepest σ x1 0).1), none]) la_2086 rfl rfl ?_
    refine di_aload_n la_2088 rfl ?_
    refine dr_aload_n la_2089 rfl (Or.inr (Or.inr ⟨_, rfl⟩)) ?_
    refine dr_iload la_2090 rfl ?_
    refine di_const la_2092 ?_
    refine di_iadd la_2093 ?_
    refine dr_xldE la_2094 (by omega) (by omega) hL x1e ?_
    refine dr_aload_n la_2095 rfl (Or.inr (Or.inr ⟨_, rfl⟩)) ?_
    refine dr_iload la_2096 rfl ?_
    refine di_const la_2098 ?_
    refine di_iadd la_2099 ?_
    refine dr_xldE la_2100 (by omega) (by omega) hL x2e ?_
    refine di_if_eq la_2101 rfl (by omega) (by omega) (fun _ => ?_) (fun c9 => absurd cz11 c9)
    refine di_const la_2108 ?_
    obtain ⟨nic24, c24, -⟩ := hM16.1
    refine dr_virt la_2109 rfl rfl rfl c24 (n_X8_deepest l hl hI13 hM16 (a1 := x1) (by omega) (by omega) (a2 := 0) (by omega) (by omega) ) (by decide) (by omega) (by omega) (Nat.le_of_ble_eq_true rfl) kQM9N (kQM9 (fun a25 h19 hI20 hF21 hM23 a25a a25b a25e => ?_))
    have hS22 := CSt_FrM2 hS15 hF21
    refine di_istore (ls2 := [some (.retAddr 2), some (.ref 0), some (.ref 26), some (.ref 36), some (dI i), some (dI (spDeepest σ x1 0).1), some (dI a25)]) la_2112 rfl rfl ?_
    refine dr_goto la_2114 rfl ?_
    refine dm_wk (ls2 := [some (.retAddr 2), some (.ref 0), some (.ref 26), some (.ref 36), some (dI i), none, none]) ⟨Or.inr rfl, Or.inr rfl, Or.inr rfl, Or.inr rfl, Or.inr rfl, Or.inl rfl, Or.inl rfl, trivial⟩ ?_
    refine dm_cew (ce2 := ce + 2000) (sl2 := sl + 60000) (by omega) (by omega) ?_
    exact K _ _ _ _ _ hI20 hS22 hM23 (by omega)
  · skip
    refine di_const la_2077 ?_
    refine dr_goto la_2078 rfl ?_
    refine di_aload_n la_2082 rfl ?_
    refine dr_statH la_2083 rfl (by decide +kernel) rfl (t_L_deepest l hl hI hS (by omega) (a1 := x1) (by omega) (by omega) (a2 := 1) (by omega) (by omega)) (by decide) (by omega) (by omega) (Nat.le_of_ble_eq_true rfl) kQLN (kQL (fun h26 hI27 hF28 hS29 hq31 ho32 => ?_))
    have hM30 := MSt_FL hM hF28
    refine di_istore (ls2 := [some (.retAddr 2), some (.ref 0), some (.ref 26), some (.ref 36), some (dI i), some (dI (spDeepest σ x1 1).1), none]) la_2086 rfl rfl ?_
    refine di_aload_n la_2088 rfl ?_
    refine dr_aload_n la_2089 rfl (Or.inr (Or.inr ⟨_, rfl⟩)) ?_
    refine dr_iload la_2090 rfl ?_
    refine di_const la_2092 ?_
    refine di_iadd la_2093 ?_
    refine dr_xldE la_2094 (by omega) (by omega) hL x1e ?_
    refine dr_aload_n la_2095 rfl (Or.inr (Or.inr ⟨_, rfl⟩)) ?_
    refine dr_iload la_2096 rfl ?_
    refine di_const la_2098 ?_
    refine di_iadd la_2099 ?_
    refine dr_xldE la_2100 (by omega) (by omega) hL x2e ?_
    refine di_if_eq la_2101 rfl (by omega) (by omega) (fun c9 => absurd c9 cz11) (fun _ => ?_)
    refine di_const la_2104 ?_
    refine dr_goto la_2105 rfl ?_
    obtain ⟨nic38, c38, -⟩ := hM30.1
    refine dr_virt la_2109 rfl rfl rfl c38 (n_X8_deepest l hl hI27 hM30 (a1 := x1) (by omega) (by omega) (a2 := 1) (by omega) (by omega) ) (by decide) (by omega) (by omega) (Nat.le_of_ble_eq_true rfl) kQM9N (kQM9 (fun a39 h33 hI34 hF35 hM37 a39a a39b a39e => ?_))
    have hS36 := CSt_FrM2 hS29 hF35
    refine di_istore (ls2 := [some (.retAddr 2), some (.ref 0), some (.ref 26), some (.ref 36), some (dI i), some (dI (spDeepest σ x1 1).1), some (dI a39)]) la_2112 rfl rfl ?_
    refine dr_goto la_2114 rfl ?_
    refine dm_wk (ls2 := [some (.retAddr 2), some (.ref 0), some (.ref 26), some (.ref 36), some (dI i), none, none]) ⟨Or.inr rfl, Or.inr rfl, Or.inr rfl, Or.inr rfl, Or.inr rfl, Or.inl rfl, Or.inl rfl, trivial⟩ ?_
    refine dm_cew (ce2 := ce + 2000) (sl2 := sl + 60000) (by omega) (by omega) ?_
    exact K _ _ _ _ _ hI34 hS36 hM37 (by omega)
set_option maxHeartbeats 4000000 in
set_option maxRecDepth 100000 in
theorem lw_c40 (l : Launch) (hl : l.stackTraces = false) {L : Nat} {xs : Nat → Int32} (hL : L ≤ 384) {kc : Int} {h : dm_H} {B : Int} {σ : St} {th : Int} (hI : Inv kc kc h) (hS : CSt B σ h) (hM : MSt kc th σ h) {i : Int} (hi0 : 0 ≤ i) (hi6 : i + 6 ≤ L) (hB : 6 * B ≤ 20 * i) {ce sl : Nat} (hce : ce + 2000 ≤ 1200128) (hsl : sl + 60000 ≤ 5501098) (K : lw_K l L xs i (ce + 2000) (sl + 60000)) : dm_W (lw_E L xs) lw_PL l 329 420 1200128 5501098 2117 [some (.retAddr 2), some (.ref 0), some (.ref 26), some (.ref 36), some (dI i), none, none] [] h ce sl := by
  obtain ⟨x1, x1a, x1b, x1e⟩ := sv_x xs (i + 1)
  refine di_aload_n la_2117 rfl ?_
  refine dr_aload_n la_2118 rfl (Or.inr (Or.inr ⟨_, rfl⟩)) ?_
  refine dr_iload la_2119 rfl ?_
  refine di_const la_2121 ?_
  refine di_iadd la_2122 ?_
  refine dr_xldE la_2123 (by omega) (by omega) hL x1e ?_
  refine di_aload_n la_2124 rfl ?_
  refine dr_statH la_2125 rfl (by decide +kernel) rfl (t_L_rooms l hl hI hS (by omega) (a1 := x1) (by omega) (by omega)) (by decide) (by omega) (by omega) (Nat.le_of_ble_eq_true rfl) kQLN (kQL (fun h11 hI12 hF13 hS14 hq16 ho17 => ?_))
  have hM15 := MSt_FL hM hF13
  refine di_istore (ls2 := [some (.retAddr 2), some (.ref 0), some (.ref 26), some (.ref 36), some (dI i), some (dI (spRooms σ x1).1), none]) la_2128 rfl rfl ?_
  refine di_aload_n la_2130 rfl ?_
  refine dr_aload_n la_2131 rfl (Or.inr (Or.inr ⟨_, rfl⟩)) ?_
  refine dr_iload la_2132 rfl ?_
  refine di_const la_2134 ?_
  refine di_iadd la_2135 ?_
  refine dr_xldE la_2136 (by omega) (by omega) hL x1e ?_
  obtain ⟨nic23, c23, -⟩ := hM15.1
  refine dr_virt la_2137 rfl rfl rfl c23 (n_X8_rooms l hl hI12 hM15 (a1 := x1) (by omega) (by omega) (CSt_sSt hS)) (by decide) (by omega) (by omega) (Nat.le_of_ble_eq_true rfl) kQMAN (kQMA9 (fun a24 h18 hI19 hF20 hM22 a24a a24b a24e => ?_))
  have hS21 := CSt_FrN hS14 hI12 hF20
  refine di_istore (ls2 := [some (.retAddr 2), some (.ref 0), some (.ref 26), some (.ref 36), some (dI i), some (dI (spRooms σ x1).1), some (dI a24)]) la_2140 rfl rfl ?_
  refine dr_goto la_2142 rfl ?_
  refine dm_wk (ls2 := [some (.retAddr 2), some (.ref 0), some (.ref 26), some (.ref 36), some (dI i), none, none]) ⟨Or.inr rfl, Or.inr rfl, Or.inr rfl, Or.inr rfl, Or.inr rfl, Or.inl rfl, Or.inl rfl, trivial⟩ ?_
  refine dm_cew (ce2 := ce + 2000) (sl2 := sl + 60000) (by omega) (by omega) ?_
  exact K _ _ _ _ _ hI19 hS21 hM22 (by omega)
set_option maxHeartbeats 4000000 in
set_option maxRecDepth 100000 in
theorem lw_c41 (l : Launch) (hl : l.stackTraces = false) {L : Nat} {xs : Nat → Int32} (hL : L ≤ 384) {kc : Int} {h : dm_H} {B : Int} {σ : St} {th : Int} (hI : Inv kc kc h) (hS : CSt B σ h) (hM : MSt kc th σ h) {i : Int} (hi0 : 0 ≤ i) (hi6 : i + 6 ≤ L) (hB : 6 * B ≤ 20 * i) {ce sl : Nat} (hce : ce + 2000 ≤ 1200128) (hsl : sl + 60000 ≤ 5501098) (K : lw_K l L xs i (ce + 2000) (sl + 60000)) : dm_W (lw_E L xs) lw_PL l 329 420 1200128 5501098 2145 [some (.retAddr 2), some (.ref 0), some (.ref 26), some (.ref 36), some (dI i), none, none] [] h ce sl := by
  obtain ⟨x1, x1a, x1b, x1e⟩ := sv_x xs (i + 1)
  obtain ⟨x2, x2a, x2b, x2e⟩ := sv_x xs (i + 2)
  obtain ⟨x3, x3a, x3b, x3e⟩ := sv_x xs (i + 3)
  refine di_aload_n la_2145 rfl ?_
  refine dr_aload_n la_2146 rfl (Or.inr (Or.inr ⟨_, rfl⟩)) ?_
  refine dr_iload la_2147 rfl ?_
  refine di_const la_2149 ?_
  refine di_iadd la_2150 ?_
  refine dr_xldE la_2151 (by omega) (by omega) hL x1e ?_
  refine dr_aload_n la_2152 rfl (Or.inr (Or.inr ⟨_, rfl⟩)) ?_
  refine dr_iload la_2153 rfl ?_
  refine di_const la_2155 ?_
  refine di_iadd la_2156 ?_
  refine dr_xldE la_2157 (by omega) (by omega) hL x2e ?_
  refine dr_aload_n la_2158 rfl (Or.inr (Or.inr ⟨_, rfl⟩)) ?_
  refine dr_iload la_2159 rfl ?_
  refine di_const la_2161 ?_
  refine di_iadd la_2162 ?_
  refine dr_xldE la_2163 (by omega) (by omega) hL x3e ?_
  refine di_aload_n la_2164 rfl ?_
  refine dr_statH la_2165 rfl (by decide +kernel) rfl (t_L_roomOf l hl hI hS (by omega) (a1 := x1) (by omega) (by omega) (a2 := x2) (by omega) (by omega) (a3 := x3) (by omega) (by omega)) (by decide) (by omega) (by omega) (Nat.le_of_ble_eq_true rfl) kQLN (kQL (fun h11 hI12 hF13 hS14 hq16 ho17 => ?_))
  have hM15 := MSt_FL hM hF13
  refine di_istore (ls2 := [some (.retAddr 2), some (.ref 0), some (.ref 26), some (.ref 36), some (dI i), some (dI (spRoomOf σ x1 x2 x3).1), none]) la_2168 rfl rfl ?_
  refine di_aload_n la_2170 rfl ?_
  refine dr_aload_n la_2171 rfl (Or.inr (Or.inr ⟨_, rfl⟩)) ?_
  refine dr_iload la_2172 rfl ?_
  refine di_const la_2174 ?_
  refine di_iadd la_2175 ?_
  refine dr_xldE la_2176 (by omega) (by omega) hL x1e ?_
  refine dr_aload_n la_2177 rfl (Or.inr (Or.inr ⟨_, rfl⟩)) ?_
  refine dr_iload la_2178 rfl ?_
  refine di_const la_2180 ?_
  refine di_iadd la_2181 ?_
  refine dr_xldE la_2182 (by omega) (by omega) hL x2e ?_
  refine dr_aload_n la_2183 rfl (Or.inr (Or.inr ⟨_, rfl⟩)) ?_
  refine dr_iload la_2184 rfl ?_
  refine di_const la_2186 ?_
  refine di_iadd la_2187 ?_
  refine dr_xldE la_2188 (by omega) (by omega) hL x3e ?_
  obtain ⟨nic23, c23, -⟩ := hM15.1
  refine dr_virt la_2189 rfl rfl rfl c23 (n_X8_roomOf l hl hI12 hM15 (a1 := x1) (by omega) (by omega) (a2 := x2) (by omega) (by omega) (a3 := x3) (by omega) (by omega) (CSt_sSt hS)) (by decide) (by omega) (by omega) (Nat.le_of_ble_eq_true rfl) kQMAN (kQMA9 (fun a24 h18 hI19 hF20 hM22 a24a a24b a24e => ?_))
  have hS21 := CSt_FrN hS14 hI12 hF20
  refine di_istore (ls2 := [some (.retAddr 2), some (.ref 0), some (.ref 26), some (.ref 36), some (dI i), some (dI (spRoomOf σ x1 x2 x3).1), some (dI a24)]) la_2192 rfl rfl ?_
  refine dr_goto la_2194 rfl ?_
  refine dm_wk (ls2 := [some (.retAddr 2), some (.ref 0), some (.ref 26), some (.ref 36), some (dI i), none, none]) ⟨Or.inr rfl, Or.inr rfl, Or.inr rfl, Or.inr rfl, Or.inr rfl, Or.inl rfl, Or.inl rfl, trivial⟩ ?_
  refine dm_cew (ce2 := ce + 2000) (sl2 := sl + 60000) (by omega) (by omega) ?_
  exact K _ _ _ _ _ hI19 hS21 hM22 (by omega)
set_option maxHeartbeats 4000000 in
set_option maxRecDepth 100000 in
theorem lw_c42 (l : Launch) (hl : l.stackTraces = false) {L : Nat} {xs : Nat → Int32} (hL : L ≤ 384) {kc : Int} {h : dm_H} {B : Int} {σ : St} {th : Int} (hI : Inv kc kc h) (hS : CSt B σ h) (hM : MSt kc th σ h) {i : Int} (hi0 : 0 ≤ i) (hi6 : i + 6 ≤ L) (hB : 6 * B ≤ 20 * i) {ce sl : Nat} (hce : ce + 2000 ≤ 1200128) (hsl : sl + 60000 ≤ 5501098) (K : lw_K l L xs i (ce + 2000) (sl + 60000)) : dm_W (lw_E L xs) lw_PL l 329 420 1200128 5501098 2197 [some (.retAddr 2), some (.ref 0), some (.ref 26), some (.ref 36), some (dI i), none, none] [] h ce sl := by
  obtain ⟨x1, x1a, x1b, x1e⟩ := sv_x xs (i + 1)
  obtain ⟨x2, x2a, x2b, x2e⟩ := sv_x xs (i + 2)
  obtain ⟨x3, x3a, x3b, x3e⟩ := sv_x xs (i + 3)
  refine di_aload_n la_2197 rfl ?_
  refine dr_aload_n la_2198 rfl (Or.inr (Or.inr ⟨_, rfl⟩)) ?_
  refine dr_iload la_2199 rfl ?_
  refine di_const la_2201 ?_
  refine di_iadd la_2202 ?_
  refine dr_xldE la_2203 (by omega) (by omega) hL x1e ?_
  refine dr_aload_n la_2204 rfl (Or.inr (Or.inr ⟨_, rfl⟩)) ?_
  refine dr_iload la_2205 rfl ?_
  refine di_const la_2207 ?_
  refine di_iadd la_2208 ?_
  refine dr_xldE la_2209 (by omega) (by omega) hL x2e ?_
  refine dr_aload_n la_2210 rfl (Or.inr (Or.inr ⟨_, rfl⟩)) ?_
  refine dr_iload la_2211 rfl ?_
  refine di_const la_2213 ?_
  refine di_iadd la_2214 ?_
  refine dr_xldE la_2215 (by omega) (by omega) hL x3e ?_
  refine di_aload_n la_2216 rfl ?_
  refine dr_statH la_2217 rfl (by decide +kernel) rfl (t_L_links l hl hI hS (by omega) (a1 := x1) (by omega) (by omega) (a2 := x2) (by omega) (by omega) (a3 := x3) (by omega) (by omega)) (by decide) (by omega) (by omega) (Nat.le_of_ble_eq_true rfl) kQLN (kQL (fun h11 hI12 hF13 hS14 hq16 ho17 => ?_))
  have hM15 := MSt_FL hM hF13
  refine di_istore (ls2 := [some (.retAddr 2), some (.ref 0), some (.ref 26), some (.ref 36), some (dI i), some (dI (spLinks σ x1 x2 x3).1), none]) la_2220 rfl rfl ?_
  refine di_aload_n la_2222 rfl ?_
  refine dr_aload_n la_2223 rfl (Or.inr (Or.inr ⟨_, rfl⟩)) ?_
  refine dr_iload la_2224 rfl ?_
  refine di_const la_2226 ?_
  refine di_iadd la_2227 ?_
  refine dr_xldE la_2228 (by omega) (by omega) hL x1e ?_
  refine dr_aload_n la_2229 rfl (Or.inr (Or.inr ⟨_, rfl⟩)) ?_
  refine dr_iload la_2230 rfl ?_
  refine di_const la_2232 ?_
  refine di_iadd la_2233 ?_
  refine dr_xldE la_2234 (by omega) (by omega) hL x2e ?_
  refine dr_aload_n la_2235 rfl (Or.inr (Or.inr ⟨_, rfl⟩)) ?_
  refine dr_iload la_2236 rfl ?_
  refine di_const la_2238 ?_
  refine di_iadd la_2239 ?_
  refine dr_xldE la_2240 (by omega) (by omega) hL x3e ?_
  obtain ⟨nic23, c23, -⟩ := hM15.1
  refine dr_virt la_2241 rfl rfl rfl c23 (n_X8_links l hl hI12 hM15 (a1 := x1) (by omega) (by omega) (a2 := x2) (by omega) (by omega) (a3 := x3) (by omega) (by omega) ) (by decide) (by omega) (by omega) (Nat.le_of_ble_eq_true rfl) kQM9N (kQM9 (fun a24 h18 hI19 hF20 hM22 a24a a24b a24e => ?_))
  have hS21 := CSt_FrM2 hS14 hF20
  refine di_istore (ls2 := [some (.retAddr 2), some (.ref 0), some (.ref 26), some (.ref 36), some (dI i), some (dI (spLinks σ x1 x2 x3).1), some (dI a24)]) la_2244 rfl rfl ?_
  refine dr_goto la_2246 rfl ?_
  refine dm_wk (ls2 := [some (.retAddr 2), some (.ref 0), some (.ref 26), some (.ref 36), some (dI i), none, none]) ⟨Or.inr rfl, Or.inr rfl, Or.inr rfl, Or.inr rfl, Or.inr rfl, Or.inl rfl, Or.inl rfl, trivial⟩ ?_
  refine dm_cew (ce2 := ce + 2000) (sl2 := sl + 60000) (by omega) (by omega) ?_
  exact K _ _ _ _ _ hI19 hS21 hM22 (by omega)
set_option maxHeartbeats 4000000 in
set_option maxRecDepth 100000 in
theorem lw_c43 (l : Launch) (hl : l.stackTraces = false) {L : Nat} {xs : Nat → Int32} (hL : L ≤ 384) {kc : Int} {h : dm_H} {B : Int} {σ : St} {th : Int} (hI : Inv kc kc h) (hS : CSt B σ h) (hM : MSt kc th σ h) {i : Int} (hi0 : 0 ≤ i) (hi6 : i + 6 ≤ L) (hB : 6 * B ≤ 20 * i) {ce sl : Nat} (hce : ce + 2000 ≤ 1200128) (hsl : sl + 60000 ≤ 5501098) (K : lw_K l L xs i (ce + 2000) (sl + 60000)) : dm_W (lw_E L xs) lw_PL l 329 420 1200128 5501098 2249 [some (.retAddr 2), some (.ref 0), some (.ref 26), some (.ref 36), some (dI i), none, none] [] h ce sl := by
  obtain ⟨x1, x1a, x1b, x1e⟩ := sv_x xs (i + 1)
  obtain ⟨x2, x2a, x2b, x2e⟩ := sv_x xs (i + 2)
  obtain ⟨x3, x3a, x3b, x3e⟩ := sv_x xs (i + 3)
  obtain ⟨x4, x4a, x4b, x4e⟩ := sv_x xs (i + 4)
  refine di_aload_n la_2249 rfl ?_
  refine dr_aload_n la_2250 rfl (Or.inr (Or.inr ⟨_, rfl⟩)) ?_
  refine dr_iload la_2251 rfl ?_
  refine di_const la_2253 ?_
  refine di_iadd la_2254 ?_
  refine dr_xldE la_2255 (by omega) (by omega) hL x1e ?_
  refine dr_aload_n la_2256 rfl (Or.inr (Or.inr ⟨_, rfl⟩)) ?_
  refine dr_iload la_2257 rfl ?_
  refine di_const la_2259 ?_
  refine di_iadd la_2260 ?_
  refine dr_xldE la_2261 (by omega) (by omega) hL x2e ?_
  refine dr_aload_n la_2262 rfl (Or.inr (Or.inr ⟨_, rfl⟩)) ?_
  refine dr_iload la_2263 rfl ?_
  refine di_const la_2265 ?_
  refine di_iadd la_2266 ?_
  refine dr_xldE la_2267 (by omega) (by omega) hL x3e ?_
  refine dr_aload_n la_2268 rfl (Or.inr (Or.inr ⟨_, rfl⟩)) ?_
  refine dr_iload la_2269 rfl ?_
  refine di_const la_2271 ?_
  refine di_iadd la_2272 ?_
  refine dr_xldE la_2273 (by omega) (by omega) hL x4e ?_
  refine di_aload_n la_2274 rfl ?_
  refine dr_statH la_2275 rfl (by decide +kernel) rfl (t_L_link l hl hI hS (by omega) (a1 := x1) (by omega) (by omega) (a2 := x2) (by omega) (by omega) (a3 := x3) (by omega) (by omega) (a4 := x4) (by omega) (by omega)) (by decide) (by omega) (by omega) (Nat.le_of_ble_eq_true rfl) kQLN (kQL (fun h11 hI12 hF13 hS14 hq16 ho17 => ?_))
  have hM15 := MSt_FL hM hF13
  refine di_istore (ls2 := [some (.retAddr 2), some (.ref 0), some (.ref 26), some (.ref 36), some (dI i), some (dI (spLink σ x1 x2 x3 x4).1), none]) la_2278 rfl rfl ?_
  refine di_aload_n la_2280 rfl ?_
  refine dr_aload_n la_2281 rfl (Or.inr (Or.inr ⟨_, rfl⟩)) ?_
  refine dr_iload la_2282 rfl ?_
  refine di_const la_2284 ?_
  refine di_iadd la_2285 ?_
  refine dr_xldE la_2286 (by omega) (by omega) hL x1e ?_
  refine dr_aload_n la_2287 rfl (Or.inr (Or.inr ⟨_, rfl⟩)) ?_
  refine dr_iload la_2288 rfl ?_
  refine di_const la_2290 ?_
  refine di_iadd la_2291 ?_
  refine dr_xldE la_2292 (by omega) (by omega) hL x2e ?_
  refine dr_aload_n la_2293 rfl (Or.inr (Or.inr ⟨_, rfl⟩)) ?_
  refine dr_iload la_2294 rfl ?_
  refine di_const la_2296 ?_
  refine di_iadd la_2297 ?_
  refine dr_xldE la_2298 (by omega) (by omega) hL x3e ?_
  refine dr_aload_n la_2299 rfl (Or.inr (Or.inr ⟨_, rfl⟩)) ?_
  refine dr_iload la_2300 rfl ?_
  refine di_const la_2302 ?_
  refine di_iadd la_2303 ?_
  refine dr_xldE la_2304 (by omega) (by omega) hL x4e ?_
  obtain ⟨nic23, c23, -⟩ := hM15.1
  refine dr_virt la_2305 rfl rfl rfl c23 (n_X8_link l hl hI12 hM15 (a1 := x1) (by omega) (by omega) (a2 := x2) (by omega) (by omega) (a3 := x3) (by omega) (by omega) (a4 := x4) (by omega) (by omega) ) (by decide) (by omega) (by omega) (Nat.le_of_ble_eq_true rfl) kQM9N (kQM9 (fun a24 h18 hI19 hF20 hM22 a24a a24b a24e => ?_))
  have hS21 := CSt_FrM2 hS14 hF20
  refine di_istore (ls2 := [some (.retAddr 2), some (.ref 0), some (.ref 26), some (.ref 36), some (dI i), some (dI (spLink σ x1 x2 x3 x4).1), some (dI a24)]) la_2308 rfl rfl ?_
  refine dr_goto la_2310 rfl ?_
  refine dm_wk (ls2 := [some (.retAddr 2), some (.ref 0), some (.ref 26), some (.ref 36), some (dI i), none, none]) ⟨Or.inr rfl, Or.inr rfl, Or.inr rfl, Or.inr rfl, Or.inr rfl, Or.inl rfl, Or.inl rfl, trivial⟩ ?_
  refine dm_cew (ce2 := ce + 2000) (sl2 := sl + 60000) (by omega) (by omega) ?_
  exact K _ _ _ _ _ hI19 hS21 hM22 (by omega)
set_option maxHeartbeats 4000000 in
set_option maxRecDepth 100000 in
theorem lw_c44 (l : Launch) (hl : l.stackTraces = false) {L : Nat} {xs : Nat → Int32} (hL : L ≤ 384) {kc : Int} {h : dm_H} {B : Int} {σ : St} {th : Int} (hI : Inv kc kc h) (hS : CSt B σ h) (hM : MSt kc th σ h) {i : Int} (hi0 : 0 ≤ i) (hi6 : i + 6 ≤ L) (hB : 6 * B ≤ 20 * i) {ce sl : Nat} (hce : ce + 2000 ≤ 1200128) (hsl : sl + 60000 ≤ 5501098) (K : lw_K l L xs i (ce + 2000) (sl + 60000)) : dm_W (lw_E L xs) lw_PL l 329 420 1200128 5501098 2313 [some (.retAddr 2), some (.ref 0), some (.ref 26), some (.ref 36), some (dI i), none, none] [] h ce sl := by
  obtain ⟨x1, x1a, x1b, x1e⟩ := sv_x xs (i + 1)
  refine di_aload_n la_2313 rfl ?_
  refine dr_aload_n la_2314 rfl (Or.inr (Or.inr ⟨_, rfl⟩)) ?_
  refine dr_iload la_2315 rfl ?_
  refine di_const la_2317 ?_
  refine di_iadd la_2318 ?_
  refine dr_xldE la_2319 (by omega) (by omega) hL x1e ?_
  refine di_aload_n la_2320 rfl ?_
  refine dr_statH la_2321 rfl (by decide +kernel) rfl (t_L_house l hl hI hS (by omega) (a1 := x1) (by omega) (by omega)) (by decide) (by omega) (by omega) (Nat.le_of_ble_eq_true rfl) kQLN (kQL (fun h11 hI12 hF13 hS14 hq16 ho17 => ?_))
  have hM15 := MSt_FL hM hF13
  refine di_istore (ls2 := [some (.retAddr 2), some (.ref 0), some (.ref 26), some (.ref 36), some (dI i), some (dI (spHouse σ kc x1).1), none]) la_2324 rfl rfl ?_
  refine di_aload_n la_2326 rfl ?_
  refine dr_aload_n la_2327 rfl (Or.inr (Or.inr ⟨_, rfl⟩)) ?_
  refine dr_iload la_2328 rfl ?_
  refine di_const la_2330 ?_
  refine di_iadd la_2331 ?_
  refine dr_xldE la_2332 (by omega) (by omega) hL x1e ?_
  obtain ⟨nic23, c23, -⟩ := hM15.1
  refine dr_virt la_2333 rfl rfl rfl c23 (n_X8_house l hl hI12 hM15 (a1 := x1) (by omega) (by omega) ) (by decide) (by omega) (by omega) (Nat.le_of_ble_eq_true rfl) kQM9N (kQM9 (fun a24 h18 hI19 hF20 hM22 a24a a24b a24e => ?_))
  have hS21 := CSt_FrM2 hS14 hF20
  refine di_istore (ls2 := [some (.retAddr 2), some (.ref 0), some (.ref 26), some (.ref 36), some (dI i), some (dI (spHouse σ kc x1).1), some (dI a24)]) la_2336 rfl rfl ?_
  refine dr_goto la_2338 rfl ?_
  refine dm_wk (ls2 := [some (.retAddr 2), some (.ref 0), some (.ref 26), some (.ref 36), some (dI i), none, none]) ⟨Or.inr rfl, Or.inr rfl, Or.inr rfl, Or.inr rfl, Or.inr rfl, Or.inl rfl, Or.inl rfl, trivial⟩ ?_
  refine dm_cew (ce2 := ce + 2000) (sl2 := sl + 60000) (by omega) (by omega) ?_
  exact K _ _ _ _ _ hI19 hS21 hM22 (by omega)
set_option maxHeartbeats 4000000 in
set_option maxRecDepth 100000 in
theorem lw_c45 (l : Launch) (hl : l.stackTraces = false) {L : Nat} {xs : Nat → Int32} (hL : L ≤ 384) {kc : Int} {h : dm_H} {B : Int} {σ : St} {th : Int} (hI : Inv kc kc h) (hS : CSt B σ h) (hM : MSt kc th σ h) {i : Int} (hi0 : 0 ≤ i) (hi6 : i + 6 ≤ L) (hB : 6 * B ≤ 20 * i) {ce sl : Nat} (hce : ce + 2000 ≤ 1200128) (hsl : sl + 60000 ≤ 5501098) (K : lw_K l L xs i (ce + 2000) (sl + 60000)) : dm_W (lw_E L xs) lw_PL l 329 420 1200128 5501098 2341 [some (.retAddr 2), some (.ref 0), some (.ref 26), some (.ref 36), some (dI i), none, none] [] h ce sl := by
  refine di_aload_n la_2341 rfl ?_
  obtain ⟨rc16, rc16a, rc16b, c16⟩ := I_cls hI
  refine dr_virt la_2342 rfl rfl rfl c16 (t_X6_knock l hl hI) (by decide) (by omega) (by omega) (Nat.le_of_ble_eq_true rfl) kKCN (kKC (fun h11 hI12 hF13 hk17 hk9 => ?_))
  have hS14 := hk9 _ _ hS
  have hM15 := MSt_same hM (fun j j0 _ => hk17 j (by omega))
  refine dr_pop la_2345 rfl ?_
  refine di_aload_n la_2346 rfl ?_
  obtain ⟨nic23, c23, -⟩ := hM15.1
  refine dr_virt la_2347 rfl rfl rfl c23 (t_X8_knock l hl hI12 hM15) (by decide) (by omega) (by omega) (Nat.le_of_ble_eq_true rfl) kKMN (kKM (fun h18 hI19 hF20 hk24 hM22 => ?_))
  have hS21 := CSt_same hS14 (fun j _ j1 _ => hk24 j (by omega))
  refine dr_pop la_2350 rfl ?_
  refine dr_goto la_2351 rfl ?_
  refine dm_cew (ce2 := ce + 2000) (sl2 := sl + 60000) (by omega) (by omega) ?_
  exact K _ _ _ _ _ hI19 hS21 hM22 (by omega)
set_option maxHeartbeats 4000000 in
set_option maxRecDepth 100000 in
theorem lw_c46 (l : Launch) (hl : l.stackTraces = false) {L : Nat} {xs : Nat → Int32} (hL : L ≤ 384) {kc : Int} {h : dm_H} {B : Int} {σ : St} {th : Int} (hI : Inv kc kc h) (hS : CSt B σ h) (hM : MSt kc th σ h) {i : Int} (hi0 : 0 ≤ i) (hi6 : i + 6 ≤ L) (hB : 6 * B ≤ 20 * i) {ce sl : Nat} (hce : ce + 2000 ≤ 1200128) (hsl : sl + 60000 ≤ 5501098) (K : lw_K l L xs i (ce + 2000) (sl + 60000)) : dm_W (lw_E L xs) lw_PL l 329 420 1200128 5501098 2354 [some (.retAddr 2), some (.ref 0), some (.ref 26), some (.ref 36), some (dI i), none, none] [] h ce sl := by
  refine di_aload_n la_2354 rfl ?_
  obtain ⟨rc16, rc16a, rc16b, c16⟩ := I_cls hI
  refine dr_virt la_2355 rfl rfl rfl c16 (c_X6_isSound l hl hI hS (by omega)) (by decide) (by omega) (by omega) (Nat.le_of_ble_eq_true rfl) kS1N (kS1 (fun h11 hI12 hF13 => ?_))
  have hS14 := CSt_T hS hF13
  have hM15 := MSt_same hM (fun j j0 _ => hF13.2 j (by omega))
  refine dr_pop la_2358 rfl ?_
  refine di_aload_n la_2359 rfl ?_
  obtain ⟨nic22, c22, -⟩ := hM15.1
  refine dr_virt la_2360 rfl rfl rfl c22 (n_X8_isSound l hl hI12 hM15 (CSt_sSt hS14)) (by decide) (by omega) (by omega) (Nat.le_of_ble_eq_true rfl) kQMAN (kQMA (fun a23 h17 hI18 hF19 hM21 a23a a23b a23e => ?_))
  have a23e : a23 = 1 := a23e rfl
  subst a23e
  have hM21 : MSt kc 0 σ h17 := hM21
  have hS20 := CSt_FrN hS14 hI12 hF19
  refine dr_pop la_2363 rfl ?_
  refine dr_goto la_2364 rfl ?_
  refine dm_cew (ce2 := ce + 2000) (sl2 := sl + 60000) (by omega) (by omega) ?_
  exact K _ _ _ _ _ hI18 hS20 hM21 (by omega)
set_option maxHeartbeats 4000000 in
set_option maxRecDepth 100000 in
theorem lw_c47 (l : Launch) (hl : l.stackTraces = false) {L : Nat} {xs : Nat → Int32} (hL : L ≤ 384) {kc : Int} {h : dm_H} {B : Int} {σ : St} {th : Int} (hI : Inv kc kc h) (hS : CSt B σ h) (hM : MSt kc th σ h) {i : Int} (hi0 : 0 ≤ i) (hi6 : i + 6 ≤ L) (hB : 6 * B ≤ 20 * i) {ce sl : Nat} (hce : ce + 2000 ≤ 1200128) (hsl : sl + 60000 ≤ 5501098) (K : lw_K l L xs i (ce + 2000) (sl + 60000)) : dm_W (lw_E L xs) lw_PL l 329 420 1200128 5501098 2367 [some (.retAddr 2), some (.ref 0), some (.ref 26), some (.ref 36), some (dI i), none, none] [] h ce sl := by
  refine di_aload_n la_2367 rfl ?_
  obtain ⟨rc16, rc16a, rc16b, c16⟩ := I_cls hI
  refine dr_virt la_2368 rfl rfl rfl c16 (c_X6_digest l hl hI hS (by omega)) (by decide) (by omega) (by omega) (Nat.le_of_ble_eq_true rfl) kQDN (kQD (fun h11 hI12 hF13 hS14 => ?_))
  have hM15 := MSt_same hM (fun j j0 _ => hF13.2 j (by omega))
  refine dr_pop2 la_2371 rfl ?_
  refine di_aload_n la_2372 rfl ?_
  obtain ⟨nic22, c22, -⟩ := hM15.1
  refine dr_virt la_2373 rfl rfl rfl c22 (n_X8_digest l hl hI12 hM15 (CSt_sSt hS14)) (by decide) (by omega) (by omega) (Nat.le_of_ble_eq_true rfl) kQMDN (kQMD (fun h17 hI18 hF19 hM21 => ?_))
  have hS20 := CSt_FrN hS14 hI12 hF19
  refine dr_pop2 la_2376 rfl ?_
  refine dr_goto la_2377 rfl ?_
  refine dm_cew (ce2 := ce + 2000) (sl2 := sl + 60000) (by omega) (by omega) ?_
  exact K _ _ _ _ _ hI18 hS20 hM21 (by omega)
/-! ===== the law's loop and its start ===== -/
theorem in48 {y : Int} (h0 : 0 ≤ y) (h1 : y ≤ 47) : y = 0 ∨ y = 1 ∨ y = 2 ∨ y = 3 ∨ y = 4 ∨ y = 5 ∨ y = 6 ∨ y = 7 ∨ y = 8 ∨ y = 9 ∨ y = 10 ∨ y = 11 ∨ y = 12 ∨ y = 13 ∨ y = 14 ∨ y = 15 ∨ y = 16 ∨ y = 17 ∨ y = 18 ∨ y = 19 ∨ y = 20 ∨ y = 21 ∨ y = 22 ∨ y = 23 ∨ y = 24 ∨ y = 25 ∨ y = 26 ∨ y = 27 ∨ y = 28 ∨ y = 29 ∨ y = 30 ∨ y = 31 ∨ y = 32 ∨ y = 33 ∨ y = 34 ∨ y = 35 ∨ y = 36 ∨ y = 37 ∨ y = 38 ∨ y = 39 ∨ y = 40 ∨ y = 41 ∨ y = 42 ∨ y = 43 ∨ y = 44 ∨ y = 45 ∨ y = 46 ∨ y = 47 := by omega
set_option maxHeartbeats 4000000 in
set_option maxRecDepth 100000 in
theorem lw_loop (l : Launch) (hl : l.stackTraces = false) {L : Nat} {xs : Nat → Int32} (hL : L ≤ 384) : ∀ (n : Nat) (i kc : Int) (h : dm_H) (B : Int) (σ : St) (th : Int) (ce sl : Nat), (400 - i).toNat < n → 0 ≤ i → i ≤ 390 → 6 * (ce : Int) ≤ 600 + 2000 * i → 6 * (sl : Int) ≤ 6000 + 60000 * i → Inv kc kc h → CSt B σ h → MSt kc th σ h → 6 * B ≤ 20 * i → dm_W (lw_E L xs) lw_PL l 329 420 1200128 5501098 27 [some (.retAddr 2), some (.ref 0), some (.ref 26), some (.ref 36), some (dI (i)), none, none] [] h ce sl := by
  intro n
  induction n with
  | zero => intro i kc h B σ th ce sl hm; exact absurd hm (Nat.not_lt_zero _)
  | succ n ih =>
    intro i kc h B σ th ce sl hm h0 h1 h2 h3 hI hS hM hB
    refine dr_iload la_27 rfl ?_
    refine dr_aload_n la_29 rfl (Or.inr (Or.inr ⟨_, rfl⟩)) ?_
    refine dr_xlen la_30 ?_
    refine di_bipush la_31 (by decide) ?_
    refine di_isub la_33 ?_
    refine di_icmp_gt la_34 rfl (by omega) (by omega) (by omega) (by omega) (fun c => ?_) (fun c => ?_)
    · refine di_const la_2386 ?_
      exact lw_end la_2387 (by omega) (by omega)
    · have hK : lw_K l L xs i (ce + 2000) (sl + 60000) := by
        intro kc2 g2 B2 σ2 th2 hI2 hS2 hM2 hB2
        refine di_iinc (ls2 := [some (.retAddr 2), some (.ref 0), some (.ref 26), some (.ref 36), some (dI (i + 6)), none, none]) la_2380 rfl rfl rfl ?_
        refine dr_goto la_2383 rfl ?_
        exact ih (i + 6) kc2 g2 B2 σ2 th2 _ _ (by omega) (by omega) (by omega) (by omega) (by omega) hI2 hS2 hM2 hB2
      refine dr_aload_n la_37 rfl (Or.inr (Or.inr ⟨_, rfl⟩)) ?_
      refine dr_iload la_38 rfl ?_
      refine dr_xld la_40 (by omega) (by omega) hL (fun x xa xb => ?_)
      refine di_bipush la_41 (by decide) ?_
      refine du_iand la_43 (fun y ya yb => ?_)
      by_cases hy : y < 0 ∨ 47 < y
      · refine di_tabOut la_44 (by omega) (by omega) hy rfl ?_
        refine dm_cew (ce2 := ce + 2000) (sl2 := sl + 60000) (by omega) (by omega) ?_
        exact hK kc h B σ th hI hS hM (by omega)
      · have hi6 : i + 6 ≤ L := by omega
        have hce : ce + 2000 ≤ 1200128 := by omega
        have hsl : sl + 60000 ≤ 5501098 := by omega
        have hy2 := in48 (y := y) (by omega) (by omega)
        clear ih hm h1 h2 h3 c xa xb ya yb hy
        rcases hy2 with rfl | rfl | rfl | rfl | rfl | rfl | rfl | rfl | rfl | rfl | rfl | rfl | rfl | rfl | rfl | rfl | rfl | rfl | rfl | rfl | rfl | rfl | rfl | rfl | rfl | rfl | rfl | rfl | rfl | rfl | rfl | rfl | rfl | rfl | rfl | rfl | rfl | rfl | rfl | rfl | rfl | rfl | rfl | rfl | rfl | rfl | rfl | rfl
        · exact di_tabIn 0 la_44 (by decide) (by decide) (by decide) (by decide) rfl rfl (lw_c0 l hl hL hI hS hM h0 hi6 hB hce hsl hK)
        · exact di_tabIn 1 la_44 (by decide) (by decide) (by decide) (by decide) rfl rfl (lw_c1 l hl hL hI hS hM h0 hi6 hB hce hsl hK)
        · exact di_tabIn 2 la_44 (by decide) (by decide) (by decide) (by decide) rfl rfl (lw_c2 l hl hL hI hS hM h0 hi6 hB hce hsl hK)
        · exact di_tabIn 3 la_44 (by decide) (by decide) (by decide) (by decide) rfl rfl (lw_c3 l hl hL hI hS hM h0 hi6 hB hce hsl hK)
        · exact di_tabIn 4 la_44 (by decide) (by decide) (by decide) (by decide) rfl rfl (lw_c4 l hl hL hI hS hM h0 hi6 hB hce hsl hK)
        · exact di_tabIn 5 la_44 (by decide) (by decide) (by decide) (by decide) rfl rfl (lw_c5 l hl hL hI hS hM h0 hi6 hB hce hsl hK)
        · exact di_tabIn 6 la_44 (by decide) (by decide) (by decide) (by decide) rfl rfl (lw_c6 l hl hL hI hS hM h0 hi6 hB hce hsl hK)
        · exact di_tabIn 7 la_44 (by decide) (by decide) (by decide) (by decide) rfl rfl (lw_c7 l hl hL hI hS hM h0 hi6 hB hce hsl hK)
        · exact di_tabIn 8 la_44 (by decide) (by decide) (by decide) (by decide) rfl rfl (lw_c8 l hl hL hI hS hM h0 hi6 hB hce hsl hK)
        · exact di_tabIn 9 la_44 (by decide) (by decide) (by decide) (by decide) rfl rfl (lw_c9 l hl hL hI hS hM h0 hi6 hB hce hsl hK)
        · exact di_tabIn 10 la_44 (by decide) (by decide) (by decide) (by decide) rfl rfl (lw_c10 l hl hL hI hS hM h0 hi6 hB hce hsl hK)
        · exact di_tabIn 11 la_44 (by decide) (by decide) (by decide) (by decide) rfl rfl (lw_c11 l hl hL hI hS hM h0 hi6 hB hce hsl hK)
        · exact di_tabIn 12 la_44 (by decide) (by decide) (by decide) (by decide) rfl rfl (lw_c12 l hl hL hI hS hM h0 hi6 hB hce hsl hK)
        · exact di_tabIn 13 la_44 (by decide) (by decide) (by decide) (by decide) rfl rfl (lw_c13 l hl hL hI hS hM h0 hi6 hB hce hsl hK)
        · exact di_tabIn 14 la_44 (by decide) (by decide) (by decide) (by decide) rfl rfl (lw_c14 l hl hL hI hS hM h0 hi6 hB hce hsl hK)
        · exact di_tabIn 15 la_44 (by decide) (by decide) (by decide) (by decide) rfl rfl (lw_c15 l hl hL hI hS hM h0 hi6 hB hce hsl hK)
        · exact di_tabIn 16 la_44 (by decide) (by decide) (by decide) (by decide) rfl rfl (lw_c16 l hl hL hI hS hM h0 hi6 hB hce hsl hK)
        · exact di_tabIn 17 la_44 (by decide) (by decide) (by decide) (by decide) rfl rfl (lw_c17 l hl hL hI hS hM h0 hi6 hB hce hsl hK)
        · exact di_tabIn 18 la_44 (by decide) (by decide) (by decide) (by decide) rfl rfl (lw_c18 l hl hL hI hS hM h0 hi6 hB hce hsl hK)
        · exact di_tabIn 19 la_44 (by decide) (by decide) (by decide) (by decide) rfl rfl (lw_c19 l hl hL hI hS hM h0 hi6 hB hce hsl hK)
        · exact di_tabIn 20 la_44 (by decide) (by decide) (by decide) (by decide) rfl rfl (lw_c20 l hl hL hI hS hM h0 hi6 hB hce hsl hK)
        · exact di_tabIn 21 la_44 (by decide) (by decide) (by decide) (by decide) rfl rfl (lw_c21 l hl hL hI hS hM h0 hi6 hB hce hsl hK)
        · exact di_tabIn 22 la_44 (by decide) (by decide) (by decide) (by decide) rfl rfl (lw_c22 l hl hL hI hS hM h0 hi6 hB hce hsl hK)
        · exact di_tabIn 23 la_44 (by decide) (by decide) (by decide) (by decide) rfl rfl (lw_c23 l hl hL hI hS hM h0 hi6 hB hce hsl hK)
        · exact di_tabIn 24 la_44 (by decide) (by decide) (by decide) (by decide) rfl rfl (lw_c24 l hl hL hI hS hM h0 hi6 hB hce hsl hK)
        · exact di_tabIn 25 la_44 (by decide) (by decide) (by decide) (by decide) rfl rfl (lw_c25 l hl hL hI hS hM h0 hi6 hB hce hsl hK)
        · exact di_tabIn 26 la_44 (by decide) (by decide) (by decide) (by decide) rfl rfl (lw_c26 l hl hL hI hS hM h0 hi6 hB hce hsl hK)
        · exact di_tabIn 27 la_44 (by decide) (by decide) (by decide) (by decide) rfl rfl (lw_c27 l hl hL hI hS hM h0 hi6 hB hce hsl hK)
        · exact di_tabIn 28 la_44 (by decide) (by decide) (by decide) (by decide) rfl rfl (lw_c28 l hl hL hI hS hM h0 hi6 hB hce hsl hK)
        · exact di_tabIn 29 la_44 (by decide) (by decide) (by decide) (by decide) rfl rfl (lw_c29 l hl hL hI hS hM h0 hi6 hB hce hsl hK)
        · exact di_tabIn 30 la_44 (by decide) (by decide) (by decide) (by decide) rfl rfl (lw_c30 l hl hL hI hS hM h0 hi6 hB hce hsl hK)
        · exact di_tabIn 31 la_44 (by decide) (by decide) (by decide) (by decide) rfl rfl (lw_c31 l hl hL hI hS hM h0 hi6 hB hce hsl hK)
        · exact di_tabIn 32 la_44 (by decide) (by decide) (by decide) (by decide) rfl rfl (lw_c32 l hl hL hI hS hM h0 hi6 hB hce hsl hK)
        · exact di_tabIn 33 la_44 (by decide) (by decide) (by decide) (by decide) rfl rfl (lw_c33 l hl hL hI hS hM h0 hi6 hB hce hsl hK)
        · exact di_tabIn 34 la_44 (by decide) (by decide) (by decide) (by decide) rfl rfl (lw_c34 l hl hL hI hS hM h0 hi6 hB hce hsl hK)
        · exact di_tabIn 35 la_44 (by decide) (by decide) (by decide) (by decide) rfl rfl (lw_c35 l hl hL hI hS hM h0 hi6 hB hce hsl hK)
        · exact di_tabIn 36 la_44 (by decide) (by decide) (by decide) (by decide) rfl rfl (lw_c36 l hl hL hI hS hM h0 hi6 hB hce hsl hK)
        · exact di_tabIn 37 la_44 (by decide) (by decide) (by decide) (by decide) rfl rfl (lw_c37 l hl hL hI hS hM h0 hi6 hB hce hsl hK)
        · exact di_tabIn 38 la_44 (by decide) (by decide) (by decide) (by decide) rfl rfl (lw_c38 l hl hL hI hS hM h0 hi6 hB hce hsl hK)
        · exact di_tabIn 39 la_44 (by decide) (by decide) (by decide) (by decide) rfl rfl (lw_c39 l hl hL hI hS hM h0 hi6 hB hce hsl hK)
        · exact di_tabIn 40 la_44 (by decide) (by decide) (by decide) (by decide) rfl rfl (lw_c40 l hl hL hI hS hM h0 hi6 hB hce hsl hK)
        · exact di_tabIn 41 la_44 (by decide) (by decide) (by decide) (by decide) rfl rfl (lw_c41 l hl hL hI hS hM h0 hi6 hB hce hsl hK)
        · exact di_tabIn 42 la_44 (by decide) (by decide) (by decide) (by decide) rfl rfl (lw_c42 l hl hL hI hS hM h0 hi6 hB hce hsl hK)
        · exact di_tabIn 43 la_44 (by decide) (by decide) (by decide) (by decide) rfl rfl (lw_c43 l hl hL hI hS hM h0 hi6 hB hce hsl hK)
        · exact di_tabIn 44 la_44 (by decide) (by decide) (by decide) (by decide) rfl rfl (lw_c44 l hl hL hI hS hM h0 hi6 hB hce hsl hK)
        · exact di_tabIn 45 la_44 (by decide) (by decide) (by decide) (by decide) rfl rfl (lw_c45 l hl hL hI hS hM h0 hi6 hB hce hsl hK)
        · exact di_tabIn 46 la_44 (by decide) (by decide) (by decide) (by decide) rfl rfl (lw_c46 l hl hL hI hS hM h0 hi6 hB hce hsl hK)
        · exact di_tabIn 47 la_44 (by decide) (by decide) (by decide) (by decide) rfl rfl (lw_c47 l hl hL hI hS hM h0 hi6 hB hce hsl hK)
theorem lw_t8 {F : Int → Prop} (hF : F 0) : T_a 8 F rep8 := ⟨_, rfl, rfl, by decide, fun j v hj => by
  rw [List.getElem?_replicate] at hj
  split at hj
  · cases hj; exact ⟨0, hF, by omega, by omega, rfl⟩
  · cases hj⟩
theorem lw_t3 {F : Int → Prop} (hF : F 0) : T_a 3 F (20, [dI 0, dI 0, dI 0]) := ⟨_, rfl, rfl, by decide, fun j v hj => by
  match j, hj with
  | 0, hj => cases hj; exact ⟨0, hF, by omega, by omega, rfl⟩
  | 1, hj => cases hj; exact ⟨0, hF, by omega, by omega, rfl⟩
  | 2, hj => cases hj; exact ⟨0, hF, by omega, by omega, rfl⟩
  | n + 3, hj => cases hj⟩
def lw_h0 : dm_H := [(8, [.ref 1, .ref 2, .ref 3, .ref 4, .ref 6, .ref 8, dI 0, dI 0]), (22, [.ref 17, .ref 20, .ref 23]), (6, [dI (-1), dI (-1), dI (-1)]), (4, [dI (-1), dI 0, dI 0, dI 0]), (3, [.ref 5, dI 0]), rep8, (5, [.ref 7, dI 0, dI 0]), rep8, (7, [.ref 9, .ref 10, .ref 11, .ref 13, .ref 15, dI 0]), rep8, rep8, (3, [.ref 12, dI 0]), rep8, (3, [.ref 14, dI 0]), rep8, (5, [.ref 16, dI 0, dI 0]), rep8, (2, [.ref 18, .ref 19, dI 0, dI 0]), rep8, rep8, (2, [.ref 21, .ref 22, dI 0, dI 0]), rep8, rep8, (2, [.ref 24, .ref 25, dI 0, dI 0]), rep8, rep8, (10, [.ref 27, .ref 31, .ref 35, dI 0, dI 0, dI 0, dI (-1), dI (-1), dI (-1), dI (-1), dI 0, dI (-1), dI (-1)]), (23, [.ref 28, .ref 29, .ref 30]), rep8, rep8, rep8, (23, [.ref 32, .ref 33, .ref 34]), rep8, rep8, rep8, (20, [dI 0, dI 0, dI 0]), (9, [.long 0, .null])]
theorem lw_inv : Inv 0 0 lw_h0 := by
  intro i hi
  match i, hi with
  | 0, _ => exact ⟨_, rfl, 0, ⟨by omega, by omega⟩, rfl⟩
  | 1, _ => exact ⟨_, rfl, rfl⟩
  | 2, _ => exact ⟨_, rfl, -1, -1, -1, ⟨by omega, by omega⟩, ⟨by omega, by omega⟩, ⟨by omega, by omega⟩, rfl⟩
  | 3, _ => exact ⟨_, rfl, -1, 0, 0, 0, ⟨by omega, by omega⟩, ⟨by omega, by omega⟩, ⟨by omega, by omega⟩, ⟨by omega, by omega⟩, rfl⟩
  | 4, _ => exact ⟨_, rfl, 0, ⟨by omega, by omega⟩, rfl⟩
  | 5, _ => exact ⟨_, rfl, lw_t8 trivial⟩
  | 6, _ => exact ⟨_, rfl, 0, 0, ⟨by omega, by omega⟩, ⟨by omega, by omega⟩, rfl⟩
  | 7, _ => exact ⟨_, rfl, lw_t8 trivial⟩
  | 8, _ => exact ⟨_, rfl, 0, ⟨by omega, by omega⟩, rfl⟩
  | 9, _ => exact ⟨_, rfl, lw_t8 trivial⟩
  | 10, _ => exact ⟨_, rfl, lw_t8 trivial⟩
  | 11, _ => exact ⟨_, rfl, 0, ⟨by omega, by omega⟩, rfl⟩
  | 12, _ => exact ⟨_, rfl, lw_t8 trivial⟩
  | 13, _ => exact ⟨_, rfl, 0, ⟨by omega, by omega⟩, rfl⟩
  | 14, _ => exact ⟨_, rfl, lw_t8 trivial⟩
  | 15, _ => exact ⟨_, rfl, 0, 0, ⟨by omega, by omega⟩, ⟨by omega, by omega⟩, rfl⟩
  | 16, _ => exact ⟨_, rfl, lw_t8 trivial⟩
  | 17, _ => exact ⟨_, rfl, 0, 0, ⟨by omega, by omega⟩, ⟨by omega, by omega⟩, rfl⟩
  | 18, _ => exact ⟨_, rfl, lw_t8 ⟨by omega, by omega, by decide⟩⟩
  | 19, _ => exact ⟨_, rfl, lw_t8 trivial⟩
  | 20, _ => exact ⟨_, rfl, 0, 0, ⟨by omega, by omega⟩, ⟨by omega, by omega⟩, rfl⟩
  | 21, _ => exact ⟨_, rfl, lw_t8 ⟨by omega, by omega, by decide⟩⟩
  | 22, _ => exact ⟨_, rfl, lw_t8 trivial⟩
  | 23, _ => exact ⟨_, rfl, 0, 0, ⟨by omega, by omega⟩, ⟨by omega, by omega⟩, rfl⟩
  | 24, _ => exact ⟨_, rfl, lw_t8 ⟨by omega, by omega, by decide⟩⟩
  | 25, _ => exact ⟨_, rfl, lw_t8 trivial⟩
  | 26, _ => exact ⟨_, rfl, 0, 0, -1, -1, -1, -1, 0, -1, -1, ⟨by omega, by omega⟩, ⟨by omega, by omega⟩, ⟨by omega, by omega⟩, ⟨by omega, by omega⟩, ⟨by omega, by omega⟩, ⟨by omega, by omega⟩, ⟨by omega, by omega⟩, ⟨by omega, by omega⟩, Or.inl rfl, rfl⟩
  | 27, _ => exact ⟨_, rfl, rfl⟩
  | 28, _ => exact ⟨_, rfl, lw_t8 ⟨by omega, by omega, by decide⟩⟩
  | 29, _ => exact ⟨_, rfl, lw_t8 ⟨by omega, by omega, by decide⟩⟩
  | 30, _ => exact ⟨_, rfl, lw_t8 ⟨by omega, by omega, by decide⟩⟩
  | 31, _ => exact ⟨_, rfl, rfl⟩
  | 32, _ => exact ⟨_, rfl, lw_t8 trivial⟩
  | 33, _ => exact ⟨_, rfl, lw_t8 trivial⟩
  | 34, _ => exact ⟨_, rfl, lw_t8 trivial⟩
  | 35, _ => exact ⟨_, rfl, lw_t3 ⟨by omega, by omega⟩⟩
  | 36, _ => exact ⟨_, rfl, 0, .null, rfl⟩
  | n + 37, hi => exact absurd hi (by omega)
/-- at the start: empty books, no part, no hand -/
def lw_s0 : St := (fun _ _ => -1, (-1, -1, -1), (-1, 0, -1, -1, 0))
theorem lw_ar {F : Int → Prop} (hF : F 0) : arr 8 F (List.replicate 8 (dI 0)) := by
  obtain ⟨vs, e, ha⟩ := lw_t8 hF
  cases e
  exact ha
theorem lw_rep {f g : Int → Int} {s : Int} (hs : s = 0) : Rep f g s (fun _ => -1) := by
  subst hs
  exact ⟨⟨Int.le_refl _, fun j h0 h1 => by omega⟩, fun c hc => absurd rfl hc, fun i j h0 h1 h2 => by omega⟩
theorem lw_cst : CSt 0 lw_s0 lw_h0 := by
  refine ⟨⟨⟨fun _ => 0, fun k b k0 k1 kb => ?_, 0, 0, 0, rfl, ?_⟩, ⟨0, rfl⟩⟩, rfl, ?_⟩
  · refine ⟨⟨Int.le_refl 0, Int.le_refl 0⟩, 0, List.replicate 8 (dI 0), List.replicate 8 (dI 0), ?_, lw_rep rfl, fun i j h0 h1 h2 => by omega⟩
    have oC : okC 0 := ⟨by omega, by omega, by decide⟩
    rcases (by omega : k = 0 ∨ k = 1 ∨ k = 2) with rfl | rfl | rfl
    · have e : b = 17 := by omega
      subst e
      exact ⟨rfl, rfl, rfl, lw_ar oC, lw_ar trivial, by omega, by omega, (show (-2147483648 : Int) ≤ 0 by decide), (show (0 : Int) < 2147483648 by decide)⟩
    · have e : b = 20 := by omega
      subst e
      exact ⟨rfl, rfl, rfl, lw_ar oC, lw_ar trivial, by omega, by omega, (show (-2147483648 : Int) ≤ 0 by decide), (show (0 : Int) < 2147483648 by decide)⟩
    · have e : b = 23 := by omega
      subst e
      exact ⟨rfl, rfl, rfl, lw_ar oC, lw_ar trivial, by omega, by omega, (show (-2147483648 : Int) ≤ 0 by decide), (show (0 : Int) < 2147483648 by decide)⟩
  · refine ⟨⟨by decide, by decide⟩, ⟨by decide, by decide⟩, Or.inl rfl, ⟨by decide, by decide⟩, Or.inl rfl, ⟨by decide, by decide⟩, ⟨by decide, by decide⟩, fun g0 => absurd g0 (by decide)⟩
  · refine ⟨⟨by decide, by decide⟩, ⟨by decide, by decide⟩, ⟨by decide, by decide⟩, fun g0 => absurd g0 (by decide)⟩
theorem lw_mst : MSt 0 0 lw_s0 lw_h0 := by
  refine ⟨⟨0, rfl, by decide, by decide, rfl⟩, ⟨⟨by decide, by decide⟩, ⟨by decide, by decide⟩, ⟨by decide, by decide⟩, ⟨by decide, by decide⟩, ⟨by decide, by decide⟩, ⟨by decide, by decide⟩, Or.inl rfl⟩, ⟨by decide, by decide⟩, [dI 0, dI 0, dI 0], rfl, ?_, fun k k0 k1 => ?_⟩
  · obtain ⟨vs, e, ha⟩ := lw_t3 (F := okS) ⟨by omega, by omega⟩
    cases e
    exact ha
  · have oC : okC 0 := ⟨by omega, by omega, by decide⟩
    refine ⟨List.replicate 8 (dI 0), List.replicate 8 (dI 0), fun r q er eq => ?_, lw_rep ?_⟩
    · rcases (by omega : k = 0 ∨ k = 1 ∨ k = 2) with rfl | rfl | rfl
      · have e1 : r = 28 := by omega
        have e2 : q = 32 := by omega
        subst e1; subst e2
        exact ⟨rfl, rfl, lw_ar oC, lw_ar trivial⟩
      · have e1 : r = 29 := by omega
        have e2 : q = 33 := by omega
        subst e1; subst e2
        exact ⟨rfl, rfl, lw_ar oC, lw_ar trivial⟩
      · have e1 : r = 30 := by omega
        have e2 : q = 34 := by omega
        subst e1; subst e2
        exact ⟨rfl, rfl, lw_ar oC, lw_ar trivial⟩
    · rcases (by omega : k = 0 ∨ k = 1 ∨ k = 2) with rfl | rfl | rfl <;> decide
set_option maxHeartbeats 4000000 in
set_option maxRecDepth 100000 in
theorem lw_go (l : Launch) (hl : l.stackTraces = false) {L : Nat} {xs : Nat → Int32} (hL : L ≤ 384) : dm_W (lw_E L xs) lw_PL l 329 420 1200128 5501098 0 [some (.retAddr 2), none, none, none, none, none, none] [] [] 0 0 := by
  refine dr_new (fs := [.null, .null, .null, .null, .null, .null, dI 0, dI 0]) la_0 rfl (by decide) (by decide) ?_
  show dm_W (lw_E L xs) lw_PL l 329 420 1200128 5501098 3 [some (.retAddr 2), none, none, none, none, none, none] [.ref 0] [(8, [.null, .null, .null, .null, .null, .null, dI 0, dI 0])] 1 8
  refine dr_dup la_3 rfl ?_
  refine dr_init la_4 rfl rfl rfl rfl (s_X6_init l hl) kQE0 (by decide) (by decide) (by decide) (Nat.le_of_ble_eq_true rfl) (kQE ?_)
  refine di_astore_n (ls2 := [some (.retAddr 2), some (.ref 0), none, none, none, none, none]) la_7 rfl rfl ?_
  refine dr_new (fs := [.null, .null, .null, dI 0, dI 0, dI 0, dI 0, dI 0, dI 0, dI 0, dI 0, dI 0, dI 0]) la_8 rfl (by decide) (by decide) ?_
  show dm_W (lw_E L xs) lw_PL l 329 420 1200128 5501098 11 [some (.retAddr 2), some (.ref 0), none, none, none, none, none] [.ref 26] [(8, [.ref 1, .ref 2, .ref 3, .ref 4, .ref 6, .ref 8, dI 0, dI 0]), (22, [.ref 17, .ref 20, .ref 23]), (6, [dI (-1), dI (-1), dI (-1)]), (4, [dI (-1), dI 0, dI 0, dI 0]), (3, [.ref 5, dI 0]), rep8, (5, [.ref 7, dI 0, dI 0]), rep8, (7, [.ref 9, .ref 10, .ref 11, .ref 13, .ref 15, dI 0]), rep8, rep8, (3, [.ref 12, dI 0]), rep8, (3, [.ref 14, dI 0]), rep8, (5, [.ref 16, dI 0, dI 0]), rep8, (2, [.ref 18, .ref 19, dI 0, dI 0]), rep8, rep8, (2, [.ref 21, .ref 22, dI 0, dI 0]), rep8, rep8, (2, [.ref 24, .ref 25, dI 0, dI 0]), rep8, rep8, (10, [.null, .null, .null, dI 0, dI 0, dI 0, dI 0, dI 0, dI 0, dI 0, dI 0, dI 0, dI 0])] 27 165
  refine dr_dup la_11 rfl ?_
  refine dr_init la_12 rfl rfl rfl rfl (s_X8_init l hl) kQE0 (by decide) (by decide) (by decide) (Nat.le_of_ble_eq_true rfl) (kQE ?_)
  refine di_astore_n (ls2 := [some (.retAddr 2), some (.ref 0), some (.ref 26), none, none, none, none]) la_15 rfl rfl ?_
  refine dr_new (fs := [.long 0, .null]) la_16 rfl (by decide) (by decide) ?_
  show dm_W (lw_E L xs) lw_PL l 329 420 1200128 5501098 19 [some (.retAddr 2), some (.ref 0), some (.ref 26), none, none, none, none] [.ref 36] lw_h0 37 224
  refine dr_dup la_19 rfl ?_
  refine dr_initN la_20 rfl rfl rfl rfl (s_X7_init l hl (p := 36) rfl) kQE0 (by decide) (by decide) (by decide) (Nat.le_of_ble_eq_true rfl) (kQE ?_)
  refine di_astore_n (ls2 := [some (.retAddr 2), some (.ref 0), some (.ref 26), some (.ref 36), none, none, none]) la_23 rfl rfl ?_
  refine di_const la_24 ?_
  refine di_istore (ls2 := [some (.retAddr 2), some (.ref 0), some (.ref 26), some (.ref 36), some (dI (0)), none, none]) la_25 rfl rfl ?_
  exact lw_loop l hl hL 401 0 0 lw_h0 0 lw_s0 0 _ _ (by decide) (by decide) (by decide) (by decide) (by decide) lw_inv lw_cst lw_mst (by decide)
/-! ===== what stands at the start ===== -/
theorem lw_inst : ∀ (ci : Nat) (q : vw_C), vwCl[ci]? = some q → Cond.instantiable q.1 q.2.2 ∈ lw_tbl := by
  intro ci q h
  match ci, h with
  | 0, h => cases h; exact dm_T_mem (c := 4238) (by decide +kernel)
  | 1, h => cases h; exact dm_T_mem (c := 4075) (by decide +kernel)
  | 2, h => cases h; exact dm_T_mem (c := 1140) (by decide +kernel)
  | 3, h => cases h; exact dm_T_mem (c := 1078) (by decide +kernel)
  | 4, h => cases h; exact dm_T_mem (c := 1057) (by decide +kernel)
  | 5, h => cases h; exact dm_T_mem (c := 1094) (by decide +kernel)
  | 6, h => cases h; exact dm_T_mem (c := 1038) (by decide +kernel)
  | 7, h => cases h; exact dm_T_mem (c := 1112) (by decide +kernel)
  | 8, h => cases h; exact dm_T_mem (c := 1028) (by decide +kernel)
  | 9, h => cases h; exact dm_T_mem (c := 3091) (by decide +kernel)
  | 10, h => cases h; exact dm_T_mem (c := 6027) (by decide +kernel)
  | _ + 11, h => cases h
theorem va_AO_of2 {t : FieldType} {A : Array Value} {U : State} (h : (Cond.arrayOver (.array t)).before A U = true) : va_AOA t U := h
theorem lw_know {s : State} {args : Array Value} (hts : ∀ w ∈ lw_tbl, w.before args s = true) : ∃ D : va_G, ∀ (k : Nat) (q : vw_C), vwCl[k]? = some q → u_Kn s q.1 q.2.1 q.2.2 (D.1 k) (D.2 k) := by
  have hk : ∀ k : Nat, ∃ x : ClassId × (Nat → Nat), ∀ q, vwCl[k]? = some q → u_Kn s q.1 q.2.1 q.2.2 x.1 x.2 := by
    intro k
    cases hq : vwCl[k]? with
    | none => exact ⟨(0, fun _ => 0), fun q h => by cases h⟩
    | some q =>
      obtain ⟨c, i, h⟩ := u_known (C := q.1) (T := q.2.1) (N := q.2.2) (n := q.2.2) hts (fun w hw => (List.mem_filter.mp (dm_clw k q hq w hw)).1) (hts _ (lw_inst k q hq))
      exact ⟨(c, i), fun q2 h2 => by cases h2; exact h⟩
  obtain ⟨f, hf⟩ := Classical.axiomOfChoice hk
  exact ⟨(fun k => (f k).1, fun k => (f k).2), fun k q h => hf k q h⟩
set_option maxRecDepth 100000 in
theorem lw_d1 : ∀ j : Nat, j < 100 → (flatC (Jvm.Cond.and given_1 narrow_1))[14 + j]? = some (Cond.eq (.elem (.static "java/lang/Integer" "DigitOnes" "[B") (.int (Int32.ofNat j))) (.int (Int32.ofNat (48 + j % 10)))) := by decide +kernel
set_option maxRecDepth 100000 in
theorem lw_d2 : ∀ j : Nat, j < 100 → (flatC (Jvm.Cond.and given_1 narrow_1))[117 + j]? = some (Cond.eq (.elem (.static "java/lang/Integer" "DigitTens" "[B") (.int (Int32.ofNat j))) (.int (Int32.ofNat (48 + j / 10)))) := by decide +kernel
set_option maxRecDepth 100000 in
theorem lw_s1 : ∀ q ∈ dm_strs, Cond.stringRef q.1 q.2.1 q.2.2 ∈ lw_tbl := by decide +kernel
set_option maxRecDepth 100000 in
theorem lw_s2 : ∀ q ∈ dm_strs, Cond.exactly (.string q.1 q.2.1) "java/lang/String" ∈ (flatC (Jvm.Cond.and given_1 narrow_1)) := by decide +kernel
set_option maxHeartbeats 4000000 in
set_option maxRecDepth 100000 in
theorem lw_S {s : State} {b : Nat} (hts : ∀ w ∈ lw_tbl, w.before #[Value.ref b] s = true) (hgv : (Jvm.Cond.and given_1 narrow_1).before #[Value.ref b] s = true) : ∃ g : Nat → Nat, g 2 = b ∧ dm_S g (fun q => s.heap.size ≤ q) s s.heap := by
  have hs := flat_of_before _ hgv
  have hA : ∀ a : Nat, a < s.heap.size → ¬ (fun q : Nat => s.heap.size ≤ q) a := fun a h => Nat.not_le.mpr h
  obtain ⟨t1, e1, T1⟩ := va_Tof (tm := .static "java/lang/Integer" "DigitOnes" "[B") (ty := .byte) (N := 100) (f := fun j => .int (Int32.ofNat (48 + j % 10))) (by decide) (hs _ (by decide +kernel)) (va_eqt (hs _ (by decide +kernel))) (fun j hj => va_eqt (hs _ (List.mem_of_getElem? (lw_d1 j hj)))) hA
  obtain ⟨t2, e2, T2⟩ := va_Tof (tm := .static "java/lang/Integer" "DigitTens" "[B") (ty := .byte) (N := 100) (f := fun j => .int (Int32.ofNat (48 + j / 10))) (by decide) (hs _ (by decide +kernel)) (va_eqt (hs _ (by decide +kernel))) (fun j hj => va_eqt (hs _ (List.mem_of_getElem? (lw_d2 j hj)))) hA
  have hstr : ∀ q ∈ dm_strs, ∃ a, vk_R q.1 q.2.1 q.2.2 a s := by
    intro q hq
    obtain ⟨a, c, cA, kA, q1, -⟩ := Cond.exactly_spec (hs _ (lw_s2 q hq))
    exact ⟨a, vk_R.of (hts _ (lw_s1 q hq)) q1⟩
  have hnc : ∀ E ∈ dm_exs, ∀ F ∈ dm_exs, E ≠ F → va_Nc E F s := by
    intro E hE F hF n
    simp only [dm_exs, List.mem_cons, List.not_mem_nil, or_false] at hE hF
    rcases hE with rfl | rfl | rfl <;> rcases hF with rfl | rfl | rfl <;> first | exact absurd rfl n | exact va_Nc.of (hs _ (by decide +kernel))
  refine ⟨fun k => match k with | 0 => t1 | 1 => t2 | _ => b, rfl, ?_⟩
  refine ⟨fun w hw => va_Nw.of (dm_nw_tab (List.mem_filter.mp hw).2) (hts w (List.mem_filter.mp hw).1), va_AO.of (hts _ (by decide +kernel)), va_AO_of2 (hts _ (by decide +kernel)),
    vx_Zqof (hts _ (by decide +kernel)) (hts _ (by decide +kernel)) (hs _ (by decide +kernel)) hA, vx_Zqof (hts _ (by decide +kernel)) (hts _ (by decide +kernel)) (hs _ (by decide +kernel)) hA, hstr, hnc,
    va_Zof (hts _ (by decide +kernel)) (hts _ (by decide +kernel)) (va_eqt (hs _ (by decide +kernel))) hA,
    va_Zof (hts _ (by decide +kernel)) (hts _ (by decide +kernel)) e1 hA, va_Zof (hts _ (by decide +kernel)) (hts _ (by decide +kernel)) e2 hA, ⟨_, T1⟩, ⟨_, T2⟩⟩
