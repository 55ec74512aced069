set_option maxHeartbeats 4000000 in
set_option maxRecDepth 100000 in
theorem lw_c32 (l : Launch) (hl : l.stackTraces = false) {L : Nat} {xs : Nat → Int32} (hL : L ≤ 384) {kc : Int} {h : dm_H} {B : Int} {σ : St} {th : Int} (hI : Inv kc kc h) (hS : CSt B σ h) (hM : MSt kc th σ h) {i : Int} (hi0 : 0 ≤ i) (hi6 : i + 6 ≤ L) (hB : 6 * B ≤ 20 * i) {ce sl : Nat} (hce : ce + 1000 ≤ 1200128) (hsl : sl + 60000 ≤ 5501098) (K : lw_K l L xs i (ce + 1000) (sl + 60000)) : dm_W (lw_E L xs) lw_PL l 329 420 1200128 5501098 1784 [some (.retAddr 2), some (.ref 0), some (.ref 26), some (.ref 36), some (dI i), none, none] [] h ce sl := by
  obtain ⟨x1, x1a, x1b, x1e⟩ := sv_x xs (i + 1)
  obtain ⟨x2, x2a, x2b, x2e⟩ := sv_x xs (i + 2)
  refine di_aload_n la_1784 rfl ?_
  refine dr_aload_n la_1785 rfl (Or.inr (Or.inr ⟨_, rfl⟩)) ?_
  refine dr_iload la_1786 rfl ?_
  refine di_const la_1788 ?_
  refine di_iadd la_1789 ?_
  refine dr_xldE la_1790 (by omega) (by omega) hL x1e ?_
  refine dr_aload_n la_1791 rfl (Or.inr (Or.inr ⟨_, rfl⟩)) ?_
  refine dr_iload la_1792 rfl ?_
  refine di_const la_1794 ?_
  refine di_iadd la_1795 ?_
  refine dr_xldE la_1796 (by omega) (by omega) hL x2e ?_
  refine di_if_eq la_1797 rfl (by omega) (by omega) (fun cz11 => ?_) (fun cz11 => ?_)
  · skip
    refine di_const la_1804 ?_
    refine di_aload_n la_1805 rfl ?_
    refine dr_statH la_1806 rfl (by decide +kernel) rfl (w_L_text l hl hI (a1 := x1) (by omega) (by omega) (a2 := 0) (by omega) (by omega)) (by decide) (by omega) (by omega) (Nat.le_of_ble_eq_true rfl) kNSw (kISw (fun y17 h12 hI13 hF14 y17f y17a y17b => ?_))
    clear y17f
    have hS15 := CSt_FW hS hF14
    have hM16 := MSt_FW hM hF14
    refine di_istore (ls2 := [some (.retAddr 2), some (.ref 0), some (.ref 26), some (.ref 36), some (dI i), some (dI y17), none]) la_1809 rfl rfl ?_
    refine di_aload_n la_1811 rfl ?_
    refine dr_aload_n la_1812 rfl (Or.inr (Or.inr ⟨_, rfl⟩)) ?_
    refine dr_iload la_1813 rfl ?_
    refine di_const la_1815 ?_
    refine di_iadd la_1816 ?_
    refine dr_xldE la_1817 (by omega) (by omega) hL x1e ?_
    refine dr_aload_n la_1818 rfl (Or.inr (Or.inr ⟨_, rfl⟩)) ?_
    refine dr_iload la_1819 rfl ?_
    refine di_const la_1821 ?_
    refine di_iadd la_1822 ?_
    refine dr_xldE la_1823 (by omega) (by omega) hL x2e ?_
    refine di_if_eq la_1824 rfl (by omega) (by omega) (fun _ => ?_) (fun c9 => absurd cz11 c9)
    refine di_const la_1831 ?_
    obtain ⟨nic23, c23, -⟩ := hM16.1
    refine dr_virt la_1832 rfl rfl rfl c23 (w_X8_text l hl hI13 (a1 := x1) (by omega) (by omega) (a2 := 0) (by omega) (by omega)) (by decide) (by omega) (by omega) (Nat.le_of_ble_eq_true rfl) kNSt (kOSt (fun y24 h18 hI19 hF20 y24m => ?_))
    have hS21 := CSt_FT hS15 hI13 hF20
    obtain ⟨th25, hM22⟩ := MSt_FT hM16 hI13 hI19 hF20
    refine dr_astoreU la_1835 rfl y24m ?_
    show dm_W (lw_E L xs) lw_PL l 329 420 1200128 5501098 1837 [some (.retAddr 2), some (.ref 0), some (.ref 26), some (.ref 36), some (dI i), some (dI y17), some (y24)] [] h18 ((ce + 59) + 58) ((sl + 22030) + 22024)
    clear y24m
    refine dr_goto la_1837 rfl ?_
    refine dm_wk (ls2 := [some (.retAddr 2), some (.ref 0), some (.ref 26), some (.ref 36), some (dI i), none, none]) ⟨Or.inr rfl, Or.inr rfl, Or.inr rfl, Or.inr rfl, Or.inr rfl, Or.inl rfl, Or.inl rfl, trivial⟩ ?_
    refine dm_cew (ce2 := ce + 1000) (sl2 := sl + 60000) (by omega) (by omega) ?_
    exact K _ _ _ _ _ hI19 hS21 hM22 (by omega)
  · skip
    refine di_const la_1800 ?_
    refine dr_goto la_1801 rfl ?_
    refine di_aload_n la_1805 rfl ?_
    refine dr_statH la_1806 rfl (by decide +kernel) rfl (w_L_text l hl hI (a1 := x1) (by omega) (by omega) (a2 := 1) (by omega) (by omega)) (by decide) (by omega) (by omega) (Nat.le_of_ble_eq_true rfl) kNSw (kISw (fun y31 h26 hI27 hF28 y31f y31a y31b => ?_))
    clear y31f
    have hS29 := CSt_FW hS hF28
    have hM30 := MSt_FW hM hF28
    refine di_istore (ls2 := [some (.retAddr 2), some (.ref 0), some (.ref 26), some (.ref 36), some (dI i), some (dI y31), none]) la_1809 rfl rfl ?_
    refine di_aload_n la_1811 rfl ?_
    refine dr_aload_n la_1812 rfl (Or.inr (Or.inr ⟨_, rfl⟩)) ?_
    refine dr_iload la_1813 rfl ?_
    refine di_const la_1815 ?_
    refine di_iadd la_1816 ?_
    refine dr_xldE la_1817 (by omega) (by omega) hL x1e ?_
    refine dr_aload_n la_1818 rfl (Or.inr (Or.inr ⟨_, rfl⟩)) ?_
    refine dr_iload la_1819 rfl ?_
    refine di_const la_1821 ?_
    refine di_iadd la_1822 ?_
    refine dr_xldE la_1823 (by omega) (by omega) hL x2e ?_
    refine di_if_eq la_1824 rfl (by omega) (by omega) (fun c9 => absurd c9 cz11) (fun _ => ?_)
    refine di_const la_1827 ?_
    refine dr_goto la_1828 rfl ?_
    obtain ⟨nic37, c37, -⟩ := hM30.1
    refine dr_virt la_1832 rfl rfl rfl c37 (w_X8_text l hl hI27 (a1 := x1) (by omega) (by omega) (a2 := 1) (by omega) (by omega)) (by decide) (by omega) (by omega) (Nat.le_of_ble_eq_true rfl) kNSt (kOSt (fun y38 h32 hI33 hF34 y38m => ?_))
    have hS35 := CSt_FT hS29 hI27 hF34
    obtain ⟨th39, hM36⟩ := MSt_FT hM30 hI27 hI33 hF34
    refine dr_astoreU la_1835 rfl y38m ?_
    show dm_W (lw_E L xs) lw_PL l 329 420 1200128 5501098 1837 [some (.retAddr 2), some (.ref 0), some (.ref 26), some (.ref 36), some (dI i), some (dI y31), some (y38)] [] h32 ((ce + 59) + 58) ((sl + 22030) + 22024)
    clear y38m
    refine dr_goto la_1837 rfl ?_
    refine dm_wk (ls2 := [some (.retAddr 2), some (.ref 0), some (.ref 26), some (.ref 36), some (dI i), none, none]) ⟨Or.inr rfl, Or.inr rfl, Or.inr rfl, Or.inr rfl, Or.inr rfl, Or.inl rfl, Or.inl rfl, trivial⟩ ?_
    refine dm_cew (ce2 := ce + 1000) (sl2 := sl + 60000) (by omega) (by omega) ?_
    exact K _ _ _ _ _ hI33 hS35 hM36 (by omega)
set_option maxHeartbeats 4000000 in
set_option maxRecDepth 100000 in
theorem lw_c33 (l : Launch) (hl : l.stackTraces = false) {L : Nat} {xs : Nat → Int32} (hL : L ≤ 384) {kc : Int} {h : dm_H} {B : Int} {σ : St} {th : Int} (hI : Inv kc kc h) (hS : CSt B σ h) (hM : MSt kc th σ h) {i : Int} (hi0 : 0 ≤ i) (hi6 : i + 6 ≤ L) (hB : 6 * B ≤ 20 * i) {ce sl : Nat} (hce : ce + 1000 ≤ 1200128) (hsl : sl + 60000 ≤ 5501098) (K : lw_K l L xs i (ce + 1000) (sl + 60000)) : dm_W (lw_E L xs) lw_PL l 329 420 1200128 5501098 1840 [some (.retAddr 2), some (.ref 0), some (.ref 26), some (.ref 36), some (dI i), none, none] [] h ce sl := by
  obtain ⟨x1, x1a, x1b, x1e⟩ := sv_x xs (i + 1)
  obtain ⟨x2, x2a, x2b, x2e⟩ := sv_x xs (i + 2)
  refine di_aload_n la_1840 rfl ?_
  refine dr_aload_n la_1841 rfl (Or.inr (Or.inr ⟨_, rfl⟩)) ?_
  refine dr_iload la_1842 rfl ?_
  refine di_const la_1844 ?_
  refine di_iadd la_1845 ?_
  refine dr_xldE la_1846 (by omega) (by omega) hL x1e ?_
  refine dr_aload_n la_1847 rfl (Or.inr (Or.inr ⟨_, rfl⟩)) ?_
  refine dr_iload la_1848 rfl ?_
  refine di_const la_1850 ?_
  refine di_iadd la_1851 ?_
  refine dr_xldE la_1852 (by omega) (by omega) hL x2e ?_
  refine di_aload_n la_1853 rfl ?_
  refine dr_statH la_1854 rfl (by decide +kernel) rfl (w_L_areSame l hl hI (a1 := x1) (by omega) (by omega) (a2 := x2) (by omega) (by omega)) (by decide) (by omega) (by omega) (Nat.le_of_ble_eq_true rfl) kNSw (kISw (fun y16 h11 hI12 hF13 y16f y16a y16b => ?_))
  clear y16f
  have hS14 := CSt_FW hS hF13
  have hM15 := MSt_FW hM hF13
  refine di_istore (ls2 := [some (.retAddr 2), some (.ref 0), some (.ref 26), some (.ref 36), some (dI i), some (dI y16), none]) la_1857 rfl rfl ?_
  refine di_aload_n la_1859 rfl ?_
  refine dr_aload_n la_1860 rfl (Or.inr (Or.inr ⟨_, rfl⟩)) ?_
  refine dr_iload la_1861 rfl ?_
  refine di_const la_1863 ?_
  refine di_iadd la_1864 ?_
  refine dr_xldE la_1865 (by omega) (by omega) hL x1e ?_
  refine dr_aload_n la_1866 rfl (Or.inr (Or.inr ⟨_, rfl⟩)) ?_
  refine dr_iload la_1867 rfl ?_
  refine di_const la_1869 ?_
  refine di_iadd la_1870 ?_
  refine dr_xldE la_1871 (by omega) (by omega) hL x2e ?_
  obtain ⟨nic22, c22, -⟩ := hM15.1
  refine dr_virt la_1872 rfl rfl rfl c22 (w_X8_areSame l hl hI12 (a1 := x1) (by omega) (by omega) (a2 := x2) (by omega) (by omega)) (by decide) (by omega) (by omega) (Nat.le_of_ble_eq_true rfl) kNSt (kISt (fun y23 h17 hI18 hF19 y23f y23a y23b => ?_))
  clear y23f
  have hS20 := CSt_FT hS14 hI12 hF19
  obtain ⟨th24, hM21⟩ := MSt_FT hM15 hI12 hI18 hF19
  refine di_istore (ls2 := [some (.retAddr 2), some (.ref 0), some (.ref 26), some (.ref 36), some (dI i), some (dI y16), some (dI y23)]) la_1875 rfl rfl ?_
  refine dr_goto la_1877 rfl ?_
  refine dm_wk (ls2 := [some (.retAddr 2), some (.ref 0), some (.ref 26), some (.ref 36), some (dI i), none, none]) ⟨Or.inr rfl, Or.inr rfl, Or.inr rfl, Or.inr rfl, Or.inr rfl, Or.inl rfl, Or.inl rfl, trivial⟩ ?_
  refine dm_cew (ce2 := ce + 1000) (sl2 := sl + 60000) (by omega) (by omega) ?_
  exact K _ _ _ _ _ hI18 hS20 hM21 (by omega)
set_option maxHeartbeats 4000000 in
set_option maxRecDepth 100000 in
theorem lw_c34 (l : Launch) (hl : l.stackTraces = false) {L : Nat} {xs : Nat → Int32} (hL : L ≤ 384) {kc : Int} {h : dm_H} {B : Int} {σ : St} {th : Int} (hI : Inv kc kc h) (hS : CSt B σ h) (hM : MSt kc th σ h) {i : Int} (hi0 : 0 ≤ i) (hi6 : i + 6 ≤ L) (hB : 6 * B ≤ 20 * i) {ce sl : Nat} (hce : ce + 1000 ≤ 1200128) (hsl : sl + 60000 ≤ 5501098) (K : lw_K l L xs i (ce + 1000) (sl + 60000)) : dm_W (lw_E L xs) lw_PL l 329 420 1200128 5501098 1880 [some (.retAddr 2), some (.ref 0), some (.ref 26), some (.ref 36), some (dI i), none, none] [] h ce sl := by
  obtain ⟨x1, x1a, x1b, x1e⟩ := sv_x xs (i + 1)
  refine di_aload_n la_1880 rfl ?_
  refine dr_aload_n la_1881 rfl (Or.inr (Or.inr ⟨_, rfl⟩)) ?_
  refine dr_iload la_1882 rfl ?_
  refine di_const la_1884 ?_
  refine di_iadd la_1885 ?_
  refine dr_xldE la_1886 (by omega) (by omega) hL x1e ?_
  refine di_aload_n la_1887 rfl ?_
  refine dr_statH la_1888 rfl (by decide +kernel) rfl (w_L_most l hl hI (a1 := x1) (by omega) (by omega)) (by decide) (by omega) (by omega) (Nat.le_of_ble_eq_true rfl) kNSw (kISw (fun y16 h11 hI12 hF13 y16f y16a y16b => ?_))
  clear y16f
  have hS14 := CSt_FW hS hF13
  have hM15 := MSt_FW hM hF13
  refine di_istore (ls2 := [some (.retAddr 2), some (.ref 0), some (.ref 26), some (.ref 36), some (dI i), some (dI y16), none]) la_1891 rfl rfl ?_
  refine di_aload_n la_1893 rfl ?_
  refine dr_aload_n la_1894 rfl (Or.inr (Or.inr ⟨_, rfl⟩)) ?_
  refine dr_iload la_1895 rfl ?_
  refine di_const la_1897 ?_
  refine di_iadd la_1898 ?_
  refine dr_xldE la_1899 (by omega) (by omega) hL x1e ?_
  obtain ⟨nic22, c22, -⟩ := hM15.1
  refine dr_virt la_1900 rfl rfl rfl c22 (w_X8_most l hl hI12 (a1 := x1) (by omega) (by omega)) (by decide) (by omega) (by omega) (Nat.le_of_ble_eq_true rfl) kNSt (kISt (fun y23 h17 hI18 hF19 y23f y23a y23b => ?_))
  clear y23f
  have hS20 := CSt_FT hS14 hI12 hF19
  obtain ⟨th24, hM21⟩ := MSt_FT hM15 hI12 hI18 hF19
  refine di_istore (ls2 := [some (.retAddr 2), some (.ref 0), some (.ref 26), some (.ref 36), some (dI i), some (dI y16), some (dI y23)]) la_1903 rfl rfl ?_
  refine dr_goto la_1905 rfl ?_
  refine dm_wk (ls2 := [some (.retAddr 2), some (.ref 0), some (.ref 26), some (.ref 36), some (dI i), none, none]) ⟨Or.inr rfl, Or.inr rfl, Or.inr rfl, Or.inr rfl, Or.inr rfl, Or.inl rfl, Or.inl rfl, trivial⟩ ?_
  refine dm_cew (ce2 := ce + 1000) (sl2 := sl + 60000) (by omega) (by omega) ?_
  exact K _ _ _ _ _ hI18 hS20 hM21 (by omega)
set_option maxHeartbeats 4000000 in
set_option maxRecDepth 100000 in
theorem lw_c35 (l : Launch) (hl : l.stackTraces = false) {L : Nat} {xs : Nat → Int32} (hL : L ≤ 384) {kc : Int} {h : dm_H} {B : Int} {σ : St} {th : Int} (hI : Inv kc kc h) (hS : CSt B σ h) (hM : MSt kc th σ h) {i : Int} (hi0 : 0 ≤ i) (hi6 : i + 6 ≤ L) (hB : 6 * B ≤ 20 * i) {ce sl : Nat} (hce : ce + 1000 ≤ 1200128) (hsl : sl + 60000 ≤ 5501098) (K : lw_K l L xs i (ce + 1000) (sl + 60000)) : dm_W (lw_E L xs) lw_PL l 329 420 1200128 5501098 1908 [some (.retAddr 2), some (.ref 0), some (.ref 26), some (.ref 36), some (dI i), none, none] [] h ce sl := by
  obtain ⟨x1, x1a, x1b, x1e⟩ := sv_x xs (i + 1)
  obtain ⟨x2, x2a, x2b, x2e⟩ := sv_x xs (i + 2)
  refine di_aload_n la_1908 rfl ?_
  refine dr_aload_n la_1909 rfl (Or.inr (Or.inr ⟨_, rfl⟩)) ?_
  refine dr_iload la_1910 rfl ?_
  refine di_const la_1912 ?_
  refine di_iadd la_1913 ?_
  refine dr_xldE la_1914 (by omega) (by omega) hL x1e ?_
  refine dr_aload_n la_1915 rfl (Or.inr (Or.inr ⟨_, rfl⟩)) ?_
  refine dr_iload la_1916 rfl ?_
  refine di_const la_1918 ?_
  refine di_iadd la_1919 ?_
  refine dr_xldE la_1920 (by omega) (by omega) hL x2e ?_
  refine di_aload_n la_1921 rfl ?_
  refine dr_statH la_1922 rfl (by decide +kernel) rfl (w_L_chosen l hl hI (a1 := x1) (by omega) (by omega) (a2 := x2) (by omega) (by omega)) (by decide) (by omega) (by omega) (Nat.le_of_ble_eq_true rfl) kNSw (kISw (fun y16 h11 hI12 hF13 y16f y16a y16b => ?_))
  clear y16f
  have hS14 := CSt_FW hS hF13
  have hM15 := MSt_FW hM hF13
  refine di_istore (ls2 := [some (.retAddr 2), some (.ref 0), some (.ref 26), some (.ref 36), some (dI i), some (dI y16), none]) la_1925 rfl rfl ?_
  refine di_aload_n la_1927 rfl ?_
  refine dr_aload_n la_1928 rfl (Or.inr (Or.inr ⟨_, rfl⟩)) ?_
  refine dr_iload la_1929 rfl ?_
  refine di_const la_1931 ?_
  refine di_iadd la_1932 ?_
  refine dr_xldE la_1933 (by omega) (by omega) hL x1e ?_
  refine dr_aload_n la_1934 rfl (Or.inr (Or.inr ⟨_, rfl⟩)) ?_
  refine dr_iload la_1935 rfl ?_
  refine di_const la_1937 ?_
  refine di_iadd la_1938 ?_
  refine dr_xldE la_1939 (by omega) (by omega) hL x2e ?_
  obtain ⟨nic22, c22, -⟩ := hM15.1
  refine dr_virt la_1940 rfl rfl rfl c22 (w_X8_chosen l hl hI12 (a1 := x1) (by omega) (by omega) (a2 := x2) (by omega) (by omega)) (by decide) (by omega) (by omega) (Nat.le_of_ble_eq_true rfl) kNSt (kISt (fun y23 h17 hI18 hF19 y23f y23a y23b => ?_))
  clear y23f
  have hS20 := CSt_FT hS14 hI12 hF19
  obtain ⟨th24, hM21⟩ := MSt_FT hM15 hI12 hI18 hF19
  refine di_istore (ls2 := [some (.retAddr 2), some (.ref 0), some (.ref 26), some (.ref 36), some (dI i), some (dI y16), some (dI y23)]) la_1943 rfl rfl ?_
  refine dr_goto la_1945 rfl ?_
  refine dm_wk (ls2 := [some (.retAddr 2), some (.ref 0), some (.ref 26), some (.ref 36), some (dI i), none, none]) ⟨Or.inr rfl, Or.inr rfl, Or.inr rfl, Or.inr rfl, Or.inr rfl, Or.inl rfl, Or.inl rfl, trivial⟩ ?_
  refine dm_cew (ce2 := ce + 1000) (sl2 := sl + 60000) (by omega) (by omega) ?_
  exact K _ _ _ _ _ hI18 hS20 hM21 (by omega)
set_option maxHeartbeats 4000000 in
set_option maxRecDepth 100000 in
theorem lw_c36 (l : Launch) (hl : l.stackTraces = false) {L : Nat} {xs : Nat → Int32} (hL : L ≤ 384) {kc : Int} {h : dm_H} {B : Int} {σ : St} {th : Int} (hI : Inv kc kc h) (hS : CSt B σ h) (hM : MSt kc th σ h) {i : Int} (hi0 : 0 ≤ i) (hi6 : i + 6 ≤ L) (hB : 6 * B ≤ 20 * i) {ce sl : Nat} (hce : ce + 1000 ≤ 1200128) (hsl : sl + 60000 ≤ 5501098) (K : lw_K l L xs i (ce + 1000) (sl + 60000)) : dm_W (lw_E L xs) lw_PL l 329 420 1200128 5501098 1948 [some (.retAddr 2), some (.ref 0), some (.ref 26), some (.ref 36), some (dI i), none, none] [] h ce sl := by
  obtain ⟨x1, x1a, x1b, x1e⟩ := sv_x xs (i + 1)
  obtain ⟨x2, x2a, x2b, x2e⟩ := sv_x xs (i + 2)
  refine di_aload_n la_1948 rfl ?_
  refine dr_aload_n la_1949 rfl (Or.inr (Or.inr ⟨_, rfl⟩)) ?_
  refine dr_iload la_1950 rfl ?_
  refine di_const la_1952 ?_
  refine di_iadd la_1953 ?_
  refine dr_xldE la_1954 (by omega) (by omega) hL x1e ?_
  refine dr_aload_n la_1955 rfl (Or.inr (Or.inr ⟨_, rfl⟩)) ?_
  refine dr_iload la_1956 rfl ?_
  refine di_const la_1958 ?_
  refine di_iadd la_1959 ?_
  refine dr_xldE la_1960 (by omega) (by omega) hL x2e ?_
  refine di_aload_n la_1961 rfl ?_
  refine dr_statH la_1962 rfl (by decide +kernel) rfl (w_L_choice l hl hI (a1 := x1) (by omega) (by omega) (a2 := x2) (by omega) (by omega)) (by decide) (by omega) (by omega) (Nat.le_of_ble_eq_true rfl) kNSw (kISw (fun y16 h11 hI12 hF13 y16f y16a y16b => ?_))
  clear y16f
  have hS14 := CSt_FW hS hF13
  have hM15 := MSt_FW hM hF13
  refine di_istore (ls2 := [some (.retAddr 2), some (.ref 0), some (.ref 26), some (.ref 36), some (dI i), some (dI y16), none]) la_1965 rfl rfl ?_
  refine di_aload_n la_1967 rfl ?_
  refine dr_aload_n la_1968 rfl (Or.inr (Or.inr ⟨_, rfl⟩)) ?_
  refine dr_iload la_1969 rfl ?_
  refine di_const la_1971 ?_
  refine di_iadd la_1972 ?_
  refine dr_xldE la_1973 (by omega) (by omega) hL x1e ?_
  refine dr_aload_n la_1974 rfl (Or.inr (Or.inr ⟨_, rfl⟩)) ?_
  refine dr_iload la_1975 rfl ?_
  refine di_const la_1977 ?_
  refine di_iadd la_1978 ?_
  refine dr_xldE la_1979 (by omega) (by omega) hL x2e ?_
  obtain ⟨nic22, c22, -⟩ := hM15.1
  refine dr_virt la_1980 rfl rfl rfl c22 (w_X8_choice l hl hI12 (a1 := x1) (by omega) (by omega) (a2 := x2) (by omega) (by omega)) (by decide) (by omega) (by omega) (Nat.le_of_ble_eq_true rfl) kNSt (kISt (fun y23 h17 hI18 hF19 y23f y23a y23b => ?_))
  clear y23f
  have hS20 := CSt_FT hS14 hI12 hF19
  obtain ⟨th24, hM21⟩ := MSt_FT hM15 hI12 hI18 hF19
  refine di_istore (ls2 := [some (.retAddr 2), some (.ref 0), some (.ref 26), some (.ref 36), some (dI i), some (dI y16), some (dI y23)]) la_1983 rfl rfl ?_
  refine dr_goto la_1985 rfl ?_
  refine dm_wk (ls2 := [some (.retAddr 2), some (.ref 0), some (.ref 26), some (.ref 36), some (dI i), none, none]) ⟨Or.inr rfl, Or.inr rfl, Or.inr rfl, Or.inr rfl, Or.inr rfl, Or.inl rfl, Or.inl rfl, trivial⟩ ?_
  refine dm_cew (ce2 := ce + 1000) (sl2 := sl + 60000) (by omega) (by omega) ?_
  exact K _ _ _ _ _ hI18 hS20 hM21 (by omega)
set_option maxHeartbeats 4000000 in
set_option maxRecDepth 100000 in
theorem lw_c37 (l : Launch) (hl : l.stackTraces = false) {L : Nat} {xs : Nat → Int32} (hL : L ≤ 384) {kc : Int} {h : dm_H} {B : Int} {σ : St} {th : Int} (hI : Inv kc kc h) (hS : CSt B σ h) (hM : MSt kc th σ h) {i : Int} (hi0 : 0 ≤ i) (hi6 : i + 6 ≤ L) (hB : 6 * B ≤ 20 * i) {ce sl : Nat} (hce : ce + 1000 ≤ 1200128) (hsl : sl + 60000 ≤ 5501098) (K : lw_K l L xs i (ce + 1000) (sl + 60000)) : dm_W (lw_E L xs) lw_PL l 329 420 1200128 5501098 1988 [some (.retAddr 2), some (.ref 0), some (.ref 26), some (.ref 36), some (dI i), none, none] [] h ce sl := by
  obtain ⟨x1, x1a, x1b, x1e⟩ := sv_x xs (i + 1)
  obtain ⟨x2, x2a, x2b, x2e⟩ := sv_x xs (i + 2)
  refine di_aload_n la_1988 rfl ?_
  refine dr_aload_n la_1989 rfl (Or.inr (Or.inr ⟨_, rfl⟩)) ?_
  refine dr_iload la_1990 rfl ?_
  refine di_const la_1992 ?_
  refine di_iadd la_1993 ?_
  refine dr_xldE la_1994 (by omega) (by omega) hL x1e ?_
  refine dr_aload_n la_1995 rfl (Or.inr (Or.inr ⟨_, rfl⟩)) ?_
  refine dr_iload la_1996 rfl ?_
  refine di_const la_1998 ?_
  refine di_iadd la_1999 ?_
  refine dr_xldE la_2000 (by omega) (by omega) hL x2e ?_
  refine di_aload_n la_2001 rfl ?_
  refine dr_statH la_2002 rfl (by decide +kernel) rfl (w_L_unheld l hl hI (a1 := x1) (by omega) (by omega) (a2 := x2) (by omega) (by omega)) (by decide) (by omega) (by omega) (Nat.le_of_ble_eq_true rfl) kNSw (kISw (fun y16 h11 hI12 hF13 y16f y16a y16b => ?_))
  clear y16f
  have hS14 := CSt_FW hS hF13
  have hM15 := MSt_FW hM hF13
  refine di_istore (ls2 := [some (.retAddr 2), some (.ref 0), some (.ref 26), some (.ref 36), some (dI i), some (dI y16), none]) la_2005 rfl rfl ?_
  refine di_aload_n la_2007 rfl ?_
  refine dr_aload_n la_2008 rfl (Or.inr (Or.inr ⟨_, rfl⟩)) ?_
  refine dr_iload la_2009 rfl ?_
  refine di_const la_2011 ?_
  refine di_iadd la_2012 ?_
  refine dr_xldE la_2013 (by omega) (by omega) hL x1e ?_
  refine dr_aload_n la_2014 rfl (Or.inr (Or.inr ⟨_, rfl⟩)) ?_
  refine dr_iload la_2015 rfl ?_
  refine di_const la_2017 ?_
  refine di_iadd la_2018 ?_
  refine dr_xldE la_2019 (by omega) (by omega) hL x2e ?_
  obtain ⟨nic22, c22, -⟩ := hM15.1
  refine dr_virt la_2020 rfl rfl rfl c22 (w_X8_unheld l hl hI12 (a1 := x1) (by omega) (by omega) (a2 := x2) (by omega) (by omega)) (by decide) (by omega) (by omega) (Nat.le_of_ble_eq_true rfl) kNSt (kISt (fun y23 h17 hI18 hF19 y23f y23a y23b => ?_))
  clear y23f
  have hS20 := CSt_FT hS14 hI12 hF19
  obtain ⟨th24, hM21⟩ := MSt_FT hM15 hI12 hI18 hF19
  refine di_istore (ls2 := [some (.retAddr 2), some (.ref 0), some (.ref 26), some (.ref 36), some (dI i), some (dI y16), some (dI y23)]) la_2023 rfl rfl ?_
  refine dr_goto la_2025 rfl ?_
  refine dm_wk (ls2 := [some (.retAddr 2), some (.ref 0), some (.ref 26), some (.ref 36), some (dI i), none, none]) ⟨Or.inr rfl, Or.inr rfl, Or.inr rfl, Or.inr rfl, Or.inr rfl, Or.inl rfl, Or.inl rfl, trivial⟩ ?_
  refine dm_cew (ce2 := ce + 1000) (sl2 := sl + 60000) (by omega) (by omega) ?_
  exact K _ _ _ _ _ hI18 hS20 hM21 (by omega)
set_option maxHeartbeats 4000000 in
set_option maxRecDepth 100000 in
theorem lw_c38 (l : Launch) (hl : l.stackTraces = false) {L : Nat} {xs : Nat → Int32} (hL : L ≤ 384) {kc : Int} {h : dm_H} {B : Int} {σ : St} {th : Int} (hI : Inv kc kc h) (hS : CSt B σ h) (hM : MSt kc th σ h) {i : Int} (hi0 : 0 ≤ i) (hi6 : i + 6 ≤ L) (hB : 6 * B ≤ 20 * i) {ce sl : Nat} (hce : ce + 1000 ≤ 1200128) (hsl : sl + 60000 ≤ 5501098) (K : lw_K l L xs i (ce + 1000) (sl + 60000)) : dm_W (lw_E L xs) lw_PL l 329 420 1200128 5501098 2028 [some (.retAddr 2), some (.ref 0), some (.ref 26), some (.ref 36), some (dI i), none, none] [] h ce sl := by
  obtain ⟨x1, x1a, x1b, x1e⟩ := sv_x xs (i + 1)
  obtain ⟨x2, x2a, x2b, x2e⟩ := sv_x xs (i + 2)
  refine di_aload_n la_2028 rfl ?_
  refine dr_aload_n la_2029 rfl (Or.inr (Or.inr ⟨_, rfl⟩)) ?_
  refine dr_iload la_2030 rfl ?_
  refine di_const la_2032 ?_
  refine di_iadd la_2033 ?_
  refine dr_xldE la_2034 (by omega) (by omega) hL x1e ?_
  refine dr_aload_n la_2035 rfl (Or.inr (Or.inr ⟨_, rfl⟩)) ?_
  refine dr_iload la_2036 rfl ?_
  refine di_const la_2038 ?_
  refine di_iadd la_2039 ?_
  refine dr_xldE la_2040 (by omega) (by omega) hL x2e ?_
  refine di_aload_n la_2041 rfl ?_
  refine dr_statH la_2042 rfl (by decide +kernel) rfl (w_L_holders l hl hI (a1 := x1) (by omega) (by omega) (a2 := x2) (by omega) (by omega)) (by decide) (by omega) (by omega) (Nat.le_of_ble_eq_true rfl) kNSw (kISw (fun y16 h11 hI12 hF13 y16f y16a y16b => ?_))
  clear y16f
  have hS14 := CSt_FW hS hF13
  have hM15 := MSt_FW hM hF13
  refine di_istore (ls2 := [some (.retAddr 2), some (.ref 0), some (.ref 26), some (.ref 36), some (dI i), some (dI y16), none]) la_2045 rfl rfl ?_
  refine di_aload_n la_2047 rfl ?_
  refine dr_aload_n la_2048 rfl (Or.inr (Or.inr ⟨_, rfl⟩)) ?_
  refine dr_iload la_2049 rfl ?_
  refine di_const la_2051 ?_
  refine di_iadd la_2052 ?_
  refine dr_xldE la_2053 (by omega) (by omega) hL x1e ?_
  refine dr_aload_n la_2054 rfl (Or.inr (Or.inr ⟨_, rfl⟩)) ?_
  refine dr_iload la_2055 rfl ?_
  refine di_const la_2057 ?_
  refine di_iadd la_2058 ?_
  refine dr_xldE la_2059 (by omega) (by omega) hL x2e ?_
  obtain ⟨nic22, c22, -⟩ := hM15.1
  refine dr_virt la_2060 rfl rfl rfl c22 (w_X8_holders l hl hI12 (a1 := x1) (by omega) (by omega) (a2 := x2) (by omega) (by omega)) (by decide) (by omega) (by omega) (Nat.le_of_ble_eq_true rfl) kNSt (kISt (fun y23 h17 hI18 hF19 y23f y23a y23b => ?_))
  clear y23f
  have hS20 := CSt_FT hS14 hI12 hF19
  obtain ⟨th24, hM21⟩ := MSt_FT hM15 hI12 hI18 hF19
  refine di_istore (ls2 := [some (.retAddr 2), some (.ref 0), some (.ref 26), some (.ref 36), some (dI i), some (dI y16), some (dI y23)]) la_2063 rfl rfl ?_
  refine dr_goto la_2065 rfl ?_
  refine dm_wk (ls2 := [some (.retAddr 2), some (.ref 0), some (.ref 26), some (.ref 36), some (dI i), none, none]) ⟨Or.inr rfl, Or.inr rfl, Or.inr rfl, Or.inr rfl, Or.inr rfl, Or.inl rfl, Or.inl rfl, trivial⟩ ?_
  refine dm_cew (ce2 := ce + 1000) (sl2 := sl + 60000) (by omega) (by omega) ?_
  exact K _ _ _ _ _ hI18 hS20 hM21 (by omega)
set_option maxHeartbeats 4000000 in
set_option maxRecDepth 100000 in
theorem lw_c39 (l : Launch) (hl : l.stackTraces = false) {L : Nat} {xs : Nat → Int32} (hL : L ≤ 384) {kc : Int} {h : dm_H} {B : Int} {σ : St} {th : Int} (hI : Inv kc kc h) (hS : CSt B σ h) (hM : MSt kc th σ h) {i : Int} (hi0 : 0 ≤ i) (hi6 : i + 6 ≤ L) (hB : 6 * B ≤ 20 * i) {ce sl : Nat} (hce : ce + 1000 ≤ 1200128) (hsl : sl + 60000 ≤ 5501098) (K : lw_K l L xs i (ce + 1000) (sl + 60000)) : dm_W (lw_E L xs) lw_PL l 329 420 1200128 5501098 2068 [some (.retAddr 2), some (.ref 0), some (.ref 26), some (.ref 36), some (dI i), none, none] [] h ce sl := by
  obtain ⟨x1, x1a, x1b, x1e⟩ := sv_x xs (i + 1)
  obtain ⟨x2, x2a, x2b, x2e⟩ := sv_x xs (i + 2)
  refine di_aload_n la_2068 rfl ?_
  refine dr_aload_n la_2069 rfl (Or.inr (Or.inr ⟨_, rfl⟩)) ?_
  refine dr_iload la_2070 rfl ?_
  refine di_const la_2072 ?_
  refine di_iadd la_2073 ?_
  refine dr_xldE la_2074 (by omega) (by omega) hL x1e ?_
  refine dr_aload_n la_2075 rfl (Or.inr (Or.inr ⟨_, rfl⟩)) ?_
  refine dr_iload la_2076 rfl ?_
  refine di_const la_2078 ?_
  refine di_iadd la_2079 ?_
  refine dr_xldE la_2080 (by omega) (by omega) hL x2e ?_
  refine di_if_eq la_2081 rfl (by omega) (by omega) (fun cz11 => ?_) (fun cz11 => ?_)
  · skip
    refine di_const la_2088 ?_
    refine di_aload_n la_2089 rfl ?_
    refine dr_statH la_2090 rfl (by decide +kernel) rfl (w_L_deepest l hl hI (a1 := x1) (by omega) (by omega) (a2 := 0) (by omega) (by omega)) (by decide) (by omega) (by omega) (Nat.le_of_ble_eq_true rfl) kNSw (kISw (fun y17 h12 hI13 hF14 y17f y17a y17b => ?_))
    clear y17f
    have hS15 := CSt_FW hS hF14
    have hM16 := MSt_FW hM hF14
    refine di_istore (ls2 := [some (.retAddr 2), some (.ref 0), some (.ref 26), some (.ref 36), some (dI i), some (dI y17), none]) la_2093 rfl rfl ?_
    refine di_aload_n la_2095 rfl ?_
    refine dr_aload_n la_2096 rfl (Or.inr (Or.inr ⟨_, rfl⟩)) ?_
    refine dr_iload la_2097 rfl ?_
    refine di_const la_2099 ?_
    refine di_iadd la_2100 ?_
    refine dr_xldE la_2101 (by omega) (by omega) hL x1e ?_
    refine dr_aload_n la_2102 rfl (Or.inr (Or.inr ⟨_, rfl⟩)) ?_
    refine dr_iload la_2103 rfl ?_
    refine di_const la_2105 ?_
    refine di_iadd la_2106 ?_
    refine dr_xldE la_2107 (by omega) (by omega) hL x2e ?_
    refine di_if_eq la_2108 rfl (by omega) (by omega) (fun _ => ?_) (fun c9 => absurd cz11 c9)
    refine di_const la_2115 ?_
    obtain ⟨nic23, c23, -⟩ := hM16.1
    refine dr_virt la_2116 rfl rfl rfl c23 (w_X8_deepest l hl hI13 (a1 := x1) (by omega) (by omega) (a2 := 0) (by omega) (by omega)) (by decide) (by omega) (by omega) (Nat.le_of_ble_eq_true rfl) kNSt (kISt (fun y24 h18 hI19 hF20 y24f y24a y24b => ?_))
    clear y24f
    have hS21 := CSt_FT hS15 hI13 hF20
    obtain ⟨th25, hM22⟩ := MSt_FT hM16 hI13 hI19 hF20
    refine di_istore (ls2 := [some (.retAddr 2), some (.ref 0), some (.ref 26), some (.ref 36), some (dI i), some (dI y17), some (dI y24)]) la_2119 rfl rfl ?_
    refine dr_goto la_2121 rfl ?_
    refine dm_wk (ls2 := [some (.retAddr 2), some (.ref 0), some (.ref 26), some (.ref 36), some (dI i), none, none]) ⟨Or.inr rfl, Or.inr rfl, Or.inr rfl, Or.inr rfl, Or.inr rfl, Or.inl rfl, Or.inl rfl, trivial⟩ ?_
    refine dm_cew (ce2 := ce + 1000) (sl2 := sl + 60000) (by omega) (by omega) ?_
    exact K _ _ _ _ _ hI19 hS21 hM22 (by omega)
  · skip
    refine di_const la_2084 ?_
    refine dr_goto la_2085 rfl ?_
    refine di_aload_n la_2089 rfl ?_
    refine dr_statH la_2090 rfl (by decide +kernel) rfl (w_L_deepest l hl hI (a1 := x1) (by omega) (by omega) (a2 := 1) (by omega) (by omega)) (by decide) (by omega) (by omega) (Nat.le_of_ble_eq_true rfl) kNSw (kISw (fun y31 h26 hI27 hF28 y31f y31a y31b => ?_))
    clear y31f
    have hS29 := CSt_FW hS hF28
    have hM30 := MSt_FW hM hF28
    refine di_istore (ls2 := [some (.retAddr 2), some (.ref 0), some (.ref 26), some (.ref 36), some (dI i), some (dI y31), none]) la_2093 rfl rfl ?_
    refine di_aload_n la_2095 rfl ?_
    refine dr_aload_n la_2096 rfl (Or.inr (Or.inr ⟨_, rfl⟩)) ?_
    refine dr_iload la_2097 rfl ?_
    refine di_const la_2099 ?_
    refine di_iadd la_2100 ?_
    refine dr_xldE la_2101 (by omega) (by omega) hL x1e ?_
    refine dr_aload_n la_2102 rfl (Or.inr (Or.inr ⟨_, rfl⟩)) ?_
    refine dr_iload la_2103 rfl ?_
    refine di_const la_2105 ?_
    refine di_iadd la_2106 ?_
    refine dr_xldE la_2107 (by omega) (by omega) hL x2e ?_
    refine di_if_eq la_2108 rfl (by omega) (by omega) (fun c9 => absurd c9 cz11) (fun _ => ?_)
    refine di_const la_2111 ?_
    refine dr_goto la_2112 rfl ?_
    obtain ⟨nic37, c37, -⟩ := hM30.1
    refine dr_virt la_2116 rfl rfl rfl c37 (w_X8_deepest l hl hI27 (a1 := x1) (by omega) (by omega) (a2 := 1) (by omega) (by omega)) (by decide) (by omega) (by omega) (Nat.le_of_ble_eq_true rfl) kNSt (kISt (fun y38 h32 hI33 hF34 y38f y38a y38b => ?_))
    clear y38f
    have hS35 := CSt_FT hS29 hI27 hF34
    obtain ⟨th39, hM36⟩ := MSt_FT hM30 hI27 hI33 hF34
    refine di_istore (ls2 := [some (.retAddr 2), some (.ref 0), some (.ref 26), some (.ref 36), some (dI i), some (dI y31), some (dI y38)]) la_2119 rfl rfl ?_
    refine dr_goto la_2121 rfl ?_
    refine dm_wk (ls2 := [some (.retAddr 2), some (.ref 0), some (.ref 26), some (.ref 36), some (dI i), none, none]) ⟨Or.inr rfl, Or.inr rfl, Or.inr rfl, Or.inr rfl, Or.inr rfl, Or.inl rfl, Or.inl rfl, trivial⟩ ?_
    refine dm_cew (ce2 := ce + 1000) (sl2 := sl + 60000) (by omega) (by omega) ?_
    exact K _ _ _ _ _ hI33 hS35 hM36 (by omega)
set_option maxHeartbeats 4000000 in
set_option maxRecDepth 100000 in
theorem lw_c40 (l : Launch) (hl : l.stackTraces = false) {L : Nat} {xs : Nat → Int32} (hL : L ≤ 384) {kc : Int} {h : dm_H} {B : Int} {σ : St} {th : Int} (hI : Inv kc kc h) (hS : CSt B σ h) (hM : MSt kc th σ h) {i : Int} (hi0 : 0 ≤ i) (hi6 : i + 6 ≤ L) (hB : 6 * B ≤ 20 * i) {ce sl : Nat} (hce : ce + 1000 ≤ 1200128) (hsl : sl + 60000 ≤ 5501098) (K : lw_K l L xs i (ce + 1000) (sl + 60000)) : dm_W (lw_E L xs) lw_PL l 329 420 1200128 5501098 2124 [some (.retAddr 2), some (.ref 0), some (.ref 26), some (.ref 36), some (dI i), none, none] [] h ce sl := by
  obtain ⟨x1, x1a, x1b, x1e⟩ := sv_x xs (i + 1)
  refine di_aload_n la_2124 rfl ?_
  refine dr_aload_n la_2125 rfl (Or.inr (Or.inr ⟨_, rfl⟩)) ?_
  refine dr_iload la_2126 rfl ?_
  refine di_const la_2128 ?_
  refine di_iadd la_2129 ?_
  refine dr_xldE la_2130 (by omega) (by omega) hL x1e ?_
  refine di_aload_n la_2131 rfl ?_
  refine dr_statH la_2132 rfl (by decide +kernel) rfl (w_L_rooms l hl hI (a1 := x1) (by omega) (by omega)) (by decide) (by omega) (by omega) (Nat.le_of_ble_eq_true rfl) kNSw (kISw (fun y16 h11 hI12 hF13 y16f y16a y16b => ?_))
  clear y16f
  have hS14 := CSt_FW hS hF13
  have hM15 := MSt_FW hM hF13
  refine di_istore (ls2 := [some (.retAddr 2), some (.ref 0), some (.ref 26), some (.ref 36), some (dI i), some (dI y16), none]) la_2135 rfl rfl ?_
  refine di_aload_n la_2137 rfl ?_
  refine dr_aload_n la_2138 rfl (Or.inr (Or.inr ⟨_, rfl⟩)) ?_
  refine dr_iload la_2139 rfl ?_
  refine di_const la_2141 ?_
  refine di_iadd la_2142 ?_
  refine dr_xldE la_2143 (by omega) (by omega) hL x1e ?_
  obtain ⟨nic22, c22, -⟩ := hM15.1
  refine dr_virt la_2144 rfl rfl rfl c22 (w_X8_rooms l hl hI12 (a1 := x1) (by omega) (by omega)) (by decide) (by omega) (by omega) (Nat.le_of_ble_eq_true rfl) kNSt (kISt (fun y23 h17 hI18 hF19 y23f y23a y23b => ?_))
  clear y23f
  have hS20 := CSt_FT hS14 hI12 hF19
  obtain ⟨th24, hM21⟩ := MSt_FT hM15 hI12 hI18 hF19
  refine di_istore (ls2 := [some (.retAddr 2), some (.ref 0), some (.ref 26), some (.ref 36), some (dI i), some (dI y16), some (dI y23)]) la_2147 rfl rfl ?_
  refine dr_goto la_2149 rfl ?_
  refine dm_wk (ls2 := [some (.retAddr 2), some (.ref 0), some (.ref 26), some (.ref 36), some (dI i), none, none]) ⟨Or.inr rfl, Or.inr rfl, Or.inr rfl, Or.inr rfl, Or.inr rfl, Or.inl rfl, Or.inl rfl, trivial⟩ ?_
  refine dm_cew (ce2 := ce + 1000) (sl2 := sl + 60000) (by omega) (by omega) ?_
  exact K _ _ _ _ _ hI18 hS20 hM21 (by omega)
set_option maxHeartbeats 4000000 in
set_option maxRecDepth 100000 in
theorem lw_c41 (l : Launch) (hl : l.stackTraces = false) {L : Nat} {xs : Nat → Int32} (hL : L ≤ 384) {kc : Int} {h : dm_H} {B : Int} {σ : St} {th : Int} (hI : Inv kc kc h) (hS : CSt B σ h) (hM : MSt kc th σ h) {i : Int} (hi0 : 0 ≤ i) (hi6 : i + 6 ≤ L) (hB : 6 * B ≤ 20 * i) {ce sl : Nat} (hce : ce + 1000 ≤ 1200128) (hsl : sl + 60000 ≤ 5501098) (K : lw_K l L xs i (ce + 1000) (sl + 60000)) : dm_W (lw_E L xs) lw_PL l 329 420 1200128 5501098 2152 [some (.retAddr 2), some (.ref 0), some (.ref 26), some (.ref 36), some (dI i), none, none] [] h ce sl := by
  obtain ⟨x1, x1a, x1b, x1e⟩ := sv_x xs (i + 1)
  obtain ⟨x2, x2a, x2b, x2e⟩ := sv_x xs (i + 2)
  obtain ⟨x3, x3a, x3b, x3e⟩ := sv_x xs (i + 3)
  refine di_aload_n la_2152 rfl ?_
  refine dr_aload_n la_2153 rfl (Or.inr (Or.inr ⟨_, rfl⟩)) ?_
  refine dr_iload la_2154 rfl ?_
  refine di_const la_2156 ?_
  refine di_iadd la_2157 ?_
  refine dr_xldE la_2158 (by omega) (by omega) hL x1e ?_
  refine dr_aload_n la_2159 rfl (Or.inr (Or.inr ⟨_, rfl⟩)) ?_
  refine dr_iload la_2160 rfl ?_
  refine di_const la_2162 ?_
  refine di_iadd la_2163 ?_
  refine dr_xldE la_2164 (by omega) (by omega) hL x2e ?_
  refine dr_aload_n la_2165 rfl (Or.inr (Or.inr ⟨_, rfl⟩)) ?_
  refine dr_iload la_2166 rfl ?_
  refine di_const la_2168 ?_
  refine di_iadd la_2169 ?_
  refine dr_xldE la_2170 (by omega) (by omega) hL x3e ?_
  refine di_aload_n la_2171 rfl ?_
  refine dr_statH la_2172 rfl (by decide +kernel) rfl (w_L_roomOf l hl hI (a1 := x1) (by omega) (by omega) (a2 := x2) (by omega) (by omega) (a3 := x3) (by omega) (by omega)) (by decide) (by omega) (by omega) (Nat.le_of_ble_eq_true rfl) kNSw (kISw (fun y16 h11 hI12 hF13 y16f y16a y16b => ?_))
  clear y16f
  have hS14 := CSt_FW hS hF13
  have hM15 := MSt_FW hM hF13
  refine di_istore (ls2 := [some (.retAddr 2), some (.ref 0), some (.ref 26), some (.ref 36), some (dI i), some (dI y16), none]) la_2175 rfl rfl ?_
  refine di_aload_n la_2177 rfl ?_
  refine dr_aload_n la_2178 rfl (Or.inr (Or.inr ⟨_, rfl⟩)) ?_
  refine dr_iload la_2179 rfl ?_
  refine di_const la_2181 ?_
  refine di_iadd la_2182 ?_
  refine dr_xldE la_2183 (by omega) (by omega) hL x1e ?_
  refine dr_aload_n la_2184 rfl (Or.inr (Or.inr ⟨_, rfl⟩)) ?_
  refine dr_iload la_2185 rfl ?_
  refine di_const la_2187 ?_
  refine di_iadd la_2188 ?_
  refine dr_xldE la_2189 (by omega) (by omega) hL x2e ?_
  refine dr_aload_n la_2190 rfl (Or.inr (Or.inr ⟨_, rfl⟩)) ?_
  refine dr_iload la_2191 rfl ?_
  refine di_const la_2193 ?_
  refine di_iadd la_2194 ?_
  refine dr_xldE la_2195 (by omega) (by omega) hL x3e ?_
  obtain ⟨nic22, c22, -⟩ := hM15.1
  refine dr_virt la_2196 rfl rfl rfl c22 (w_X8_roomOf l hl hI12 (a1 := x1) (by omega) (by omega) (a2 := x2) (by omega) (by omega) (a3 := x3) (by omega) (by omega)) (by decide) (by omega) (by omega) (Nat.le_of_ble_eq_true rfl) kNSt (kISt (fun y23 h17 hI18 hF19 y23f y23a y23b => ?_))
  clear y23f
  have hS20 := CSt_FT hS14 hI12 hF19
  obtain ⟨th24, hM21⟩ := MSt_FT hM15 hI12 hI18 hF19
  refine di_istore (ls2 := [some (.retAddr 2), some (.ref 0), some (.ref 26), some (.ref 36), some (dI i), some (dI y16), some (dI y23)]) la_2199 rfl rfl ?_
  refine dr_goto la_2201 rfl ?_
  refine dm_wk (ls2 := [some (.retAddr 2), some (.ref 0), some (.ref 26), some (.ref 36), some (dI i), none, none]) ⟨Or.inr rfl, Or.inr rfl, Or.inr rfl, Or.inr rfl, Or.inr rfl, Or.inl rfl, Or.inl rfl, trivial⟩ ?_
  refine dm_cew (ce2 := ce + 1000) (sl2 := sl + 60000) (by omega) (by omega) ?_
  exact K _ _ _ _ _ hI18 hS20 hM21 (by omega)
set_option maxHeartbeats 4000000 in
set_option maxRecDepth 100000 in
theorem lw_c42 (l : Launch) (hl : l.stackTraces = false) {L : Nat} {xs : Nat → Int32} (hL : L ≤ 384) {kc : Int} {h : dm_H} {B : Int} {σ : St} {th : Int} (hI : Inv kc kc h) (hS : CSt B σ h) (hM : MSt kc th σ h) {i : Int} (hi0 : 0 ≤ i) (hi6 : i + 6 ≤ L) (hB : 6 * B ≤ 20 * i) {ce sl : Nat} (hce : ce + 1000 ≤ 1200128) (hsl : sl + 60000 ≤ 5501098) (K : lw_K l L xs i (ce + 1000) (sl + 60000)) : dm_W (lw_E L xs) lw_PL l 329 420 1200128 5501098 2204 [some (.retAddr 2), some (.ref 0), some (.ref 26), some (.ref 36), some (dI i), none, none] [] h ce sl := by
  obtain ⟨x1, x1a, x1b, x1e⟩ := sv_x xs (i + 1)
  obtain ⟨x2, x2a, x2b, x2e⟩ := sv_x xs (i + 2)
  obtain ⟨x3, x3a, x3b, x3e⟩ := sv_x xs (i + 3)
  refine di_aload_n la_2204 rfl ?_
  refine dr_aload_n la_2205 rfl (Or.inr (Or.inr ⟨_, rfl⟩)) ?_
  refine dr_iload la_2206 rfl ?_
  refine di_const la_2208 ?_
  refine di_iadd la_2209 ?_
  refine dr_xldE la_2210 (by omega) (by omega) hL x1e ?_
  refine dr_aload_n la_2211 rfl (Or.inr (Or.inr ⟨_, rfl⟩)) ?_
  refine dr_iload la_2212 rfl ?_
  refine di_const la_2214 ?_
  refine di_iadd la_2215 ?_
  refine dr_xldE la_2216 (by omega) (by omega) hL x2e ?_
  refine dr_aload_n la_2217 rfl (Or.inr (Or.inr ⟨_, rfl⟩)) ?_
  refine dr_iload la_2218 rfl ?_
  refine di_const la_2220 ?_
  refine di_iadd la_2221 ?_
  refine dr_xldE la_2222 (by omega) (by omega) hL x3e ?_
  refine di_aload_n la_2223 rfl ?_
  refine dr_statH la_2224 rfl (by decide +kernel) rfl (w_L_links l hl hI (a1 := x1) (by omega) (by omega) (a2 := x2) (by omega) (by omega) (a3 := x3) (by omega) (by omega)) (by decide) (by omega) (by omega) (Nat.le_of_ble_eq_true rfl) kNSw (kISw (fun y16 h11 hI12 hF13 y16f y16a y16b => ?_))
  clear y16f
  have hS14 := CSt_FW hS hF13
  have hM15 := MSt_FW hM hF13
  refine di_istore (ls2 := [some (.retAddr 2), some (.ref 0), some (.ref 26), some (.ref 36), some (dI i), some (dI y16), none]) la_2227 rfl rfl ?_
  refine di_aload_n la_2229 rfl ?_
  refine dr_aload_n la_2230 rfl (Or.inr (Or.inr ⟨_, rfl⟩)) ?_
  refine dr_iload la_2231 rfl ?_
  refine di_const la_2233 ?_
  refine di_iadd la_2234 ?_
  refine dr_xldE la_2235 (by omega) (by omega) hL x1e ?_
  refine dr_aload_n la_2236 rfl (Or.inr (Or.inr ⟨_, rfl⟩)) ?_
  refine dr_iload la_2237 rfl ?_
  refine di_const la_2239 ?_
  refine di_iadd la_2240 ?_
  refine dr_xldE la_2241 (by omega) (by omega) hL x2e ?_
  refine dr_aload_n la_2242 rfl (Or.inr (Or.inr ⟨_, rfl⟩)) ?_
  refine dr_iload la_2243 rfl ?_
  refine di_const la_2245 ?_
  refine di_iadd la_2246 ?_
  refine dr_xldE la_2247 (by omega) (by omega) hL x3e ?_
  obtain ⟨nic22, c22, -⟩ := hM15.1
  refine dr_virt la_2248 rfl rfl rfl c22 (w_X8_links l hl hI12 (a1 := x1) (by omega) (by omega) (a2 := x2) (by omega) (by omega) (a3 := x3) (by omega) (by omega)) (by decide) (by omega) (by omega) (Nat.le_of_ble_eq_true rfl) kNSt (kISt (fun y23 h17 hI18 hF19 y23f y23a y23b => ?_))
  clear y23f
  have hS20 := CSt_FT hS14 hI12 hF19
  obtain ⟨th24, hM21⟩ := MSt_FT hM15 hI12 hI18 hF19
  refine di_istore (ls2 := [some (.retAddr 2), some (.ref 0), some (.ref 26), some (.ref 36), some (dI i), some (dI y16), some (dI y23)]) la_2251 rfl rfl ?_
  refine dr_goto la_2253 rfl ?_
  refine dm_wk (ls2 := [some (.retAddr 2), some (.ref 0), some (.ref 26), some (.ref 36), some (dI i), none, none]) ⟨Or.inr rfl, Or.inr rfl, Or.inr rfl, Or.inr rfl, Or.inr rfl, Or.inl rfl, Or.inl rfl, trivial⟩ ?_
  refine dm_cew (ce2 := ce + 1000) (sl2 := sl + 60000) (by omega) (by omega) ?_
  exact K _ _ _ _ _ hI18 hS20 hM21 (by omega)
set_option maxHeartbeats 4000000 in
set_option maxRecDepth 100000 in
theorem lw_c43 (l : Launch) (hl : l.stackTraces = false) {L : Nat} {xs : Nat → Int32} (hL : L ≤ 384) {kc : Int} {h : dm_H} {B : Int} {σ : St} {th : Int} (hI : Inv kc kc h) (hS : CSt B σ h) (hM : MSt kc th σ h) {i : Int} (hi0 : 0 ≤ i) (hi6 : i + 6 ≤ L) (hB : 6 * B ≤ 20 * i) {ce sl : Nat} (hce : ce + 1000 ≤ 1200128) (hsl : sl + 60000 ≤ 5501098) (K : lw_K l L xs i (ce + 1000) (sl + 60000)) : dm_W (lw_E L xs) lw_PL l 329 420 1200128 5501098 2256 [some (.retAddr 2), some (.ref 0), some (.ref 26), some (.ref 36), some (dI i), none, none] [] h ce sl := by
  obtain ⟨x1, x1a, x1b, x1e⟩ := sv_x xs (i + 1)
  obtain ⟨x2, x2a, x2b, x2e⟩ := sv_x xs (i + 2)
  obtain ⟨x3, x3a, x3b, x3e⟩ := sv_x xs (i + 3)
  obtain ⟨x4, x4a, x4b, x4e⟩ := sv_x xs (i + 4)
  refine di_aload_n la_2256 rfl ?_
  refine dr_aload_n la_2257 rfl (Or.inr (Or.inr ⟨_, rfl⟩)) ?_
  refine dr_iload la_2258 rfl ?_
  refine di_const la_2260 ?_
  refine di_iadd la_2261 ?_
  refine dr_xldE la_2262 (by omega) (by omega) hL x1e ?_
  refine dr_aload_n la_2263 rfl (Or.inr (Or.inr ⟨_, rfl⟩)) ?_
  refine dr_iload la_2264 rfl ?_
  refine di_const la_2266 ?_
  refine di_iadd la_2267 ?_
  refine dr_xldE la_2268 (by omega) (by omega) hL x2e ?_
  refine dr_aload_n la_2269 rfl (Or.inr (Or.inr ⟨_, rfl⟩)) ?_
  refine dr_iload la_2270 rfl ?_
  refine di_const la_2272 ?_
  refine di_iadd la_2273 ?_
  refine dr_xldE la_2274 (by omega) (by omega) hL x3e ?_
  refine dr_aload_n la_2275 rfl (Or.inr (Or.inr ⟨_, rfl⟩)) ?_
  refine dr_iload la_2276 rfl ?_
  refine di_const la_2278 ?_
  refine di_iadd la_2279 ?_
  refine dr_xldE la_2280 (by omega) (by omega) hL x4e ?_
  refine di_aload_n la_2281 rfl ?_
  refine dr_statH la_2282 rfl (by decide +kernel) rfl (w_L_link l hl hI (a1 := x1) (by omega) (by omega) (a2 := x2) (by omega) (by omega) (a3 := x3) (by omega) (by omega) (a4 := x4) (by omega) (by omega)) (by decide) (by omega) (by omega) (Nat.le_of_ble_eq_true rfl) kNSw (kISw (fun y16 h11 hI12 hF13 y16f y16a y16b => ?_))
  clear y16f
  have hS14 := CSt_FW hS hF13
  have hM15 := MSt_FW hM hF13
  refine di_istore (ls2 := [some (.retAddr 2), some (.ref 0), some (.ref 26), some (.ref 36), some (dI i), some (dI y16), none]) la_2285 rfl rfl ?_
  refine di_aload_n la_2287 rfl ?_
  refine dr_aload_n la_2288 rfl (Or.inr (Or.inr ⟨_, rfl⟩)) ?_
  refine dr_iload la_2289 rfl ?_
  refine di_const la_2291 ?_
  refine di_iadd la_2292 ?_
  refine dr_xldE la_2293 (by omega) (by omega) hL x1e ?_
  refine dr_aload_n la_2294 rfl (Or.inr (Or.inr ⟨_, rfl⟩)) ?_
  refine dr_iload la_2295 rfl ?_
  refine di_const la_2297 ?_
  refine di_iadd la_2298 ?_
  refine dr_xldE la_2299 (by omega) (by omega) hL x2e ?_
  refine dr_aload_n la_2300 rfl (Or.inr (Or.inr ⟨_, rfl⟩)) ?_
  refine dr_iload la_2301 rfl ?_
  refine di_const la_2303 ?_
  refine di_iadd la_2304 ?_
  refine dr_xldE la_2305 (by omega) (by omega) hL x3e ?_
  refine dr_aload_n la_2306 rfl (Or.inr (Or.inr ⟨_, rfl⟩)) ?_
  refine dr_iload la_2307 rfl ?_
  refine di_const la_2309 ?_
  refine di_iadd la_2310 ?_
  refine dr_xldE la_2311 (by omega) (by omega) hL x4e ?_
  obtain ⟨nic22, c22, -⟩ := hM15.1
  refine dr_virt la_2312 rfl rfl rfl c22 (w_X8_link l hl hI12 (a1 := x1) (by omega) (by omega) (a2 := x2) (by omega) (by omega) (a3 := x3) (by omega) (by omega) (a4 := x4) (by omega) (by omega)) (by decide) (by omega) (by omega) (Nat.le_of_ble_eq_true rfl) kNSt (kISt (fun y23 h17 hI18 hF19 y23f y23a y23b => ?_))
  clear y23f
  have hS20 := CSt_FT hS14 hI12 hF19
  obtain ⟨th24, hM21⟩ := MSt_FT hM15 hI12 hI18 hF19
  refine di_istore (ls2 := [some (.retAddr 2), some (.ref 0), some (.ref 26), some (.ref 36), some (dI i), some (dI y16), some (dI y23)]) la_2315 rfl rfl ?_
  refine dr_goto la_2317 rfl ?_
  refine dm_wk (ls2 := [some (.retAddr 2), some (.ref 0), some (.ref 26), some (.ref 36), some (dI i), none, none]) ⟨Or.inr rfl, Or.inr rfl, Or.inr rfl, Or.inr rfl, Or.inr rfl, Or.inl rfl, Or.inl rfl, trivial⟩ ?_
  refine dm_cew (ce2 := ce + 1000) (sl2 := sl + 60000) (by omega) (by omega) ?_
  exact K _ _ _ _ _ hI18 hS20 hM21 (by omega)
set_option maxHeartbeats 4000000 in
set_option maxRecDepth 100000 in
theorem lw_c44 (l : Launch) (hl : l.stackTraces = false) {L : Nat} {xs : Nat → Int32} (hL : L ≤ 384) {kc : Int} {h : dm_H} {B : Int} {σ : St} {th : Int} (hI : Inv kc kc h) (hS : CSt B σ h) (hM : MSt kc th σ h) {i : Int} (hi0 : 0 ≤ i) (hi6 : i + 6 ≤ L) (hB : 6 * B ≤ 20 * i) {ce sl : Nat} (hce : ce + 1000 ≤ 1200128) (hsl : sl + 60000 ≤ 5501098) (K : lw_K l L xs i (ce + 1000) (sl + 60000)) : dm_W (lw_E L xs) lw_PL l 329 420 1200128 5501098 2320 [some (.retAddr 2), some (.ref 0), some (.ref 26), some (.ref 36), some (dI i), none, none] [] h ce sl := by
  obtain ⟨x1, x1a, x1b, x1e⟩ := sv_x xs (i + 1)
  refine di_aload_n la_2320 rfl ?_
  refine dr_aload_n la_2321 rfl (Or.inr (Or.inr ⟨_, rfl⟩)) ?_
  refine dr_iload la_2322 rfl ?_
  refine di_const la_2324 ?_
  refine di_iadd la_2325 ?_
  refine dr_xldE la_2326 (by omega) (by omega) hL x1e ?_
  refine di_aload_n la_2327 rfl ?_
  refine dr_statH la_2328 rfl (by decide +kernel) rfl (w_L_house l hl hI (a1 := x1) (by omega) (by omega)) (by decide) (by omega) (by omega) (Nat.le_of_ble_eq_true rfl) kNSw (kISw (fun y16 h11 hI12 hF13 y16f y16a y16b => ?_))
  clear y16f
  have hS14 := CSt_FW hS hF13
  have hM15 := MSt_FW hM hF13
  refine di_istore (ls2 := [some (.retAddr 2), some (.ref 0), some (.ref 26), some (.ref 36), some (dI i), some (dI y16), none]) la_2331 rfl rfl ?_
  refine di_aload_n la_2333 rfl ?_
  refine dr_aload_n la_2334 rfl (Or.inr (Or.inr ⟨_, rfl⟩)) ?_
  refine dr_iload la_2335 rfl ?_
  refine di_const la_2337 ?_
  refine di_iadd la_2338 ?_
  refine dr_xldE la_2339 (by omega) (by omega) hL x1e ?_
  obtain ⟨nic22, c22, -⟩ := hM15.1
  refine dr_virt la_2340 rfl rfl rfl c22 (w_X8_house l hl hI12 (a1 := x1) (by omega) (by omega)) (by decide) (by omega) (by omega) (Nat.le_of_ble_eq_true rfl) kNSt (kISt (fun y23 h17 hI18 hF19 y23f y23a y23b => ?_))
  clear y23f
  have hS20 := CSt_FT hS14 hI12 hF19
  obtain ⟨th24, hM21⟩ := MSt_FT hM15 hI12 hI18 hF19
  refine di_istore (ls2 := [some (.retAddr 2), some (.ref 0), some (.ref 26), some (.ref 36), some (dI i), some (dI y16), some (dI y23)]) la_2343 rfl rfl ?_
  refine dr_goto la_2345 rfl ?_
  refine dm_wk (ls2 := [some (.retAddr 2), some (.ref 0), some (.ref 26), some (.ref 36), some (dI i), none, none]) ⟨Or.inr rfl, Or.inr rfl, Or.inr rfl, Or.inr rfl, Or.inr rfl, Or.inl rfl, Or.inl rfl, trivial⟩ ?_
  refine dm_cew (ce2 := ce + 1000) (sl2 := sl + 60000) (by omega) (by omega) ?_
  exact K _ _ _ _ _ hI18 hS20 hM21 (by omega)
set_option maxHeartbeats 4000000 in
set_option maxRecDepth 100000 in
theorem lw_c45 (l : Launch) (hl : l.stackTraces = false) {L : Nat} {xs : Nat → Int32} (hL : L ≤ 384) {kc : Int} {h : dm_H} {B : Int} {σ : St} {th : Int} (hI : Inv kc kc h) (hS : CSt B σ h) (hM : MSt kc th σ h) {i : Int} (hi0 : 0 ≤ i) (hi6 : i + 6 ≤ L) (hB : 6 * B ≤ 20 * i) {ce sl : Nat} (hce : ce + 1000 ≤ 1200128) (hsl : sl + 60000 ≤ 5501098) (K : lw_K l L xs i (ce + 1000) (sl + 60000)) : dm_W (lw_E L xs) lw_PL l 329 420 1200128 5501098 2348 [some (.retAddr 2), some (.ref 0), some (.ref 26), some (.ref 36), some (dI i), none, none] [] h ce sl := by
  refine di_aload_n la_2348 rfl ?_
  obtain ⟨rc16, rc16a, rc16b, c16⟩ := I_cls hI
  refine dr_virt la_2349 rfl rfl rfl c16 (t_X6_knock l hl hI) (by decide) (by omega) (by omega) (Nat.le_of_ble_eq_true rfl) kKCN (kKC (fun h11 hI12 hF13 hk17 => ?_))
  have hS14 := CSt_same hS (fun j j0 _ _ => hk17 j (by omega))
  have hM15 := MSt_same hM (fun j j0 _ => hk17 j (by omega))
  refine dr_pop la_2352 rfl ?_
  refine di_aload_n la_2353 rfl ?_
  obtain ⟨nic23, c23, -⟩ := hM15.1
  refine dr_virt la_2354 rfl rfl rfl c23 (t_X8_knock l hl hI12 hM15) (by decide) (by omega) (by omega) (Nat.le_of_ble_eq_true rfl) kKMN (kKM (fun h18 hI19 hF20 hk24 hM22 => ?_))
  have hS21 := CSt_same hS14 (fun j _ j1 _ => hk24 j (by omega))
  refine dr_pop la_2357 rfl ?_
  refine dr_goto la_2358 rfl ?_
  refine dm_cew (ce2 := ce + 1000) (sl2 := sl + 60000) (by omega) (by omega) ?_
  exact K _ _ _ _ _ hI19 hS21 hM22 (by omega)
set_option maxHeartbeats 4000000 in
set_option maxRecDepth 100000 in
theorem lw_c46 (l : Launch) (hl : l.stackTraces = false) {L : Nat} {xs : Nat → Int32} (hL : L ≤ 384) {kc : Int} {h : dm_H} {B : Int} {σ : St} {th : Int} (hI : Inv kc kc h) (hS : CSt B σ h) (hM : MSt kc th σ h) {i : Int} (hi0 : 0 ≤ i) (hi6 : i + 6 ≤ L) (hB : 6 * B ≤ 20 * i) {ce sl : Nat} (hce : ce + 1000 ≤ 1200128) (hsl : sl + 60000 ≤ 5501098) (K : lw_K l L xs i (ce + 1000) (sl + 60000)) : dm_W (lw_E L xs) lw_PL l 329 420 1200128 5501098 2361 [some (.retAddr 2), some (.ref 0), some (.ref 26), some (.ref 36), some (dI i), none, none] [] h ce sl := by
  refine di_aload_n la_2361 rfl ?_
  obtain ⟨rc16, rc16a, rc16b, c16⟩ := I_cls hI
  refine dr_virt la_2362 rfl rfl rfl c16 (q_X6_isSound l hl hI) (by decide) (by omega) (by omega) (Nat.le_of_ble_eq_true rfl) kNSq (kISq (fun y17 h11 hI12 hF13 y17f y17a y17b => ?_))
  clear y17f
  have hS14 := CSt_FQ hS hF13
  have hM15 := MSt_FQ hM hF13
  refine dr_pop la_2365 rfl ?_
  refine di_aload_n la_2366 rfl ?_
  obtain ⟨nic23, c23, -⟩ := hM15.1
  refine dr_virt la_2367 rfl rfl rfl c23 (w_X8_isSound l hl hI12 ) (by decide) (by omega) (by omega) (Nat.le_of_ble_eq_true rfl) kNSt (kISt (fun y24 h18 hI19 hF20 y24f y24a y24b => ?_))
  clear y24f
  have hS21 := CSt_FT hS14 hI12 hF20
  obtain ⟨th25, hM22⟩ := MSt_FT hM15 hI12 hI19 hF20
  refine dr_pop la_2370 rfl ?_
  refine dr_goto la_2371 rfl ?_
  refine dm_cew (ce2 := ce + 1000) (sl2 := sl + 60000) (by omega) (by omega) ?_
  exact K _ _ _ _ _ hI19 hS21 hM22 (by omega)
set_option maxHeartbeats 4000000 in
set_option maxRecDepth 100000 in
theorem lw_c47 (l : Launch) (hl : l.stackTraces = false) {L : Nat} {xs : Nat → Int32} (hL : L ≤ 384) {kc : Int} {h : dm_H} {B : Int} {σ : St} {th : Int} (hI : Inv kc kc h) (hS : CSt B σ h) (hM : MSt kc th σ h) {i : Int} (hi0 : 0 ≤ i) (hi6 : i + 6 ≤ L) (hB : 6 * B ≤ 20 * i) {ce sl : Nat} (hce : ce + 1000 ≤ 1200128) (hsl : sl + 60000 ≤ 5501098) (K : lw_K l L xs i (ce + 1000) (sl + 60000)) : dm_W (lw_E L xs) lw_PL l 329 420 1200128 5501098 2374 [some (.retAddr 2), some (.ref 0), some (.ref 26), some (.ref 36), some (dI i), none, none] [] h ce sl := by
  refine di_aload_n la_2374 rfl ?_
  obtain ⟨rc16, rc16a, rc16b, c16⟩ := I_cls hI
  refine dr_virt la_2375 rfl rfl rfl c16 (q_X6_digest l hl hI) (by decide) (by omega) (by omega) (Nat.le_of_ble_eq_true rfl) kNSq (kLSq (fun y17 h11 hI12 hF13 => ?_))
  have hS14 := CSt_FQ hS hF13
  have hM15 := MSt_FQ hM hF13
  refine dr_pop2 la_2378 rfl ?_
  refine di_aload_n la_2379 rfl ?_
  obtain ⟨nic23, c23, -⟩ := hM15.1
  refine dr_virt la_2380 rfl rfl rfl c23 (w_X8_digest l hl hI12 ) (by decide) (by omega) (by omega) (Nat.le_of_ble_eq_true rfl) kNSt (kLSt (fun y24 h18 hI19 hF20 => ?_))
  have hS21 := CSt_FT hS14 hI12 hF20
  obtain ⟨th25, hM22⟩ := MSt_FT hM15 hI12 hI19 hF20
  refine dr_pop2 la_2383 rfl ?_
  refine dr_goto la_2384 rfl ?_
  refine dm_cew (ce2 := ce + 1000) (sl2 := sl + 60000) (by omega) (by omega) ?_
  exact K _ _ _ _ _ hI19 hS21 hM22 (by omega)
