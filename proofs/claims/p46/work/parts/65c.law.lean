set_option maxHeartbeats 4000000 in
set_option maxRecDepth 100000 in
theorem lw_c32 (l : Launch) (hl : l.stackTraces = false) {L : Nat} {xs : Nat → Int32} (hL : L ≤ 384) {kc : Int} {h : dm_H} {B : Int} {σ : St} {th : Int} (hI : Inv kc kc h) (hS : CSt B σ h) (hM : MSt kc th σ h) {i : Int} (hi0 : 0 ≤ i) (hi6 : i + 6 ≤ L) (hB : 6 * B ≤ 20 * i) {ce sl : Nat} (hce : ce + 2000 ≤ 1200128) (hsl : sl + 60000 ≤ 5501098) (K : lw_K l L xs i (ce + 2000) (sl + 60000)) : dm_W (lw_E L xs) lw_PL l 329 420 1200128 5501098 1748 [some (.retAddr 2), some (.ref 0), some (.ref 26), some (.ref 36), some (dI i), none, none] [] h ce sl := by
  obtain ⟨x1, x1a, x1b, x1e⟩ := sv_x xs (i + 1)
  obtain ⟨x2, x2a, x2b, x2e⟩ := sv_x xs (i + 2)
  refine di_aload_n la_1748 rfl ?_
  refine dr_aload_n la_1749 rfl (Or.inr (Or.inr ⟨_, rfl⟩)) ?_
  refine dr_iload la_1750 rfl ?_
  refine di_const la_1752 ?_
  refine di_iadd la_1753 ?_
  refine dr_xldE la_1754 (by omega) (by omega) hL x1e ?_
  refine dr_aload_n la_1755 rfl (Or.inr (Or.inr ⟨_, rfl⟩)) ?_
  refine dr_iload la_1756 rfl ?_
  refine di_const la_1758 ?_
  refine di_iadd la_1759 ?_
  refine dr_xldE la_1760 (by omega) (by omega) hL x2e ?_
  refine di_if_eq la_1761 rfl (by omega) (by omega) (fun cz11 => ?_) (fun cz11 => ?_)
  · skip
    refine di_const la_1768 ?_
    refine di_aload_n la_1769 rfl ?_
    refine dr_statH la_1770 rfl (by decide +kernel) rfl (w_L_text l hl hI (a1 := x1) (by omega) (by omega) (a2 := 0) (by omega) (by omega)) (by decide) (by omega) (by omega) (Nat.le_of_ble_eq_true rfl) kNSw (kISw (fun y17 h12 hI13 hF14 y17f y17a y17b => ?_))
    clear y17f
    have hS15 := CSt_FW hS hF14
    have hM16 := MSt_FW hM hF14
    refine di_istore (ls2 := [some (.retAddr 2), some (.ref 0), some (.ref 26), some (.ref 36), some (dI i), some (dI y17), none]) la_1773 rfl rfl ?_
    refine di_aload_n la_1775 rfl ?_
    refine dr_aload_n la_1776 rfl (Or.inr (Or.inr ⟨_, rfl⟩)) ?_
    refine dr_iload la_1777 rfl ?_
    refine di_const la_1779 ?_
    refine di_iadd la_1780 ?_
    refine dr_xldE la_1781 (by omega) (by omega) hL x1e ?_
    refine dr_aload_n la_1782 rfl (Or.inr (Or.inr ⟨_, rfl⟩)) ?_
    refine dr_iload la_1783 rfl ?_
    refine di_const la_1785 ?_
    refine di_iadd la_1786 ?_
    refine dr_xldE la_1787 (by omega) (by omega) hL x2e ?_
    refine di_if_eq la_1788 rfl (by omega) (by omega) (fun _ => ?_) (fun c9 => absurd cz11 c9)
    refine di_const la_1795 ?_
    obtain ⟨nic23, c23, -⟩ := hM16.1
    refine dr_virt la_1796 rfl rfl rfl c23 (w_X8_text l hl hI13 (a1 := x1) (by omega) (by omega) (a2 := 0) (by omega) (by omega)) (by decide) (by omega) (by omega) (Nat.le_of_ble_eq_true rfl) kNSt (kOSt (fun y24 h18 hI19 hF20 y24m => ?_))
    have hS21 := CSt_FT hS15 hI13 hF20
    obtain ⟨th25, hM22⟩ := MSt_FT hM16 hI13 hI19 hF20
    refine dr_astoreU la_1799 rfl y24m ?_
    show dm_W (lw_E L xs) lw_PL l 329 420 1200128 5501098 1801 [some (.retAddr 2), some (.ref 0), some (.ref 26), some (.ref 36), some (dI i), some (dI y17), some (y24)] [] h18 ((ce + 59) + 58) ((sl + 22030) + 22024)
    clear y24m
    refine dr_goto la_1801 rfl ?_
    refine dm_wk (ls2 := [some (.retAddr 2), some (.ref 0), some (.ref 26), some (.ref 36), some (dI i), none, none]) ⟨Or.inr rfl, Or.inr rfl, Or.inr rfl, Or.inr rfl, Or.inr rfl, Or.inl rfl, Or.inl rfl, trivial⟩ ?_
    refine dm_cew (ce2 := ce + 2000) (sl2 := sl + 60000) (by omega) (by omega) ?_
    exact K _ _ _ _ _ hI19 hS21 hM22 (by omega)
  · skip
    refine di_const la_1764 ?_
    refine dr_goto la_1765 rfl ?_
    refine di_aload_n la_1769 rfl ?_
    refine dr_statH la_1770 rfl (by decide +kernel) rfl (w_L_text l hl hI (a1 := x1) (by omega) (by omega) (a2 := 1) (by omega) (by omega)) (by decide) (by omega) (by omega) (Nat.le_of_ble_eq_true rfl) kNSw (kISw (fun y31 h26 hI27 hF28 y31f y31a y31b => ?_))
    clear y31f
    have hS29 := CSt_FW hS hF28
    have hM30 := MSt_FW hM hF28
    refine di_istore (ls2 := [some (.retAddr 2), some (.ref 0), some (.ref 26), some (.ref 36), some (dI i), some (dI y31), none]) la_1773 rfl rfl ?_
    refine di_aload_n la_1775 rfl ?_
    refine dr_aload_n la_1776 rfl (Or.inr (Or.inr ⟨_, rfl⟩)) ?_
    refine dr_iload la_1777 rfl ?_
    refine di_const la_1779 ?_
    refine di_iadd la_1780 ?_
    refine dr_xldE la_1781 (by omega) (by omega) hL x1e ?_
    refine dr_aload_n la_1782 rfl (Or.inr (Or.inr ⟨_, rfl⟩)) ?_
    refine dr_iload la_1783 rfl ?_
    refine di_const la_1785 ?_
    refine di_iadd la_1786 ?_
    refine dr_xldE la_1787 (by omega) (by omega) hL x2e ?_
    refine di_if_eq la_1788 rfl (by omega) (by omega) (fun c9 => absurd c9 cz11) (fun _ => ?_)
    refine di_const la_1791 ?_
    refine dr_goto la_1792 rfl ?_
    obtain ⟨nic37, c37, -⟩ := hM30.1
    refine dr_virt la_1796 rfl rfl rfl c37 (w_X8_text l hl hI27 (a1 := x1) (by omega) (by omega) (a2 := 1) (by omega) (by omega)) (by decide) (by omega) (by omega) (Nat.le_of_ble_eq_true rfl) kNSt (kOSt (fun y38 h32 hI33 hF34 y38m => ?_))
    have hS35 := CSt_FT hS29 hI27 hF34
    obtain ⟨th39, hM36⟩ := MSt_FT hM30 hI27 hI33 hF34
    refine dr_astoreU la_1799 rfl y38m ?_
    show dm_W (lw_E L xs) lw_PL l 329 420 1200128 5501098 1801 [some (.retAddr 2), some (.ref 0), some (.ref 26), some (.ref 36), some (dI i), some (dI y31), some (y38)] [] h32 ((ce + 59) + 58) ((sl + 22030) + 22024)
    clear y38m
    refine dr_goto la_1801 rfl ?_
    refine dm_wk (ls2 := [some (.retAddr 2), some (.ref 0), some (.ref 26), some (.ref 36), some (dI i), none, none]) ⟨Or.inr rfl, Or.inr rfl, Or.inr rfl, Or.inr rfl, Or.inr rfl, Or.inl rfl, Or.inl rfl, trivial⟩ ?_
    refine dm_cew (ce2 := ce + 2000) (sl2 := sl + 60000) (by omega) (by omega) ?_
    exact K _ _ _ _ _ hI33 hS35 hM36 (by omega)
set_option maxHeartbeats 4000000 in
set_option maxRecDepth 100000 in
theorem lw_c33 (l : Launch) (hl : l.stackTraces = false) {L : Nat} {xs : Nat → Int32} (hL : L ≤ 384) {kc : Int} {h : dm_H} {B : Int} {σ : St} {th : Int} (hI : Inv kc kc h) (hS : CSt B σ h) (hM : MSt kc th σ h) {i : Int} (hi0 : 0 ≤ i) (hi6 : i + 6 ≤ L) (hB : 6 * B ≤ 20 * i) {ce sl : Nat} (hce : ce + 2000 ≤ 1200128) (hsl : sl + 60000 ≤ 5501098) (K : lw_K l L xs i (ce + 2000) (sl + 60000)) : dm_W (lw_E L xs) lw_PL l 329 420 1200128 5501098 1804 [some (.retAddr 2), some (.ref 0), some (.ref 26), some (.ref 36), some (dI i), none, none] [] h ce sl := by
  obtain ⟨x1, x1a, x1b, x1e⟩ := sv_x xs (i + 1)
  obtain ⟨x2, x2a, x2b, x2e⟩ := sv_x xs (i + 2)
  refine di_aload_n la_1804 rfl ?_
  refine dr_aload_n la_1805 rfl (Or.inr (Or.inr ⟨_, rfl⟩)) ?_
  refine dr_iload la_1806 rfl ?_
  refine di_const la_1808 ?_
  refine di_iadd la_1809 ?_
  refine dr_xldE la_1810 (by omega) (by omega) hL x1e ?_
  refine dr_aload_n la_1811 rfl (Or.inr (Or.inr ⟨_, rfl⟩)) ?_
  refine dr_iload la_1812 rfl ?_
  refine di_const la_1814 ?_
  refine di_iadd la_1815 ?_
  refine dr_xldE la_1816 (by omega) (by omega) hL x2e ?_
  refine di_aload_n la_1817 rfl ?_
  refine dr_statH la_1818 rfl (by decide +kernel) rfl (t_L_areSame l hl hI hS (by omega) (a1 := x1) (by omega) (by omega) (a2 := x2) (by omega) (by omega)) (by decide) (by omega) (by omega) (Nat.le_of_ble_eq_true rfl) kQLN (kQL (fun h11 hI12 hF13 hS14 hq16 ho17 => ?_))
  have hM15 := MSt_FL hM hF13
  refine di_istore (ls2 := [some (.retAddr 2), some (.ref 0), some (.ref 26), some (.ref 36), some (dI i), some (dI (spAreSame σ x1 x2).1), none]) la_1821 rfl rfl ?_
  refine di_aload_n la_1823 rfl ?_
  refine dr_aload_n la_1824 rfl (Or.inr (Or.inr ⟨_, rfl⟩)) ?_
  refine dr_iload la_1825 rfl ?_
  refine di_const la_1827 ?_
  refine di_iadd la_1828 ?_
  refine dr_xldE la_1829 (by omega) (by omega) hL x1e ?_
  refine dr_aload_n la_1830 rfl (Or.inr (Or.inr ⟨_, rfl⟩)) ?_
  refine dr_iload la_1831 rfl ?_
  refine di_const la_1833 ?_
  refine di_iadd la_1834 ?_
  refine dr_xldE la_1835 (by omega) (by omega) hL x2e ?_
  obtain ⟨nic23, c23, -⟩ := hM15.1
  refine dr_virt la_1836 rfl rfl rfl c23 (n_X8_areSame l hl hI12 hM15 (a1 := x1) (by omega) (by omega) (a2 := x2) (by omega) (by omega) ) (by decide) (by omega) (by omega) (Nat.le_of_ble_eq_true rfl) kQM9N (kQM9 (fun a24 h18 hI19 hF20 hM22 a24a a24b a24e => ?_))
  have hS21 := CSt_FrM2 hS14 hF20
  refine di_istore (ls2 := [some (.retAddr 2), some (.ref 0), some (.ref 26), some (.ref 36), some (dI i), some (dI (spAreSame σ x1 x2).1), some (dI a24)]) la_1839 rfl rfl ?_
  refine dr_goto la_1841 rfl ?_
  refine dm_wk (ls2 := [some (.retAddr 2), some (.ref 0), some (.ref 26), some (.ref 36), some (dI i), none, none]) ⟨Or.inr rfl, Or.inr rfl, Or.inr rfl, Or.inr rfl, Or.inr rfl, Or.inl rfl, Or.inl rfl, trivial⟩ ?_
  refine dm_cew (ce2 := ce + 2000) (sl2 := sl + 60000) (by omega) (by omega) ?_
  exact K _ _ _ _ _ hI19 hS21 hM22 (by omega)
set_option maxHeartbeats 4000000 in
set_option maxRecDepth 100000 in
theorem lw_c34 (l : Launch) (hl : l.stackTraces = false) {L : Nat} {xs : Nat → Int32} (hL : L ≤ 384) {kc : Int} {h : dm_H} {B : Int} {σ : St} {th : Int} (hI : Inv kc kc h) (hS : CSt B σ h) (hM : MSt kc th σ h) {i : Int} (hi0 : 0 ≤ i) (hi6 : i + 6 ≤ L) (hB : 6 * B ≤ 20 * i) {ce sl : Nat} (hce : ce + 2000 ≤ 1200128) (hsl : sl + 60000 ≤ 5501098) (K : lw_K l L xs i (ce + 2000) (sl + 60000)) : dm_W (lw_E L xs) lw_PL l 329 420 1200128 5501098 1844 [some (.retAddr 2), some (.ref 0), some (.ref 26), some (.ref 36), some (dI i), none, none] [] h ce sl := by
  obtain ⟨x1, x1a, x1b, x1e⟩ := sv_x xs (i + 1)
  refine di_aload_n la_1844 rfl ?_
  refine dr_aload_n la_1845 rfl (Or.inr (Or.inr ⟨_, rfl⟩)) ?_
  refine dr_iload la_1846 rfl ?_
  refine di_const la_1848 ?_
  refine di_iadd la_1849 ?_
  refine dr_xldE la_1850 (by omega) (by omega) hL x1e ?_
  refine di_aload_n la_1851 rfl ?_
  refine dr_statH la_1852 rfl (by decide +kernel) rfl (t_L_most l hl hI hS (by omega) (a1 := x1) (by omega) (by omega)) (by decide) (by omega) (by omega) (Nat.le_of_ble_eq_true rfl) kQLN (kQL (fun h11 hI12 hF13 hS14 hq16 ho17 => ?_))
  have hM15 := MSt_FL hM hF13
  refine di_istore (ls2 := [some (.retAddr 2), some (.ref 0), some (.ref 26), some (.ref 36), some (dI i), some (dI (spMost σ x1).1), none]) la_1855 rfl rfl ?_
  refine di_aload_n la_1857 rfl ?_
  refine dr_aload_n la_1858 rfl (Or.inr (Or.inr ⟨_, rfl⟩)) ?_
  refine dr_iload la_1859 rfl ?_
  refine di_const la_1861 ?_
  refine di_iadd la_1862 ?_
  refine dr_xldE la_1863 (by omega) (by omega) hL x1e ?_
  obtain ⟨nic23, c23, -⟩ := hM15.1
  refine dr_virt la_1864 rfl rfl rfl c23 (n_X8_most l hl hI12 hM15 (a1 := x1) (by omega) (by omega) ) (by decide) (by omega) (by omega) (Nat.le_of_ble_eq_true rfl) kQM9N (kQM9 (fun a24 h18 hI19 hF20 hM22 a24a a24b a24e => ?_))
  have hS21 := CSt_FrM2 hS14 hF20
  refine di_istore (ls2 := [some (.retAddr 2), some (.ref 0), some (.ref 26), some (.ref 36), some (dI i), some (dI (spMost σ x1).1), some (dI a24)]) la_1867 rfl rfl ?_
  refine dr_goto la_1869 rfl ?_
  refine dm_wk (ls2 := [some (.retAddr 2), some (.ref 0), some (.ref 26), some (.ref 36), some (dI i), none, none]) ⟨Or.inr rfl, Or.inr rfl, Or.inr rfl, Or.inr rfl, Or.inr rfl, Or.inl rfl, Or.inl rfl, trivial⟩ ?_
  refine dm_cew (ce2 := ce + 2000) (sl2 := sl + 60000) (by omega) (by omega) ?_
  exact K _ _ _ _ _ hI19 hS21 hM22 (by omega)
set_option maxHeartbeats 4000000 in
set_option maxRecDepth 100000 in
theorem lw_c35 (l : Launch) (hl : l.stackTraces = false) {L : Nat} {xs : Nat → Int32} (hL : L ≤ 384) {kc : Int} {h : dm_H} {B : Int} {σ : St} {th : Int} (hI : Inv kc kc h) (hS : CSt B σ h) (hM : MSt kc th σ h) {i : Int} (hi0 : 0 ≤ i) (hi6 : i + 6 ≤ L) (hB : 6 * B ≤ 20 * i) {ce sl : Nat} (hce : ce + 2000 ≤ 1200128) (hsl : sl + 60000 ≤ 5501098) (K : lw_K l L xs i (ce + 2000) (sl + 60000)) : dm_W (lw_E L xs) lw_PL l 329 420 1200128 5501098 1872 [some (.retAddr 2), some (.ref 0), some (.ref 26), some (.ref 36), some (dI i), none, none] [] h ce sl := by
  obtain ⟨x1, x1a, x1b, x1e⟩ := sv_x xs (i + 1)
  obtain ⟨x2, x2a, x2b, x2e⟩ := sv_x xs (i + 2)
  refine di_aload_n la_1872 rfl ?_
  refine dr_aload_n la_1873 rfl (Or.inr (Or.inr ⟨_, rfl⟩)) ?_
  refine dr_iload la_1874 rfl ?_
  refine di_const la_1876 ?_
  refine di_iadd la_1877 ?_
  refine dr_xldE la_1878 (by omega) (by omega) hL x1e ?_
  refine dr_aload_n la_1879 rfl (Or.inr (Or.inr ⟨_, rfl⟩)) ?_
  refine dr_iload la_1880 rfl ?_
  refine di_const la_1882 ?_
  refine di_iadd la_1883 ?_
  refine dr_xldE la_1884 (by omega) (by omega) hL x2e ?_
  refine di_aload_n la_1885 rfl ?_
  refine dr_statH la_1886 rfl (by decide +kernel) rfl (t_L_chosen l hl hI hS (by omega) (a1 := x1) (by omega) (by omega) (a2 := x2) (by omega) (by omega)) (by decide) (by omega) (by omega) (Nat.le_of_ble_eq_true rfl) kQLN (kQL (fun h11 hI12 hF13 hS14 hq16 ho17 => ?_))
  have hM15 := MSt_FL hM hF13
  refine di_istore (ls2 := [some (.retAddr 2), some (.ref 0), some (.ref 26), some (.ref 36), some (dI i), some (dI (spChosen σ x1 x2).1), none]) la_1889 rfl rfl ?_
  refine di_aload_n la_1891 rfl ?_
  refine dr_aload_n la_1892 rfl (Or.inr (Or.inr ⟨_, rfl⟩)) ?_
  refine dr_iload la_1893 rfl ?_
  refine di_const la_1895 ?_
  refine di_iadd la_1896 ?_
  refine dr_xldE la_1897 (by omega) (by omega) hL x1e ?_
  refine dr_aload_n la_1898 rfl (Or.inr (Or.inr ⟨_, rfl⟩)) ?_
  refine dr_iload la_1899 rfl ?_
  refine di_const la_1901 ?_
  refine di_iadd la_1902 ?_
  refine dr_xldE la_1903 (by omega) (by omega) hL x2e ?_
  obtain ⟨nic23, c23, -⟩ := hM15.1
  refine dr_virt la_1904 rfl rfl rfl c23 (n_X8_chosen l hl hI12 hM15 (a1 := x1) (by omega) (by omega) (a2 := x2) (by omega) (by omega) ) (by decide) (by omega) (by omega) (Nat.le_of_ble_eq_true rfl) kQM9N (kQM9 (fun a24 h18 hI19 hF20 hM22 a24a a24b a24e => ?_))
  have hS21 := CSt_FrM2 hS14 hF20
  refine di_istore (ls2 := [some (.retAddr 2), some (.ref 0), some (.ref 26), some (.ref 36), some (dI i), some (dI (spChosen σ x1 x2).1), some (dI a24)]) la_1907 rfl rfl ?_
  refine dr_goto la_1909 rfl ?_
  refine dm_wk (ls2 := [some (.retAddr 2), some (.ref 0), some (.ref 26), some (.ref 36), some (dI i), none, none]) ⟨Or.inr rfl, Or.inr rfl, Or.inr rfl, Or.inr rfl, Or.inr rfl, Or.inl rfl, Or.inl rfl, trivial⟩ ?_
  refine dm_cew (ce2 := ce + 2000) (sl2 := sl + 60000) (by omega) (by omega) ?_
  exact K _ _ _ _ _ hI19 hS21 hM22 (by omega)
set_option maxHeartbeats 4000000 in
set_option maxRecDepth 100000 in
theorem lw_c36 (l : Launch) (hl : l.stackTraces = false) {L : Nat} {xs : Nat → Int32} (hL : L ≤ 384) {kc : Int} {h : dm_H} {B : Int} {σ : St} {th : Int} (hI : Inv kc kc h) (hS : CSt B σ h) (hM : MSt kc th σ h) {i : Int} (hi0 : 0 ≤ i) (hi6 : i + 6 ≤ L) (hB : 6 * B ≤ 20 * i) {ce sl : Nat} (hce : ce + 2000 ≤ 1200128) (hsl : sl + 60000 ≤ 5501098) (K : lw_K l L xs i (ce + 2000) (sl + 60000)) : dm_W (lw_E L xs) lw_PL l 329 420 1200128 5501098 1912 [some (.retAddr 2), some (.ref 0), some (.ref 26), some (.ref 36), some (dI i), none, none] [] h ce sl := by
  obtain ⟨x1, x1a, x1b, x1e⟩ := sv_x xs (i + 1)
  obtain ⟨x2, x2a, x2b, x2e⟩ := sv_x xs (i + 2)
  refine di_aload_n la_1912 rfl ?_
  refine dr_aload_n la_1913 rfl (Or.inr (Or.inr ⟨_, rfl⟩)) ?_
  refine dr_iload la_1914 rfl ?_
  refine di_const la_1916 ?_
  refine di_iadd la_1917 ?_
  refine dr_xldE la_1918 (by omega) (by omega) hL x1e ?_
  refine dr_aload_n la_1919 rfl (Or.inr (Or.inr ⟨_, rfl⟩)) ?_
  refine dr_iload la_1920 rfl ?_
  refine di_const la_1922 ?_
  refine di_iadd la_1923 ?_
  refine dr_xldE la_1924 (by omega) (by omega) hL x2e ?_
  refine di_aload_n la_1925 rfl ?_
  refine dr_statH la_1926 rfl (by decide +kernel) rfl (t_L_choice l hl hI hS (by omega) (a1 := x1) (by omega) (by omega) (a2 := x2) (by omega) (by omega)) (by decide) (by omega) (by omega) (Nat.le_of_ble_eq_true rfl) kQLN (kQL (fun h11 hI12 hF13 hS14 hq16 ho17 => ?_))
  have hM15 := MSt_FL hM hF13
  refine di_istore (ls2 := [some (.retAddr 2), some (.ref 0), some (.ref 26), some (.ref 36), some (dI i), some (dI (spChoice σ x1 x2).1), none]) la_1929 rfl rfl ?_
  refine di_aload_n la_1931 rfl ?_
  refine dr_aload_n la_1932 rfl (Or.inr (Or.inr ⟨_, rfl⟩)) ?_
  refine dr_iload la_1933 rfl ?_
  refine di_const la_1935 ?_
  refine di_iadd la_1936 ?_
  refine dr_xldE la_1937 (by omega) (by omega) hL x1e ?_
  refine dr_aload_n la_1938 rfl (Or.inr (Or.inr ⟨_, rfl⟩)) ?_
  refine dr_iload la_1939 rfl ?_
  refine di_const la_1941 ?_
  refine di_iadd la_1942 ?_
  refine dr_xldE la_1943 (by omega) (by omega) hL x2e ?_
  obtain ⟨nic23, c23, -⟩ := hM15.1
  refine dr_virt la_1944 rfl rfl rfl c23 (n_X8_choice l hl hI12 hM15 (a1 := x1) (by omega) (by omega) (a2 := x2) (by omega) (by omega) (CSt_sSt hS)) (by decide) (by omega) (by omega) (Nat.le_of_ble_eq_true rfl) kQMAN (kQMA9 (fun a24 h18 hI19 hF20 hM22 a24a a24b a24e => ?_))
  have hS21 := CSt_FrN hS14 hI12 hF20
  refine di_istore (ls2 := [some (.retAddr 2), some (.ref 0), some (.ref 26), some (.ref 36), some (dI i), some (dI (spChoice σ x1 x2).1), some (dI a24)]) la_1947 rfl rfl ?_
  refine dr_goto la_1949 rfl ?_
  refine dm_wk (ls2 := [some (.retAddr 2), some (.ref 0), some (.ref 26), some (.ref 36), some (dI i), none, none]) ⟨Or.inr rfl, Or.inr rfl, Or.inr rfl, Or.inr rfl, Or.inr rfl, Or.inl rfl, Or.inl rfl, trivial⟩ ?_
  refine dm_cew (ce2 := ce + 2000) (sl2 := sl + 60000) (by omega) (by omega) ?_
  exact K _ _ _ _ _ hI19 hS21 hM22 (by omega)
set_option maxHeartbeats 4000000 in
set_option maxRecDepth 100000 in
theorem lw_c37 (l : Launch) (hl : l.stackTraces = false) {L : Nat} {xs : Nat → Int32} (hL : L ≤ 384) {kc : Int} {h : dm_H} {B : Int} {σ : St} {th : Int} (hI : Inv kc kc h) (hS : CSt B σ h) (hM : MSt kc th σ h) {i : Int} (hi0 : 0 ≤ i) (hi6 : i + 6 ≤ L) (hB : 6 * B ≤ 20 * i) {ce sl : Nat} (hce : ce + 2000 ≤ 1200128) (hsl : sl + 60000 ≤ 5501098) (K : lw_K l L xs i (ce + 2000) (sl + 60000)) : dm_W (lw_E L xs) lw_PL l 329 420 1200128 5501098 1952 [some (.retAddr 2), some (.ref 0), some (.ref 26), some (.ref 36), some (dI i), none, none] [] h ce sl := by
  obtain ⟨x1, x1a, x1b, x1e⟩ := sv_x xs (i + 1)
  obtain ⟨x2, x2a, x2b, x2e⟩ := sv_x xs (i + 2)
  refine di_aload_n la_1952 rfl ?_
  refine dr_aload_n la_1953 rfl (Or.inr (Or.inr ⟨_, rfl⟩)) ?_
  refine dr_iload la_1954 rfl ?_
  refine di_const la_1956 ?_
  refine di_iadd la_1957 ?_
  refine dr_xldE la_1958 (by omega) (by omega) hL x1e ?_
  refine dr_aload_n la_1959 rfl (Or.inr (Or.inr ⟨_, rfl⟩)) ?_
  refine dr_iload la_1960 rfl ?_
  refine di_const la_1962 ?_
  refine di_iadd la_1963 ?_
  refine dr_xldE la_1964 (by omega) (by omega) hL x2e ?_
  refine di_aload_n la_1965 rfl ?_
  refine dr_statH la_1966 rfl (by decide +kernel) rfl (t_L_unheld l hl hI hS (by omega) (a1 := x1) (by omega) (by omega) (a2 := x2) (by omega) (by omega)) (by decide) (by omega) (by omega) (Nat.le_of_ble_eq_true rfl) kQLN (kQL (fun h11 hI12 hF13 hS14 hq16 ho17 => ?_))
  have hM15 := MSt_FL hM hF13
  refine di_istore (ls2 := [some (.retAddr 2), some (.ref 0), some (.ref 26), some (.ref 36), some (dI i), some (dI (spUnheld σ x1 x2).1), none]) la_1969 rfl rfl ?_
  refine di_aload_n la_1971 rfl ?_
  refine dr_aload_n la_1972 rfl (Or.inr (Or.inr ⟨_, rfl⟩)) ?_
  refine dr_iload la_1973 rfl ?_
  refine di_const la_1975 ?_
  refine di_iadd la_1976 ?_
  refine dr_xldE la_1977 (by omega) (by omega) hL x1e ?_
  refine dr_aload_n la_1978 rfl (Or.inr (Or.inr ⟨_, rfl⟩)) ?_
  refine dr_iload la_1979 rfl ?_
  refine di_const la_1981 ?_
  refine di_iadd la_1982 ?_
  refine dr_xldE la_1983 (by omega) (by omega) hL x2e ?_
  obtain ⟨nic23, c23, -⟩ := hM15.1
  refine dr_virt la_1984 rfl rfl rfl c23 (n_X8_unheld l hl hI12 hM15 (a1 := x1) (by omega) (by omega) (a2 := x2) (by omega) (by omega) (CSt_sSt hS)) (by decide) (by omega) (by omega) (Nat.le_of_ble_eq_true rfl) kQMAN (kQMA9 (fun a24 h18 hI19 hF20 hM22 a24a a24b a24e => ?_))
  have hS21 := CSt_FrN hS14 hI12 hF20
  refine di_istore (ls2 := [some (.retAddr 2), some (.ref 0), some (.ref 26), some (.ref 36), some (dI i), some (dI (spUnheld σ x1 x2).1), some (dI a24)]) la_1987 rfl rfl ?_
  refine dr_goto la_1989 rfl ?_
  refine dm_wk (ls2 := [some (.retAddr 2), some (.ref 0), some (.ref 26), some (.ref 36), some (dI i), none, none]) ⟨Or.inr rfl, Or.inr rfl, Or.inr rfl, Or.inr rfl, Or.inr rfl, Or.inl rfl, Or.inl rfl, trivial⟩ ?_
  refine dm_cew (ce2 := ce + 2000) (sl2 := sl + 60000) (by omega) (by omega) ?_
  exact K _ _ _ _ _ hI19 hS21 hM22 (by omega)
set_option maxHeartbeats 4000000 in
set_option maxRecDepth 100000 in
theorem lw_c38 (l : Launch) (hl : l.stackTraces = false) {L : Nat} {xs : Nat → Int32} (hL : L ≤ 384) {kc : Int} {h : dm_H} {B : Int} {σ : St} {th : Int} (hI : Inv kc kc h) (hS : CSt B σ h) (hM : MSt kc th σ h) {i : Int} (hi0 : 0 ≤ i) (hi6 : i + 6 ≤ L) (hB : 6 * B ≤ 20 * i) {ce sl : Nat} (hce : ce + 2000 ≤ 1200128) (hsl : sl + 60000 ≤ 5501098) (K : lw_K l L xs i (ce + 2000) (sl + 60000)) : dm_W (lw_E L xs) lw_PL l 329 420 1200128 5501098 1992 [some (.retAddr 2), some (.ref 0), some (.ref 26), some (.ref 36), some (dI i), none, none] [] h ce sl := by
  obtain ⟨x1, x1a, x1b, x1e⟩ := sv_x xs (i + 1)
  obtain ⟨x2, x2a, x2b, x2e⟩ := sv_x xs (i + 2)
  refine di_aload_n la_1992 rfl ?_
  refine dr_aload_n la_1993 rfl (Or.inr (Or.inr ⟨_, rfl⟩)) ?_
  refine dr_iload la_1994 rfl ?_
  refine di_const la_1996 ?_
  refine di_iadd la_1997 ?_
  refine dr_xldE la_1998 (by omega) (by omega) hL x1e ?_
  refine dr_aload_n la_1999 rfl (Or.inr (Or.inr ⟨_, rfl⟩)) ?_
  refine dr_iload la_2000 rfl ?_
  refine di_const la_2002 ?_
  refine di_iadd la_2003 ?_
  refine dr_xldE la_2004 (by omega) (by omega) hL x2e ?_
  refine di_aload_n la_2005 rfl ?_
  refine dr_statH la_2006 rfl (by decide +kernel) rfl (t_L_holders l hl hI hS (by omega) (a1 := x1) (by omega) (by omega) (a2 := x2) (by omega) (by omega)) (by decide) (by omega) (by omega) (Nat.le_of_ble_eq_true rfl) kQLN (kQL (fun h11 hI12 hF13 hS14 hq16 ho17 => ?_))
  have hM15 := MSt_FL hM hF13
  refine di_istore (ls2 := [some (.retAddr 2), some (.ref 0), some (.ref 26), some (.ref 36), some (dI i), some (dI (spHolders σ x1 x2).1), none]) la_2009 rfl rfl ?_
  refine di_aload_n la_2011 rfl ?_
  refine dr_aload_n la_2012 rfl (Or.inr (Or.inr ⟨_, rfl⟩)) ?_
  refine dr_iload la_2013 rfl ?_
  refine di_const la_2015 ?_
  refine di_iadd la_2016 ?_
  refine dr_xldE la_2017 (by omega) (by omega) hL x1e ?_
  refine dr_aload_n la_2018 rfl (Or.inr (Or.inr ⟨_, rfl⟩)) ?_
  refine dr_iload la_2019 rfl ?_
  refine di_const la_2021 ?_
  refine di_iadd la_2022 ?_
  refine dr_xldE la_2023 (by omega) (by omega) hL x2e ?_
  obtain ⟨nic23, c23, -⟩ := hM15.1
  refine dr_virt la_2024 rfl rfl rfl c23 (n_X8_holders l hl hI12 hM15 (a1 := x1) (by omega) (by omega) (a2 := x2) (by omega) (by omega) (CSt_sSt hS)) (by decide) (by omega) (by omega) (Nat.le_of_ble_eq_true rfl) kQM9N (kQM9 (fun a24 h18 hI19 hF20 hM22 a24a a24b a24e => ?_))
  have hS21 := CSt_FrM2 hS14 hF20
  refine di_istore (ls2 := [some (.retAddr 2), some (.ref 0), some (.ref 26), some (.ref 36), some (dI i), some (dI (spHolders σ x1 x2).1), some (dI a24)]) la_2027 rfl rfl ?_
  refine dr_goto la_2029 rfl ?_
  refine dm_wk (ls2 := [some (.retAddr 2), some (.ref 0), some (.ref 26), some (.ref 36), some (dI i), none, none]) ⟨Or.inr rfl, Or.inr rfl, Or.inr rfl, Or.inr rfl, Or.inr rfl, Or.inl rfl, Or.inl rfl, trivial⟩ ?_
  refine dm_cew (ce2 := ce + 2000) (sl2 := sl + 60000) (by omega) (by omega) ?_
  exact K _ _ _ _ _ hI19 hS21 hM22 (by omega)
set_option maxHeartbeats 4000000 in
set_option maxRecDepth 100000 in
theorem lw_c39 (l : Launch) (hl : l.stackTraces = false) {L : Nat} {xs : Nat → Int32} (hL : L ≤ 384) {kc : Int} {h : dm_H} {B : Int} {σ : St} {th : Int} (hI : Inv kc kc h) (hS : CSt B σ h) (hM : MSt kc th σ h) {i : Int} (hi0 : 0 ≤ i) (hi6 : i + 6 ≤ L) (hB : 6 * B ≤ 20 * i) {ce sl : Nat} (hce : ce + 2000 ≤ 1200128) (hsl : sl + 60000 ≤ 5501098) (K : lw_K l L xs i (ce + 2000) (sl + 60000)) : dm_W (lw_E L xs) lw_PL l 329 420 1200128 5501098 2032 [some (.retAddr 2), some (.ref 0), some (.ref 26), some (.ref 36), some (dI i), none, none] [] h ce sl := by
  obtain ⟨x1, x1a, x1b, x1e⟩ := sv_x xs (i + 1)
  obtain ⟨x2, x2a, x2b, x2e⟩ := sv_x xs (i + 2)
  refine di_aload_n la_2032 rfl ?_
  refine dr_aload_n la_2033 rfl (Or.inr (Or.inr ⟨_, rfl⟩)) ?_
  refine dr_iload la_2034 rfl ?_
  refine di_const la_2036 ?_
  refine di_iadd la_2037 ?_
  refine dr_xldE la_2038 (by omega) (by omega) hL x1e ?_
  refine dr_aload_n la_2039 rfl (Or.inr (Or.inr ⟨_, rfl⟩)) ?_
  refine dr_iload la_2040 rfl ?_
  refine di_const la_2042 ?_
  refine di_iadd la_2043 ?_
  refine dr_xldE la_2044 (by omega) (by omega) hL x2e ?_
  refine di_if_eq la_2045 rfl (by omega) (by omega) (fun cz11 => ?_) (fun cz11 => ?_)
  · skip
    refine di_const la_2052 ?_
    refine di_aload_n la_2053 rfl ?_
    refine dr_statH la_2054 rfl (by decide +kernel) rfl (t_L_deepest l hl hI hS (by omega) (a1 := x1) (by omega) (by omega) (a2 := 0) (by omega) (by omega)) (by decide) (by omega) (by omega) (Nat.le_of_ble_eq_true rfl) kQLN (kQL (fun h12 hI13 hF14 hS15 hq17 ho18 => ?_))
    have hM16 := MSt_FL hM hF14
    refine di_istore (ls2 := [some (.retAddr 2), some (.ref 0), some (.ref 26), some (.ref 36), some (dI i), some (dI (spDeepest σ x1 0).1), none]) la_2057 rfl rfl ?_
    refine di_aload_n la_2059 rfl ?_
    refine dr_aload_n la_2060 rfl (Or.inr (Or.inr ⟨_, rfl⟩)) ?_
    refine dr_iload la_2061 rfl ?_
    refine di_const la_2063 ?_
    refine di_iadd la_2064 ?_
    refine dr_xldE la_2065 (by omega) (by omega) hL x1e ?_
    refine dr_aload_n la_2066 rfl (Or.inr (Or.inr ⟨_, rfl⟩)) ?_
    refine dr_iload la_2067 rfl ?_
    refine di_const la_2069 ?_
    refine di_iadd la_2070 ?_
    refine dr_xldE la_2071 (by omega) (by omega) hL x2e ?_
    refine di_if_eq la_2072 rfl (by omega) (by omega) (fun _ => ?_) (fun c9 => absurd cz11 c9)
    refine di_const la_2079 ?_
    obtain ⟨nic24, c24, -⟩ := hM16.1
    refine dr_virt la_2080 rfl rfl rfl c24 (n_X8_deepest l hl hI13 hM16 (a1 := x1) (by omega) (by omega) (a2 := 0) (by omega) (by omega) ) (by decide) (by omega) (by omega) (Nat.le_of_ble_eq_true rfl) kQM9N (kQM9 (fun a25 h19 hI20 hF21 hM23 a25a a25b a25e => ?_))
    have hS22 := CSt_FrM2 hS15 hF21
    refine di_istore (ls2 := [some (.retAddr 2), some (.ref 0), some (.ref 26), some (.ref 36), some (dI i), some (dI (spDeepest σ x1 0).1), some (dI a25)]) la_2083 rfl rfl ?_
    refine dr_goto la_2085 rfl ?_
    refine dm_wk (ls2 := [some (.retAddr 2), some (.ref 0), some (.ref 26), some (.ref 36), some (dI i), none, none]) ⟨Or.inr rfl, Or.inr rfl, Or.inr rfl, Or.inr rfl, Or.inr rfl, Or.inl rfl, Or.inl rfl, trivial⟩ ?_
    refine dm_cew (ce2 := ce + 2000) (sl2 := sl + 60000) (by omega) (by omega) ?_
    exact K _ _ _ _ _ hI20 hS22 hM23 (by omega)
  · skip
    refine di_const la_2048 ?_
    refine dr_goto la_2049 rfl ?_
    refine di_aload_n la_2053 rfl ?_
    refine dr_statH la_2054 rfl (by decide +kernel) rfl (t_L_deepest l hl hI hS (by omega) (a1 := x1) (by omega) (by omega) (a2 := 1) (by omega) (by omega)) (by decide) (by omega) (by omega) (Nat.le_of_ble_eq_true rfl) kQLN (kQL (fun h26 hI27 hF28 hS29 hq31 ho32 => ?_))
    have hM30 := MSt_FL hM hF28
    refine di_istore (ls2 := [some (.retAddr 2), some (.ref 0), some (.ref 26), some (.ref 36), some (dI i), some (dI (spDeepest σ x1 1).1), none]) la_2057 rfl rfl ?_
    refine di_aload_n la_2059 rfl ?_
    refine dr_aload_n la_2060 rfl (Or.inr (Or.inr ⟨_, rfl⟩)) ?_
    refine dr_iload la_2061 rfl ?_
    refine di_const la_2063 ?_
    refine di_iadd la_2064 ?_
    refine dr_xldE la_2065 (by omega) (by omega) hL x1e ?_
    refine dr_aload_n la_2066 rfl (Or.inr (Or.inr ⟨_, rfl⟩)) ?_
    refine dr_iload la_2067 rfl ?_
    refine di_const la_2069 ?_
    refine di_iadd la_2070 ?_
    refine dr_xldE la_2071 (by omega) (by omega) hL x2e ?_
    refine di_if_eq la_2072 rfl (by omega) (by omega) (fun c9 => absurd c9 cz11) (fun _ => ?_)
    refine di_const la_2075 ?_
    refine dr_goto la_2076 rfl ?_
    obtain ⟨nic38, c38, -⟩ := hM30.1
    refine dr_virt la_2080 rfl rfl rfl c38 (n_X8_deepest l hl hI27 hM30 (a1 := x1) (by omega) (by omega) (a2 := 1) (by omega) (by omega) ) (by decide) (by omega) (by omega) (Nat.le_of_ble_eq_true rfl) kQM9N (kQM9 (fun a39 h33 hI34 hF35 hM37 a39a a39b a39e => ?_))
    have hS36 := CSt_FrM2 hS29 hF35
    refine di_istore (ls2 := [some (.retAddr 2), some (.ref 0), some (.ref 26), some (.ref 36), some (dI i), some (dI (spDeepest σ x1 1).1), some (dI a39)]) la_2083 rfl rfl ?_
    refine dr_goto la_2085 rfl ?_
    refine dm_wk (ls2 := [some (.retAddr 2), some (.ref 0), some (.ref 26), some (.ref 36), some (dI i), none, none]) ⟨Or.inr rfl, Or.inr rfl, Or.inr rfl, Or.inr rfl, Or.inr rfl, Or.inl rfl, Or.inl rfl, trivial⟩ ?_
    refine dm_cew (ce2 := ce + 2000) (sl2 := sl + 60000) (by omega) (by omega) ?_
    exact K _ _ _ _ _ hI34 hS36 hM37 (by omega)
set_option maxHeartbeats 4000000 in
set_option maxRecDepth 100000 in
theorem lw_c40 (l : Launch) (hl : l.stackTraces = false) {L : Nat} {xs : Nat → Int32} (hL : L ≤ 384) {kc : Int} {h : dm_H} {B : Int} {σ : St} {th : Int} (hI : Inv kc kc h) (hS : CSt B σ h) (hM : MSt kc th σ h) {i : Int} (hi0 : 0 ≤ i) (hi6 : i + 6 ≤ L) (hB : 6 * B ≤ 20 * i) {ce sl : Nat} (hce : ce + 2000 ≤ 1200128) (hsl : sl + 60000 ≤ 5501098) (K : lw_K l L xs i (ce + 2000) (sl + 60000)) : dm_W (lw_E L xs) lw_PL l 329 420 1200128 5501098 2088 [some (.retAddr 2), some (.ref 0), some (.ref 26), some (.ref 36), some (dI i), none, none] [] h ce sl := by
  obtain ⟨x1, x1a, x1b, x1e⟩ := sv_x xs (i + 1)
  refine di_aload_n la_2088 rfl ?_
  refine dr_aload_n la_2089 rfl (Or.inr (Or.inr ⟨_, rfl⟩)) ?_
  refine dr_iload la_2090 rfl ?_
  refine di_const la_2092 ?_
  refine di_iadd la_2093 ?_
  refine dr_xldE la_2094 (by omega) (by omega) hL x1e ?_
  refine di_aload_n la_2095 rfl ?_
  refine dr_statH la_2096 rfl (by decide +kernel) rfl (t_L_rooms l hl hI hS (by omega) (a1 := x1) (by omega) (by omega)) (by decide) (by omega) (by omega) (Nat.le_of_ble_eq_true rfl) kQLN (kQL (fun h11 hI12 hF13 hS14 hq16 ho17 => ?_))
  have hM15 := MSt_FL hM hF13
  refine di_istore (ls2 := [some (.retAddr 2), some (.ref 0), some (.ref 26), some (.ref 36), some (dI i), some (dI (spRooms σ x1).1), none]) la_2099 rfl rfl ?_
  refine di_aload_n la_2101 rfl ?_
  refine dr_aload_n la_2102 rfl (Or.inr (Or.inr ⟨_, rfl⟩)) ?_
  refine dr_iload la_2103 rfl ?_
  refine di_const la_2105 ?_
  refine di_iadd la_2106 ?_
  refine dr_xldE la_2107 (by omega) (by omega) hL x1e ?_
  obtain ⟨nic23, c23, -⟩ := hM15.1
  refine dr_virt la_2108 rfl rfl rfl c23 (n_X8_rooms l hl hI12 hM15 (a1 := x1) (by omega) (by omega) (CSt_sSt hS)) (by decide) (by omega) (by omega) (Nat.le_of_ble_eq_true rfl) kQMAN (kQMA9 (fun a24 h18 hI19 hF20 hM22 a24a a24b a24e => ?_))
  have hS21 := CSt_FrN hS14 hI12 hF20
  refine di_istore (ls2 := [some (.retAddr 2), some (.ref 0), some (.ref 26), some (.ref 36), some (dI i), some (dI (spRooms σ x1).1), some (dI a24)]) la_2111 rfl rfl ?_
  refine dr_goto la_2113 rfl ?_
  refine dm_wk (ls2 := [some (.retAddr 2), some (.ref 0), some (.ref 26), some (.ref 36), some (dI i), none, none]) ⟨Or.inr rfl, Or.inr rfl, Or.inr rfl, Or.inr rfl, Or.inr rfl, Or.inl rfl, Or.inl rfl, trivial⟩ ?_
  refine dm_cew (ce2 := ce + 2000) (sl2 := sl + 60000) (by omega) (by omega) ?_
  exact K _ _ _ _ _ hI19 hS21 hM22 (by omega)
set_option maxHeartbeats 4000000 in
set_option maxRecDepth 100000 in
theorem lw_c41 (l : Launch) (hl : l.stackTraces = false) {L : Nat} {xs : Nat → Int32} (hL : L ≤ 384) {kc : Int} {h : dm_H} {B : Int} {σ : St} {th : Int} (hI : Inv kc kc h) (hS : CSt B σ h) (hM : MSt kc th σ h) {i : Int} (hi0 : 0 ≤ i) (hi6 : i + 6 ≤ L) (hB : 6 * B ≤ 20 * i) {ce sl : Nat} (hce : ce + 2000 ≤ 1200128) (hsl : sl + 60000 ≤ 5501098) (K : lw_K l L xs i (ce + 2000) (sl + 60000)) : dm_W (lw_E L xs) lw_PL l 329 420 1200128 5501098 2116 [some (.retAddr 2), some (.ref 0), some (.ref 26), some (.ref 36), some (dI i), none, none] [] h ce sl := by
  obtain ⟨x1, x1a, x1b, x1e⟩ := sv_x xs (i + 1)
  obtain ⟨x2, x2a, x2b, x2e⟩ := sv_x xs (i + 2)
  obtain ⟨x3, x3a, x3b, x3e⟩ := sv_x xs (i + 3)
  refine di_aload_n la_2116 rfl ?_
  refine dr_aload_n la_2117 rfl (Or.inr (Or.inr ⟨_, rfl⟩)) ?_
  refine dr_iload la_2118 rfl ?_
  refine di_const la_2120 ?_
  refine di_iadd la_2121 ?_
  refine dr_xldE la_2122 (by omega) (by omega) hL x1e ?_
  refine dr_aload_n la_2123 rfl (Or.inr (Or.inr ⟨_, rfl⟩)) ?_
  refine dr_iload la_2124 rfl ?_
  refine di_const la_2126 ?_
  refine di_iadd la_2127 ?_
  refine dr_xldE la_2128 (by omega) (by omega) hL x2e ?_
  refine dr_aload_n la_2129 rfl (Or.inr (Or.inr ⟨_, rfl⟩)) ?_
  refine dr_iload la_2130 rfl ?_
  refine di_const la_2132 ?_
  refine di_iadd la_2133 ?_
  refine dr_xldE la_2134 (by omega) (by omega) hL x3e ?_
  refine di_aload_n la_2135 rfl ?_
  refine dr_statH la_2136 rfl (by decide +kernel) rfl (t_L_roomOf l hl hI hS (by omega) (a1 := x1) (by omega) (by omega) (a2 := x2) (by omega) (by omega) (a3 := x3) (by omega) (by omega)) (by decide) (by omega) (by omega) (Nat.le_of_ble_eq_true rfl) kQLN (kQL (fun h11 hI12 hF13 hS14 hq16 ho17 => ?_))
  have hM15 := MSt_FL hM hF13
  refine di_istore (ls2 := [some (.retAddr 2), some (.ref 0), some (.ref 26), some (.ref 36), some (dI i), some (dI (spRoomOf σ x1 x2 x3).1), none]) la_2139 rfl rfl ?_
  refine di_aload_n la_2141 rfl ?_
  refine dr_aload_n la_2142 rfl (Or.inr (Or.inr ⟨_, rfl⟩)) ?_
  refine dr_iload la_2143 rfl ?_
  refine di_const la_2145 ?_
  refine di_iadd la_2146 ?_
  refine dr_xldE la_2147 (by omega) (by omega) hL x1e ?_
  refine dr_aload_n la_2148 rfl (Or.inr (Or.inr ⟨_, rfl⟩)) ?_
  refine dr_iload la_2149 rfl ?_
  refine di_const la_2151 ?_
  refine di_iadd la_2152 ?_
  refine dr_xldE la_2153 (by omega) (by omega) hL x2e ?_
  refine dr_aload_n la_2154 rfl (Or.inr (Or.inr ⟨_, rfl⟩)) ?_
  refine dr_iload la_2155 rfl ?_
  refine di_const la_2157 ?_
  refine di_iadd la_2158 ?_
  refine dr_xldE la_2159 (by omega) (by omega) hL x3e ?_
  obtain ⟨nic23, c23, -⟩ := hM15.1
  refine dr_virt la_2160 rfl rfl rfl c23 (n_X8_roomOf l hl hI12 hM15 (a1 := x1) (by omega) (by omega) (a2 := x2) (by omega) (by omega) (a3 := x3) (by omega) (by omega) (CSt_sSt hS)) (by decide) (by omega) (by omega) (Nat.le_of_ble_eq_true rfl) kQMAN (kQMA9 (fun a24 h18 hI19 hF20 hM22 a24a a24b a24e => ?_))
  have hS21 := CSt_FrN hS14 hI12 hF20
  refine di_istore (ls2 := [some (.retAddr 2), some (.ref 0), some (.ref 26), some (.ref 36), some (dI i), some (dI (spRoomOf σ x1 x2 x3).1), some (dI a24)]) la_2163 rfl rfl ?_
  refine dr_goto la_2165 rfl ?_
  refine dm_wk (ls2 := [some (.retAddr 2), some (.ref 0), some (.ref 26), some (.ref 36), some (dI i), none, none]) ⟨Or.inr rfl, Or.inr rfl, Or.inr rfl, Or.inr rfl, Or.inr rfl, Or.inl rfl, Or.inl rfl, trivial⟩ ?_
  refine dm_cew (ce2 := ce + 2000) (sl2 := sl + 60000) (by omega) (by omega) ?_
  exact K _ _ _ _ _ hI19 hS21 hM22 (by omega)
set_option maxHeartbeats 4000000 in
set_option maxRecDepth 100000 in
theorem lw_c42 (l : Launch) (hl : l.stackTraces = false) {L : Nat} {xs : Nat → Int32} (hL : L ≤ 384) {kc : Int} {h : dm_H} {B : Int} {σ : St} {th : Int} (hI : Inv kc kc h) (hS : CSt B σ h) (hM : MSt kc th σ h) {i : Int} (hi0 : 0 ≤ i) (hi6 : i + 6 ≤ L) (hB : 6 * B ≤ 20 * i) {ce sl : Nat} (hce : ce + 2000 ≤ 1200128) (hsl : sl + 60000 ≤ 5501098) (K : lw_K l L xs i (ce + 2000) (sl + 60000)) : dm_W (lw_E L xs) lw_PL l 329 420 1200128 5501098 2168 [some (.retAddr 2), some (.ref 0), some (.ref 26), some (.ref 36), some (dI i), none, none] [] h ce sl := by
  obtain ⟨x1, x1a, x1b, x1e⟩ := sv_x xs (i + 1)
  obtain ⟨x2, x2a, x2b, x2e⟩ := sv_x xs (i + 2)
  obtain ⟨x3, x3a, x3b, x3e⟩ := sv_x xs (i + 3)
  refine di_aload_n la_2168 rfl ?_
  refine dr_aload_n la_2169 rfl (Or.inr (Or.inr ⟨_, rfl⟩)) ?_
  refine dr_iload la_2170 rfl ?_
  refine di_const la_2172 ?_
  refine di_iadd la_2173 ?_
  refine dr_xldE la_2174 (by omega) (by omega) hL x1e ?_
  refine dr_aload_n la_2175 rfl (Or.inr (Or.inr ⟨_, rfl⟩)) ?_
  refine dr_iload la_2176 rfl ?_
  refine di_const la_2178 ?_
  refine di_iadd la_2179 ?_
  refine dr_xldE la_2180 (by omega) (by omega) hL x2e ?_
  refine dr_aload_n la_2181 rfl (Or.inr (Or.inr ⟨_, rfl⟩)) ?_
  refine dr_iload la_2182 rfl ?_
  refine di_const la_2184 ?_
  refine di_iadd la_2185 ?_
  refine dr_xldE la_2186 (by omega) (by omega) hL x3e ?_
  refine di_aload_n la_2187 rfl ?_
  refine dr_statH la_2188 rfl (by decide +kernel) rfl (t_L_links l hl hI hS (by omega) (a1 := x1) (by omega) (by omega) (a2 := x2) (by omega) (by omega) (a3 := x3) (by omega) (by omega)) (by decide) (by omega) (by omega) (Nat.le_of_ble_eq_true rfl) kQLN (kQL (fun h11 hI12 hF13 hS14 hq16 ho17 => ?_))
  have hM15 := MSt_FL hM hF13
  refine di_istore (ls2 := [some (.retAddr 2), some (.ref 0), some (.ref 26), some (.ref 36), some (dI i), some (dI (spLinks σ x1 x2 x3).1), none]) la_2191 rfl rfl ?_
  refine di_aload_n la_2193 rfl ?_
  refine dr_aload_n la_2194 rfl (Or.inr (Or.inr ⟨_, rfl⟩)) ?_
  refine dr_iload la_2195 rfl ?_
  refine di_const la_2197 ?_
  refine di_iadd la_2198 ?_
  refine dr_xldE la_2199 (by omega) (by omega) hL x1e ?_
  refine dr_aload_n la_2200 rfl (Or.inr (Or.inr ⟨_, rfl⟩)) ?_
  refine dr_iload la_2201 rfl ?_
  refine di_const la_2203 ?_
  refine di_iadd la_2204 ?_
  refine dr_xldE la_2205 (by omega) (by omega) hL x2e ?_
  refine dr_aload_n la_2206 rfl (Or.inr (Or.inr ⟨_, rfl⟩)) ?_
  refine dr_iload la_2207 rfl ?_
  refine di_const la_2209 ?_
  refine di_iadd la_2210 ?_
  refine dr_xldE la_2211 (by omega) (by omega) hL x3e ?_
  obtain ⟨nic23, c23, -⟩ := hM15.1
  refine dr_virt la_2212 rfl rfl rfl c23 (n_X8_links l hl hI12 hM15 (a1 := x1) (by omega) (by omega) (a2 := x2) (by omega) (by omega) (a3 := x3) (by omega) (by omega) ) (by decide) (by omega) (by omega) (Nat.le_of_ble_eq_true rfl) kQM9N (kQM9 (fun a24 h18 hI19 hF20 hM22 a24a a24b a24e => ?_))
  have hS21 := CSt_FrM2 hS14 hF20
  refine di_istore (ls2 := [some (.retAddr 2), some (.ref 0), some (.ref 26), some (.ref 36), some (dI i), some (dI (spLinks σ x1 x2 x3).1), some (dI a24)]) la_2215 rfl rfl ?_
  refine dr_goto la_2217 rfl ?_
  refine dm_wk (ls2 := [some (.retAddr 2), some (.ref 0), some (.ref 26), some (.ref 36), some (dI i), none, none]) ⟨Or.inr rfl, Or.inr rfl, Or.inr rfl, Or.inr rfl, Or.inr rfl, Or.inl rfl, Or.inl rfl, trivial⟩ ?_
  refine dm_cew (ce2 := ce + 2000) (sl2 := sl + 60000) (by omega) (by omega) ?_
  exact K _ _ _ _ _ hI19 hS21 hM22 (by omega)
set_option maxHeartbeats 4000000 in
set_option maxRecDepth 100000 in
theorem lw_c43 (l : Launch) (hl : l.stackTraces = false) {L : Nat} {xs : Nat → Int32} (hL : L ≤ 384) {kc : Int} {h : dm_H} {B : Int} {σ : St} {th : Int} (hI : Inv kc kc h) (hS : CSt B σ h) (hM : MSt kc th σ h) {i : Int} (hi0 : 0 ≤ i) (hi6 : i + 6 ≤ L) (hB : 6 * B ≤ 20 * i) {ce sl : Nat} (hce : ce + 2000 ≤ 1200128) (hsl : sl + 60000 ≤ 5501098) (K : lw_K l L xs i (ce + 2000) (sl + 60000)) : dm_W (lw_E L xs) lw_PL l 329 420 1200128 5501098 2220 [some (.retAddr 2), some (.ref 0), some (.ref 26), some (.ref 36), some (dI i), none, none] [] h ce sl := by
  obtain ⟨x1, x1a, x1b, x1e⟩ := sv_x xs (i + 1)
  obtain ⟨x2, x2a, x2b, x2e⟩ := sv_x xs (i + 2)
  obtain ⟨x3, x3a, x3b, x3e⟩ := sv_x xs (i + 3)
  obtain ⟨x4, x4a, x4b, x4e⟩ := sv_x xs (i + 4)
  refine di_aload_n la_2220 rfl ?_
  refine dr_aload_n la_2221 rfl (Or.inr (Or.inr ⟨_, rfl⟩)) ?_
  refine dr_iload la_2222 rfl ?_
  refine di_const la_2224 ?_
  refine di_iadd la_2225 ?_
  refine dr_xldE la_2226 (by omega) (by omega) hL x1e ?_
  refine dr_aload_n la_2227 rfl (Or.inr (Or.inr ⟨_, rfl⟩)) ?_
  refine dr_iload la_2228 rfl ?_
  refine di_const la_2230 ?_
  refine di_iadd la_2231 ?_
  refine dr_xldE la_2232 (by omega) (by omega) hL x2e ?_
  refine dr_aload_n la_2233 rfl (Or.inr (Or.inr ⟨_, rfl⟩)) ?_
  refine dr_iload la_2234 rfl ?_
  refine di_const la_2236 ?_
  refine di_iadd la_2237 ?_
  refine dr_xldE la_2238 (by omega) (by omega) hL x3e ?_
  refine dr_aload_n la_2239 rfl (Or.inr (Or.inr ⟨_, rfl⟩)) ?_
  refine dr_iload la_2240 rfl ?_
  refine di_const la_2242 ?_
  refine di_iadd la_2243 ?_
  refine dr_xldE la_2244 (by omega) (by omega) hL x4e ?_
  refine di_aload_n la_2245 rfl ?_
  refine dr_statH la_2246 rfl (by decide +kernel) rfl (t_L_link l hl hI hS (by omega) (a1 := x1) (by omega) (by omega) (a2 := x2) (by omega) (by omega) (a3 := x3) (by omega) (by omega) (a4 := x4) (by omega) (by omega)) (by decide) (by omega) (by omega) (Nat.le_of_ble_eq_true rfl) kQLN (kQL (fun h11 hI12 hF13 hS14 hq16 ho17 => ?_))
  have hM15 := MSt_FL hM hF13
  refine di_istore (ls2 := [some (.retAddr 2), some (.ref 0), some (.ref 26), some (.ref 36), some (dI i), some (dI (spLink σ x1 x2 x3 x4).1), none]) la_2249 rfl rfl ?_
  refine di_aload_n la_2251 rfl ?_
  refine dr_aload_n la_2252 rfl (Or.inr (Or.inr ⟨_, rfl⟩)) ?_
  refine dr_iload la_2253 rfl ?_
  refine di_const la_2255 ?_
  refine di_iadd la_2256 ?_
  refine dr_xldE la_2257 (by omega) (by omega) hL x1e ?_
  refine dr_aload_n la_2258 rfl (Or.inr (Or.inr ⟨_, rfl⟩)) ?_
  refine dr_iload la_2259 rfl ?_
  refine di_const la_2261 ?_
  refine di_iadd la_2262 ?_
  refine dr_xldE la_2263 (by omega) (by omega) hL x2e ?_
  refine dr_aload_n la_2264 rfl (Or.inr (Or.inr ⟨_, rfl⟩)) ?_
  refine dr_iload la_2265 rfl ?_
  refine di_const la_2267 ?_
  refine di_iadd la_2268 ?_
  refine dr_xldE la_2269 (by omega) (by omega) hL x3e ?_
  refine dr_aload_n la_2270 rfl (Or.inr (Or.inr ⟨_, rfl⟩)) ?_
  refine dr_iload la_2271 rfl ?_
  refine di_const la_2273 ?_
  refine di_iadd la_2274 ?_
  refine dr_xldE la_2275 (by omega) (by omega) hL x4e ?_
  obtain ⟨nic23, c23, -⟩ := hM15.1
  refine dr_virt la_2276 rfl rfl rfl c23 (n_X8_link l hl hI12 hM15 (a1 := x1) (by omega) (by omega) (a2 := x2) (by omega) (by omega) (a3 := x3) (by omega) (by omega) (a4 := x4) (by omega) (by omega) ) (by decide) (by omega) (by omega) (Nat.le_of_ble_eq_true rfl) kQM9N (kQM9 (fun a24 h18 hI19 hF20 hM22 a24a a24b a24e => ?_))
  have hS21 := CSt_FrM2 hS14 hF20
  refine di_istore (ls2 := [some (.retAddr 2), some (.ref 0), some (.ref 26), some (.ref 36), some (dI i), some (dI (spLink σ x1 x2 x3 x4).1), some (dI a24)]) la_2279 rfl rfl ?_
  refine dr_goto la_2281 rfl ?_
  refine dm_wk (ls2 := [some (.retAddr 2), some (.ref 0), some (.ref 26), some (.ref 36), some (dI i), none, none]) ⟨Or.inr rfl, Or.inr rfl, Or.inr rfl, Or.inr rfl, Or.inr rfl, Or.inl rfl, Or.inl rfl, trivial⟩ ?_
  refine dm_cew (ce2 := ce + 2000) (sl2 := sl + 60000) (by omega) (by omega) ?_
  exact K _ _ _ _ _ hI19 hS21 hM22 (by omega)
set_option maxHeartbeats 4000000 in
set_option maxRecDepth 100000 in
theorem lw_c44 (l : Launch) (hl : l.stackTraces = false) {L : Nat} {xs : Nat → Int32} (hL : L ≤ 384) {kc : Int} {h : dm_H} {B : Int} {σ : St} {th : Int} (hI : Inv kc kc h) (hS : CSt B σ h) (hM : MSt kc th σ h) {i : Int} (hi0 : 0 ≤ i) (hi6 : i + 6 ≤ L) (hB : 6 * B ≤ 20 * i) {ce sl : Nat} (hce : ce + 2000 ≤ 1200128) (hsl : sl + 60000 ≤ 5501098) (K : lw_K l L xs i (ce + 2000) (sl + 60000)) : dm_W (lw_E L xs) lw_PL l 329 420 1200128 5501098 2284 [some (.retAddr 2), some (.ref 0), some (.ref 26), some (.ref 36), some (dI i), none, none] [] h ce sl := by
  obtain ⟨x1, x1a, x1b, x1e⟩ := sv_x xs (i + 1)
  refine di_aload_n la_2284 rfl ?_
  refine dr_aload_n la_2285 rfl (Or.inr (Or.inr ⟨_, rfl⟩)) ?_
  refine dr_iload la_2286 rfl ?_
  refine di_const la_2288 ?_
  refine di_iadd la_2289 ?_
  refine dr_xldE la_2290 (by omega) (by omega) hL x1e ?_
  refine di_aload_n la_2291 rfl ?_
  refine dr_statH la_2292 rfl (by decide +kernel) rfl (t_L_house l hl hI hS (by omega) (a1 := x1) (by omega) (by omega)) (by decide) (by omega) (by omega) (Nat.le_of_ble_eq_true rfl) kQLN (kQL (fun h11 hI12 hF13 hS14 hq16 ho17 => ?_))
  have hM15 := MSt_FL hM hF13
  refine di_istore (ls2 := [some (.retAddr 2), some (.ref 0), some (.ref 26), some (.ref 36), some (dI i), some (dI (spHouse σ kc x1).1), none]) la_2295 rfl rfl ?_
  refine di_aload_n la_2297 rfl ?_
  refine dr_aload_n la_2298 rfl (Or.inr (Or.inr ⟨_, rfl⟩)) ?_
  refine dr_iload la_2299 rfl ?_
  refine di_const la_2301 ?_
  refine di_iadd la_2302 ?_
  refine dr_xldE la_2303 (by omega) (by omega) hL x1e ?_
  obtain ⟨nic23, c23, -⟩ := hM15.1
  refine dr_virt la_2304 rfl rfl rfl c23 (n_X8_house l hl hI12 hM15 (a1 := x1) (by omega) (by omega) ) (by decide) (by omega) (by omega) (Nat.le_of_ble_eq_true rfl) kQM9N (kQM9 (fun a24 h18 hI19 hF20 hM22 a24a a24b a24e => ?_))
  have hS21 := CSt_FrM2 hS14 hF20
  refine di_istore (ls2 := [some (.retAddr 2), some (.ref 0), some (.ref 26), some (.ref 36), some (dI i), some (dI (spHouse σ kc x1).1), some (dI a24)]) la_2307 rfl rfl ?_
  refine di_aload_n la_2309 rfl ?_
  obtain ⟨nic30, c30, -⟩ := hM22.1
  refine dr_virt la_2310 rfl rfl rfl c30 (t_X8_thrown l hl hM22) (by decide) (by omega) (by omega) (Nat.le_of_ble_eq_true rfl) kNP (kIP (fun y31 y31f y31a y31b => ?_))
  have y31f : y31 = (spHouse σ kc x1).1 := y31f
  subst y31f
  refine dr_iload la_2313 rfl ?_
  refine dr_icmp_eq la_2315 rfl (fun _ => ?_) (fun c9 => absurd rfl c9)
  refine dr_iload la_2320 rfl ?_
  refine di_if_ne la_2322 rfl (by omega) (by omega) (fun c => ?_) (fun e0 => ?_)
  · clear c
    refine dr_goto la_2338 rfl ?_
    refine dm_wk (ls2 := [some (.retAddr 2), some (.ref 0), some (.ref 26), some (.ref 36), some (dI i), none, none]) ⟨Or.inr rfl, Or.inr rfl, Or.inr rfl, Or.inr rfl, Or.inr rfl, Or.inl rfl, Or.inl rfl, trivial⟩ ?_
    refine dm_cew (ce2 := ce + 2000) (sl2 := sl + 60000) (by omega) (by omega) ?_
    exact K _ _ _ _ _ hI19 hS21 hM22 (by omega)
  · skip
    obtain ⟨v8, hv8⟩ := ho17 e0
    have hv9 := (hF20.2 36 (by decide)).trans hv8
    have ea9 : a24 = (spHouse σ kc x1).2.1 := a24e e0
    subst ea9
    refine di_aload_n la_2325 rfl ?_
    refine dr_getf la_2326 hv9 rfl ?_
    refine dr_iload la_2329 rfl ?_
    refine dr_i2l la_2331 rfl ?_
    refine dr_lcmpE la_2332 rfl ?_
    refine di_if_eq la_2333 rfl (by omega) (by omega) (fun _ => ?_) (fun c9 => absurd rfl c9)
    refine dr_goto la_2338 rfl ?_
    refine dm_wk (ls2 := [some (.retAddr 2), some (.ref 0), some (.ref 26), some (.ref 36), some (dI i), none, none]) ⟨Or.inr rfl, Or.inr rfl, Or.inr rfl, Or.inr rfl, Or.inr rfl, Or.inl rfl, Or.inl rfl, trivial⟩ ?_
    refine dm_cew (ce2 := ce + 2000) (sl2 := sl + 60000) (by omega) (by omega) ?_
    exact K _ _ _ _ _ hI19 hS21 hM22 (by omega)
set_option maxHeartbeats 4000000 in
set_option maxRecDepth 100000 in
theorem lw_c45 (l : Launch) (hl : l.stackTraces = false) {L : Nat} {xs : Nat → Int32} (hL : L ≤ 384) {kc : Int} {h : dm_H} {B : Int} {σ : St} {th : Int} (hI : Inv kc kc h) (hS : CSt B σ h) (hM : MSt kc th σ h) {i : Int} (hi0 : 0 ≤ i) (hi6 : i + 6 ≤ L) (hB : 6 * B ≤ 20 * i) {ce sl : Nat} (hce : ce + 2000 ≤ 1200128) (hsl : sl + 60000 ≤ 5501098) (K : lw_K l L xs i (ce + 2000) (sl + 60000)) : dm_W (lw_E L xs) lw_PL l 329 420 1200128 5501098 2341 [some (.retAddr 2), some (.ref 0), some (.ref 26), some (.ref 36), some (dI i), none, none] [] h ce sl := by
  refine di_aload_n la_2341 rfl ?_
  obtain ⟨rc16, rc16a, rc16b, c16⟩ := I_cls hI
  refine dr_virt la_2342 rfl rfl rfl c16 (t_X6_knock l hl hI) (by decide) (by omega) (by omega) (Nat.le_of_ble_eq_true rfl) kKCN (kKC (fun h11 hI12 hF13 hk17 hk9 => ?_))
  have hS14 := hk9 _ _ hS
  have hM15 := MSt_same hM (fun j j0 _ => hk17 j (by omega))
  refine dr_pop la_2345 rfl ?_
  refine di_aload_n la_2346 rfl ?_
  obtain ⟨nic23, c23, -⟩ := hM15.1
  refine dr_virt la_2347 rfl rfl rfl c23 (t_X8_knock l hl hI12 hM15) (by decide) (by omega) (by omega) (Nat.le_of_ble_eq_true rfl) kKMN (kKM (fun h18 hI19 hF20 hk24 hM22 => ?_))
  have hS21 := CSt_same hS14 (fun j _ j1 _ => hk24 j (by omega))
  refine dr_pop la_2350 rfl ?_
  refine dr_goto la_2351 rfl ?_
  refine dm_cew (ce2 := ce + 2000) (sl2 := sl + 60000) (by omega) (by omega) ?_
  exact K _ _ _ _ _ hI19 hS21 hM22 (by omega)
set_option maxHeartbeats 4000000 in
set_option maxRecDepth 100000 in
theorem lw_c46 (l : Launch) (hl : l.stackTraces = false) {L : Nat} {xs : Nat → Int32} (hL : L ≤ 384) {kc : Int} {h : dm_H} {B : Int} {σ : St} {th : Int} (hI : Inv kc kc h) (hS : CSt B σ h) (hM : MSt kc th σ h) {i : Int} (hi0 : 0 ≤ i) (hi6 : i + 6 ≤ L) (hB : 6 * B ≤ 20 * i) {ce sl : Nat} (hce : ce + 2000 ≤ 1200128) (hsl : sl + 60000 ≤ 5501098) (K : lw_K l L xs i (ce + 2000) (sl + 60000)) : dm_W (lw_E L xs) lw_PL l 329 420 1200128 5501098 2354 [some (.retAddr 2), some (.ref 0), some (.ref 26), some (.ref 36), some (dI i), none, none] [] h ce sl := by
  refine di_aload_n la_2354 rfl ?_
  obtain ⟨rc16, rc16a, rc16b, c16⟩ := I_cls hI
  refine dr_virt la_2355 rfl rfl rfl c16 (c_X6_isSound l hl hI hS (by omega)) (by decide) (by omega) (by omega) (Nat.le_of_ble_eq_true rfl) kS1N (kS1 (fun h11 hI12 hF13 => ?_))
  have hS14 := CSt_T hS hF13
  have hM15 := MSt_same hM (fun j j0 _ => hF13.2 j (by omega))
  refine dr_pop la_2358 rfl ?_
  refine di_aload_n la_2359 rfl ?_
  obtain ⟨nic22, c22, -⟩ := hM15.1
  refine dr_virt la_2360 rfl rfl rfl c22 (n_X8_isSound l hl hI12 hM15 (CSt_sSt hS14)) (by decide) (by omega) (by omega) (Nat.le_of_ble_eq_true rfl) kQMAN (kQMA (fun a23 h17 hI18 hF19 hM21 a23a a23b a23e => ?_))
  have a23e : a23 = 1 := a23e rfl
  subst a23e
  have hM21 : MSt kc 0 σ h17 := hM21
  have hS20 := CSt_FrN hS14 hI12 hF19
  refine dr_pop la_2363 rfl ?_
  refine dr_goto la_2364 rfl ?_
  refine dm_cew (ce2 := ce + 2000) (sl2 := sl + 60000) (by omega) (by omega) ?_
  exact K _ _ _ _ _ hI18 hS20 hM21 (by omega)
set_option maxHeartbeats 4000000 in
set_option maxRecDepth 100000 in
theorem lw_c47 (l : Launch) (hl : l.stackTraces = false) {L : Nat} {xs : Nat → Int32} (hL : L ≤ 384) {kc : Int} {h : dm_H} {B : Int} {σ : St} {th : Int} (hI : Inv kc kc h) (hS : CSt B σ h) (hM : MSt kc th σ h) {i : Int} (hi0 : 0 ≤ i) (hi6 : i + 6 ≤ L) (hB : 6 * B ≤ 20 * i) {ce sl : Nat} (hce : ce + 2000 ≤ 1200128) (hsl : sl + 60000 ≤ 5501098) (K : lw_K l L xs i (ce + 2000) (sl + 60000)) : dm_W (lw_E L xs) lw_PL l 329 420 1200128 5501098 2367 [some (.retAddr 2), some (.ref 0), some (.ref 26), some (.ref 36), some (dI i), none, none] [] h ce sl := by
  refine di_aload_n la_2367 rfl ?_
  obtain ⟨rc16, rc16a, rc16b, c16⟩ := I_cls hI
  refine dr_virt la_2368 rfl rfl rfl c16 (c_X6_digest l hl hI hS (by omega)) (by decide) (by omega) (by omega) (Nat.le_of_ble_eq_true rfl) kQDN (kQD (fun h11 hI12 hF13 hS14 => ?_))
  have hM15 := MSt_same hM (fun j j0 _ => hF13.2 j (by omega))
  refine dr_pop2 la_2371 rfl ?_
  refine di_aload_n la_2372 rfl ?_
  obtain ⟨nic22, c22, -⟩ := hM15.1
  refine dr_virt la_2373 rfl rfl rfl c22 (n_X8_digest l hl hI12 hM15 (CSt_sSt hS14)) (by decide) (by omega) (by omega) (Nat.le_of_ble_eq_true rfl) kQMDN (kQMD (fun h17 hI18 hF19 hM21 => ?_))
  have hS20 := CSt_FrN hS14 hI12 hF19
  refine dr_pop2 la_2376 rfl ?_
  refine dr_goto la_2377 rfl ?_
  refine dm_cew (ce2 := ce + 2000) (sl2 := sl + 60000) (by omega) (by omega) ?_
  exact K _ _ _ _ _ hI18 hS20 hM21 (by omega)
