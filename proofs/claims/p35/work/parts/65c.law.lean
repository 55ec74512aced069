set_option maxHeartbeats 4000000 in
set_option maxRecDepth 100000 in
theorem lw_c32 (l : Launch) (hl : l.stackTraces = false) {L : Nat} {xs : Nat → Int32} (hL : L ≤ 384) {kc : Int} {h : dm_H} {B : Int} {σ : St} {th : Int} (hI : Inv kc kc h) (hS : CSt B σ h) (hM : MSt kc th σ h) {i : Int} (hi0 : 0 ≤ i) (hi6 : i + 6 ≤ L) (hB : 6 * B ≤ 20 * i) {ce sl : Nat} (hce : ce + 2000 ≤ 1200128) (hsl : sl + 60000 ≤ 5501098) (K : lw_K l L xs i (ce + 2000) (sl + 60000)) : dm_W (lw_E L xs) lw_PL l 329 420 1200128 5501098 1748 [some (.retAddr 2), some (.ref 0), some (.ref 26), some (.ref 36), some (dI i), none, none] [] h ce sl := by
  obtain ⟨x1, x1a, x1b, x1e⟩ := sv_x xs (i + 1)
  obtain ⟨x2, x2a, x2b, x2e⟩ := sv_x xs (i + 2)
  refine di_aload_n la_1748 rfl ?_
  refine dr_aload_n la_1749 rfl (Or.inr (Or.inr ⟨_, rfl⟩)) ?_
  refine dr_iload la_1750 rfl ?_
  refine di_const la_1752 ?_
  refine di_iadd la_1753 ?_
  refine dr_xldE la_1754 (by omega) (by omega) hL x1e ?_
  refine dr_aload_n la_1755 rfl (Or.inr (Or.inr ⟨_, rfl⟩)) ?_
  refine dr_iload la_1756 rfl ?_
  refine di_const la_1758 ?_
  refine di_iadd la_1759 ?_
  refine dr_xldE la_1760 (by omega) (by omega) hL x2e ?_
  refine di_if_eq la_1761 rfl (by omega) (by omega) (fun cz11 => ?_) (fun cz11 => ?_)
  · skip
    refine di_const la_1768 ?_
    refine di_aload_n la_1769 rfl ?_
    refine dr_statH la_1770 rfl (by decide +kernel) rfl (w_L_text l hl hI (a1 := x1) (by omega) (by omega) (a2 := 0) (by omega) (by omega)) (by decide) (by omega) (by omega) (Nat.le_of_ble_eq_true rfl) kNSw (kISw (fun y17 h12 hI13 hF14 y17f y17a y17b => ?_))
    clear y17f
    have hS15 := CSt_FW hS hF14
    have hM16 := MSt_FW hM hF14
    refine di_istore (ls2 := [some (.retAddr 2), some (.ref 0), some (.ref 26), some (.ref 36), some (dI i), some (dI y17), none]) la_1773 rfl rfl ?_
    refine di_aload_n la_1775 rfl ?_
    refine dr_aload_n la_1776 rfl (Or.inr (Or.inr ⟨_, rfl⟩)) ?_
    refine dr_iload la_1777 rfl ?_
    refine di_const la_1779 ?_
    refine di_iadd la_1780 ?_
    refine dr_xldE la_1781 (by omega) (by omega) hL x1e ?_
    refine dr_aload_n la_1782 rfl (Or.inr (Or.inr ⟨_, rfl⟩)) ?_
    refine dr_iload la_1783 rfl ?_
    refine di_const la_1785 ?_
    refine di_iadd la_1786 ?_
    refine dr_xldE la_1787 (by omega) (by omega) hL x2e ?_
    refine di_if_eq la_1788 rfl (by omega) (by omega) (fun _ => ?_) (fun c9 => absurd cz11 c9)
    refine di_const la_1795 ?_
    obtain ⟨nic23, c23, -⟩ := hM16.1
    refine dr_virt la_1796 rfl rfl rfl c23 (w_X8_text l hl hI13 (a1 := x1) (by omega) (by omega) (a2 := 0) (by omega) (by omega)) (by decide) (by omega) (by omega) (Nat.le_of_ble_eq_true rfl) kNSt (kOSt (fun y24 h18 hI19 hF20 y24m => ?_))
    have hS21 := CSt_FT hS15 hI13 hF20
    obtain ⟨th25, hM22⟩ := MSt_FT hM16 hI13 hI19 hF20
    refine dr_astoreU la_1799 rfl y24m ?_
    show dm_W (lw_E L xs) lw_PL l 329 420 1200128 5501098 1801 [some (.retAddr 2), some (.ref 0), some (.ref 26), some (.ref 36), some (dI i), some (dI y17), some (y24)] [] h18 ((ce + 59) + 58) ((sl + 22030) + 22024)
    clear y24m
    refine dr_goto la_1801 rfl ?_
    refine dm_wk (ls2 := [some (.retAddr 2), some (.ref 0), some (.ref 26), some (.ref 36), some (dI i), none, none]) ⟨Or.inr rfl, Or.inr rfl, Or.inr rfl, Or.inr rfl, Or.inr rfl, Or.inl rfl, Or.inl rfl, trivial⟩ ?_
    refine dm_cew (ce2 := ce + 2000) (sl2 := sl + 60000) (by omega) (by omega) ?_
    exact K _ _ _ _ _ hI19 hS21 hM22 (by omega)
  · skip
    refine di_const la_1764 ?_
    refine dr_goto la_1765 rfl ?_
    refine di_aload_n la_1769 rfl ?_
    refine dr_statH la_1770 rfl (by decide +kernel) rfl (w_L_text l hl hI (a1 := x1) (by omega) (by omega) (a2 := 1) (by omega) (by omega)) (by decide) (by omega) (by omega) (Nat.le_of_ble_eq_true rfl) kNSw (kISw (fun y31 h26 hI27 hF28 y31f y31a y31b => ?_))
    clear y31f
    have hS29 := CSt_FW hS hF28
    have hM30 := MSt_FW hM hF28
    refine di_istore (ls2 := [some (.retAddr 2), some (.ref 0), some (.ref 26), some (.ref 36), some (dI i), some (dI y31), none]) la_1773 rfl rfl ?_
    refine di_aload_n la_1775 rfl ?_
    refine dr_aload_n la_1776 rfl (Or.inr (Or.inr ⟨_, rfl⟩)) ?_
    refine dr_iload la_1777 rfl ?_
    refine di_const la_1779 ?_
    refine di_iadd la_1780 ?_
    refine dr_xldE la_1781 (by omega) (by omega) hL x1e ?_
    refine dr_aload_n la_1782 rfl (Or.inr (Or.inr ⟨_, rfl⟩)) ?_
    refine dr_iload la_1783 rfl ?_
    refine di_const la_1785 ?_
    refine di_iadd la_1786 ?_
    refine dr_xldE la_1787 (by omega) (by omega) hL x2e ?_
    refine di_if_eq la_1788 rfl (by omega) (by omega) (fun c9 => absurd c9 cz11) (fun _ => ?_)
    refine di_const la_1791 ?_
    refine dr_goto la_1792 rfl ?_
    obtain ⟨nic37, c37, -⟩ := hM30.1
    refine dr_virt la_1796 rfl rfl rfl c37 (w_X8_text l hl hI27 (a1 := x1) (by omega) (by omega) (a2 := 1) (by omega) (by omega)) (by decide) (by omega) (by omega) (Nat.le_of_ble_eq_true rfl) kNSt (kOSt (fun y38 h32 hI33 hF34 y38m => ?_))
    have hS35 := CSt_FT hS29 hI27 hF34
    obtain ⟨th39, hM36⟩ := MSt_FT hM30 hI27 hI33 hF34
    refine dr_astoreU la_1799 rfl y38m ?_
    show dm_W (lw_E L xs) lw_PL l 329 420 1200128 5501098 1801 [some (.retAddr 2), some (.ref 0), some (.ref 26), some (.ref 36), some (dI i), some (dI y31), some (y38)] [] h32 ((ce + 59) + 58) ((sl + 22030) + 22024)
    clear y38m
    refine dr_goto la_1801 rfl ?_
    refine dm_wk (ls2 := [some (.retAddr 2), some (.ref 0), some (.ref 26), some (.ref 36), some (dI i), none, none]) ⟨Or.inr rfl, Or.inr rfl, Or.inr rfl, Or.inr rfl, Or.inr rfl, Or.inl rfl, Or.inl rfl, trivial⟩ ?_
    refine dm_cew (ce2 := ce + 2000) (sl2 := sl + 60000) (by omega) (by omega) ?_
    exact K _ _ _ _ _ hI33 hS35 hM36 (by omega)
set_option maxHeartbeats 4000000 in
set_option maxRecDepth 100000 in
theorem lw_c33 (l : Launch) (hl : l.stackTraces = false) {L : Nat} {xs : Nat → Int32} (hL : L ≤ 384) {kc : Int} {h : dm_H} {B : Int} {σ : St} {th : Int} (hI : Inv kc kc h) (hS : CSt B σ h) (hM : MSt kc th σ h) {i : Int} (hi0 : 0 ≤ i) (hi6 : i + 6 ≤ L) (hB : 6 * B ≤ 20 * i) {ce sl : Nat} (hce : ce + 2000 ≤ 1200128) (hsl : sl + 60000 ≤ 5501098) (K : lw_K l L xs i (ce + 2000) (sl + 60000)) : dm_W (lw_E L xs) lw_PL l 329 420 1200128 5501098 1804 [some (.retAddr 2), some (.ref 0), some (.ref 26), some (.ref 36), some (dI i), none, none] [] h ce sl := by
  obtain ⟨x1, x1a, x1b, x1e⟩ := sv_x xs (i + 1)
  obtain ⟨x2, x2a, x2b, x2e⟩ := sv_x xs (i + 2)
  refine di_aload_n la_1804 rfl ?_
  refine dr_aload_n la_1805 rfl (Or.inr (Or.inr ⟨_, rfl⟩)) ?_
  refine dr_iload la_1806 rfl ?_
  refine di_const la_1808 ?_
  refine di_iadd la_1809 ?_
  refine dr_xldE la_1810 (by omega) (by omega) hL x1e ?_
  refine dr_aload_n la_1811 rfl (Or.inr (Or.inr ⟨_, rfl⟩)) ?_
  refine dr_iload la_1812 rfl ?_
  refine di_const la_1814 ?_
  refine di_iadd la_1815 ?_
  refine dr_xldE la_1816 (by omega) (by omega) hL x2e ?_
  refine di_aload_n la_1817 rfl ?_
  refine dr_statH la_1818 rfl (by decide +kernel) rfl (t_L_areSame l hl hI hS (by omega) (a1 := x1) (by omega) (by omega) (a2 := x2) (by omega) (by omega)) (by decide) (by omega) (by omega) (Nat.le_of_ble_eq_true rfl) kQLN (kQL (fun h11 hI12 hF13 hS14 hq16 ho17 => ?_))
  have hM15 := MSt_FL hM hF13
  refine di_istore (ls2 := [some (.retAddr 2), some (.ref 0), some (.ref 26), some (.ref 36), some (dI i), some (dI (spAreSame σ x1 x2).1), none]) la_1821 rfl rfl ?_
  refine di_aload_n la_1823 rfl ?_
  refine dr_aload_n la_1824 rfl (Or.inr (Or.inr ⟨_, rfl⟩)) ?_
  refine dr_iload la_1825 rfl ?_
  refine di_const la_1827 ?_
  refine di_iadd la_1828 ?_
  refine dr_xldE la_1829 (by omega) (by omega) hL x1e ?_
  refine dr_aload_n la_1830 rfl (Or.inr (Or.inr ⟨_, rfl⟩)) ?_
  refine dr_iload la_1831 rfl ?_
  refine di_const la_1833 ?_
  refine di_iadd la_1834 ?_
  refine dr_xldE la_1835 (by omega) (by omega) hL x2e ?_
  obtain ⟨nic23, c23, -⟩ := hM15.1
  refine dr_virt la_1836 rfl rfl rfl c23 (n_X8_areSame l hl hI12 hM15 (a1 := x1) (by omega) (by omega) (a2 := x2) (by omega) (by omega) ) (by decide) (by omega) (by omega) (Nat.le_of_ble_eq_true rfl) kQM9N (kQM9 (fun a24 h18 hI19 hF20 hM22 a24a a24b a24e => ?_))
  have hS21 := CSt_FrM2 hS14 hF20
  refine di_istore (ls2 := [some (.retAddr 2), some (.ref 0), some (.ref 26), some (.ref 36), some (dI i), some (dI (spAreSame σ x1 x2).1), some (dI a24)]) la_1839 rfl rfl ?_
  refine di_aload_n la_1841 rfl ?_
  obtain ⟨nic30, c30, -⟩ := hM22.1
  refine dr_virt la_1842 rfl rfl rfl c30 (t_X8_thrown l hl hM22) (by decide) (by omega) (by omega) (Nat.le_of_ble_eq_true rfl) kNP (kIP (fun y31 y31f y31a y31b => ?_))
  have y31f : y31 = (spAreSame σ x1 x2).1 := y31f
  subst y31f
  refine dr_iload la_1845 rfl ?_
  refine dr_icmp_eq la_1847 rfl (fun _ => ?_) (fun c9 => absurd rfl c9)
  refine dr_iload la_1852 rfl ?_
  refine di_if_ne la_1854 rfl (by omega) (by omega) (fun c => ?_) (fun e0 => ?_)
  · clear c
    refine dr_goto la_1877 rfl ?_
    refine dm_wk (ls2 := [some (.retAddr 2), some (.ref 0), some (.ref 26), some (.ref 36), some (dI i), none, none]) ⟨Or.inr rfl, Or.inr rfl, Or.inr rfl, Or.inr rfl, Or.inr rfl, Or.inl rfl, Or.inl rfl, trivial⟩ ?_
    refine dm_cew (ce2 := ce + 2000) (sl2 := sl + 60000) (by omega) (by omega) ?_
    exact K _ _ _ _ _ hI19 hS21 hM22 (by omega)
  · skip
    obtain ⟨v8, hv8⟩ := ho17 e0
    have hv9 := (hF20.2 36 (by decide)).trans hv8
    have ea9 : a24 = (spAreSame σ x1 x2).2.1 := a24e e0
    subst ea9
    have hz9 : (spAreSame σ x1 x2).2.1 = 0 ∨ (spAreSame σ x1 x2).2.1 = 1 := by unfold spAreSame; (repeat' split) <;> simp
    rcases hz9 with ez | ez
    · rw [ez, lI_0] at hv9
      rw [ez]
      refine di_aload_n la_1857 rfl ?_
      refine dr_getf la_1858 hv9 rfl ?_
      refine dr_iload la_1861 rfl ?_
      refine di_if_eq la_1863 rfl (by omega) (by omega) (fun _ => ?_) (fun c9 => absurd rfl c9)
      refine dr_lconst la_1870 rfl ?_
      refine dr_lcmpE la_1871 (by decide) ?_
      refine di_if_eq la_1872 rfl (by omega) (by omega) (fun _ => ?_) (fun c9 => absurd rfl c9)
      refine dr_goto la_1877 rfl ?_
      refine dm_wk (ls2 := [some (.retAddr 2), some (.ref 0), some (.ref 26), some (.ref 36), some (dI i), none, none]) ⟨Or.inr rfl, Or.inr rfl, Or.inr rfl, Or.inr rfl, Or.inr rfl, Or.inl rfl, Or.inl rfl, trivial⟩ ?_
      refine dm_cew (ce2 := ce + 2000) (sl2 := sl + 60000) (by omega) (by omega) ?_
      exact K _ _ _ _ _ hI19 hS21 hM22 (by omega)
    · rw [ez, lI_1] at hv9
      rw [ez]
      refine di_aload_n la_1857 rfl ?_
      refine dr_getf la_1858 hv9 rfl ?_
      refine dr_iload la_1861 rfl ?_
      refine di_if_eq la_1863 rfl (by omega) (by omega) (fun c9 => absurd c9 (by decide)) (fun _ => ?_)
      refine dr_lconst la_1866 rfl ?_
      refine dr_goto la_1867 rfl ?_
      refine dr_lcmpE la_1871 (by decide) ?_
      refine di_if_eq la_1872 rfl (by omega) (by omega) (fun _ => ?_) (fun c9 => absurd rfl c9)
      refine dr_goto la_1877 rfl ?_
      refine dm_wk (ls2 := [some (.retAddr 2), some (.ref 0), some (.ref 26), some (.ref 36), some (dI i), none, none]) ⟨Or.inr rfl, Or.inr rfl, Or.inr rfl, Or.inr rfl, Or.inr rfl, Or.inl rfl, Or.inl rfl, trivial⟩ ?_
      refine dm_cew (ce2 := ce + 2000) (sl2 := sl + 60000) (by omega) (by omega) ?_
      exact K _ _ _ _ _ hI19 hS21 hM22 (by omega)
set_option maxHeartbeats 4000000 in
set_option maxRecDepth 100000 in
theorem lw_c34 (l : Launch) (hl : l.stackTraces = false) {L : Nat} {xs : Nat → Int32} (hL : L ≤ 384) {kc : Int} {h : dm_H} {B : Int} {σ : St} {th : Int} (hI : Inv kc kc h) (hS : CSt B σ h) (hM : MSt kc th σ h) {i : Int} (hi0 : 0 ≤ i) (hi6 : i + 6 ≤ L) (hB : 6 * B ≤ 20 * i) {ce sl : Nat} (hce : ce + 2000 ≤ 1200128) (hsl : sl + 60000 ≤ 5501098) (K : lw_K l L xs i (ce + 2000) (sl + 60000)) : dm_W (lw_E L xs) lw_PL l 329 420 1200128 5501098 1880 [some (.retAddr 2), some (.ref 0), some (.ref 26), some (.ref 36), some (dI i), none, none] [] h ce sl := by
  obtain ⟨x1, x1a, x1b, x1e⟩ := sv_x xs (i + 1)
  refine di_aload_n la_1880 rfl ?_
  refine dr_aload_n la_1881 rfl (Or.inr (Or.inr ⟨_, rfl⟩)) ?_
  refine dr_iload la_1882 rfl ?_
  refine di_const la_1884 ?_
  refine di_iadd la_1885 ?_
  refine dr_xldE la_1886 (by omega) (by omega) hL x1e ?_
  refine di_aload_n la_1887 rfl ?_
  refine dr_statH la_1888 rfl (by decide +kernel) rfl (t_L_most l hl hI hS (by omega) (a1 := x1) (by omega) (by omega)) (by decide) (by omega) (by omega) (Nat.le_of_ble_eq_true rfl) kQLN (kQL (fun h11 hI12 hF13 hS14 hq16 ho17 => ?_))
  have hM15 := MSt_FL hM hF13
  refine di_istore (ls2 := [some (.retAddr 2), some (.ref 0), some (.ref 26), some (.ref 36), some (dI i), some (dI (spMost σ x1).1), none]) la_1891 rfl rfl ?_
  refine di_aload_n la_1893 rfl ?_
  refine dr_aload_n la_1894 rfl (Or.inr (Or.inr ⟨_, rfl⟩)) ?_
  refine dr_iload la_1895 rfl ?_
  refine di_const la_1897 ?_
  refine di_iadd la_1898 ?_
  refine dr_xldE la_1899 (by omega) (by omega) hL x1e ?_
  obtain ⟨nic23, c23, -⟩ := hM15.1
  refine dr_virt la_1900 rfl rfl rfl c23 (n_X8_most l hl hI12 hM15 (a1 := x1) (by omega) (by omega) ) (by decide) (by omega) (by omega) (Nat.le_of_ble_eq_true rfl) kQM9N (kQM9 (fun a24 h18 hI19 hF20 hM22 a24a a24b a24e => ?_))
  have hS21 := CSt_FrM2 hS14 hF20
  refine di_istore (ls2 := [some (.retAddr 2), some (.ref 0), some (.ref 26), some (.ref 36), some (dI i), some (dI (spMost σ x1).1), some (dI a24)]) la_1903 rfl rfl ?_
  refine dr_goto la_1905 rfl ?_
  refine dm_wk (ls2 := [some (.retAddr 2), some (.ref 0), some (.ref 26), some (.ref 36), some (dI i), none, none]) ⟨Or.inr rfl, Or.inr rfl, Or.inr rfl, Or.inr rfl, Or.inr rfl, Or.inl rfl, Or.inl rfl, trivial⟩ ?_
  refine dm_cew (ce2 := ce + 2000) (sl2 := sl + 60000) (by omega) (by omega) ?_
  exact K _ _ _ _ _ hI19 hS21 hM22 (by omega)
set_option maxHeartbeats 4000000 in
set_option maxRecDepth 100000 in
theorem lw_c35 (l : Launch) (hl : l.stackTraces = false) {L : Nat} {xs : Nat → Int32} (hL : L ≤ 384) {kc : Int} {h : dm_H} {B : Int} {σ : St} {th : Int} (hI : Inv kc kc h) (hS : CSt B σ h) (hM : MSt kc th σ h) {i : Int} (hi0 : 0 ≤ i) (hi6 : i + 6 ≤ L) (hB : 6 * B ≤ 20 * i) {ce sl : Nat} (hce : ce + 2000 ≤ 1200128) (hsl : sl + 60000 ≤ 5501098) (K : lw_K l L xs i (ce + 2000) (sl + 60000)) : dm_W (lw_E L xs) lw_PL l 329 420 1200128 5501098 1908 [some (.retAddr 2), some (.ref 0), some (.ref 26), some (.ref 36), some (dI i), none, none] [] h ce sl := by
  obtain ⟨x1, x1a, x1b, x1e⟩ := sv_x xs (i + 1)
  obtain ⟨x2, x2a, x2b, x2e⟩ := sv_x xs (i + 2)
  refine di_aload_n la_1908 rfl ?_
  refine dr_aload_n la_1909 rfl (Or.inr (Or.inr ⟨_, rfl⟩)) ?_
  refine dr_iload la_1910 rfl ?_
  refine di_const la_1912 ?_
  refine di_iadd la_1913 ?_
  refine dr_xldE la_1914 (by omega) (by omega) hL x1e ?_
  refine dr_aload_n la_1915 rfl (Or.inr (Or.inr ⟨_, rfl⟩)) ?_
  refine dr_iload la_1916 rfl ?_
  refine di_const la_1918 ?_
  refine di_iadd la_1919 ?_
  refine dr_xldE la_1920 (by omega) (by omega) hL x2e ?_
  refine di_aload_n la_1921 rfl ?_
  refine dr_statH la_1922 rfl (by decide +kernel) rfl (t_L_chosen l hl hI hS (by omega) (a1 := x1) (by omega) (by omega) (a2 := x2) (by omega) (by omega)) (by decide) (by omega) (by omega) (Nat.le_of_ble_eq_true rfl) kQLN (kQL (fun h11 hI12 hF13 hS14 hq16 ho17 => ?_))
  have hM15 := MSt_FL hM hF13
  refine di_istore (ls2 := [some (.retAddr 2), some (.ref 0), some (.ref 26), some (.ref 36), some (dI i), some (dI (spChosen σ x1 x2).1), none]) la_1925 rfl rfl ?_
  refine di_aload_n la_1927 rfl ?_
  refine dr_aload_n la_1928 rfl (Or.inr (Or.inr ⟨_, rfl⟩)) ?_
  refine dr_iload la_1929 rfl ?_
  refine di_const la_1931 ?_
  refine di_iadd la_1932 ?_
  refine dr_xldE la_1933 (by omega) (by omega) hL x1e ?_
  refine dr_aload_n la_1934 rfl (Or.inr (Or.inr ⟨_, rfl⟩)) ?_
  refine dr_iload la_1935 rfl ?_
  refine di_const la_1937 ?_
  refine di_iadd la_1938 ?_
  refine dr_xldE la_1939 (by omega) (by omega) hL x2e ?_
  obtain ⟨nic23, c23, -⟩ := hM15.1
  refine dr_virt la_1940 rfl rfl rfl c23 (n_X8_chosen l hl hI12 hM15 (a1 := x1) (by omega) (by omega) (a2 := x2) (by omega) (by omega) ) (by decide) (by omega) (by omega) (Nat.le_of_ble_eq_true rfl) kQM9N (kQM9 (fun a24 h18 hI19 hF20 hM22 a24a a24b a24e => ?_))
  have hS21 := CSt_FrM2 hS14 hF20
  refine di_istore (ls2 := [some (.retAddr 2), some (.ref 0), some (.ref 26), some (.ref 36), some (dI i), some (dI (spChosen σ x1 x2).1), some (dI a24)]) la_1943 rfl rfl ?_
  refine dr_goto la_1945 rfl ?_
  refine dm_wk (ls2 := [some (.retAddr 2), some (.ref 0), some (.ref 26), some (.ref 36), some (dI i), none, none]) ⟨Or.inr rfl, Or.inr rfl, Or.inr rfl, Or.inr rfl, Or.inr rfl, Or.inl rfl, Or.inl rfl, trivial⟩ ?_
  refine dm_cew (ce2 := ce + 2000) (sl2 := sl + 60000) (by omega) (by omega) ?_
  exact K _ _ _ _ _ hI19 hS21 hM22 (by omega)
set_option maxHeartbeats 4000000 in
set_option maxRecDepth 100000 in
theorem lw_c36 (l : Launch) (hl : l.stackTraces = false) {L : Nat} {xs : Nat → Int32} (hL : L ≤ 384) {kc : Int} {h : dm_H} {B : Int} {σ : St} {th : Int} (hI : Inv kc kc h) (hS : CSt B σ h) (hM : MSt kc th σ h) {i : Int} (hi0 : 0 ≤ i) (hi6 : i + 6 ≤ L) (hB : 6 * B ≤ 20 * i) {ce sl : Nat} (hce : ce + 2000 ≤ 1200128) (hsl : sl + 60000 ≤ 5501098) (K : lw_K l L xs i (ce + 2000) (sl + 60000)) : dm_W (lw_E L xs) lw_PL l 329 420 1200128 5501098 1948 [some (.retAddr 2), some (.ref 0), some (.ref 26), some (.ref 36), some (dI i), none, none] [] h ce sl := by
  obtain ⟨x1, x1a, x1b, x1e⟩ := sv_x xs (i + 1)
  obtain ⟨x2, x2a, x2b, x2e⟩ := sv_x xs (i + 2)
  refine di_aload_n la_1948 rfl ?_
  refine dr_aload_n la_1949 rfl (Or.inr (Or.inr ⟨_, rfl⟩)) ?_
  refine dr_iload la_1950 rfl ?_
  refine di_const la_1952 ?_
  refine di_iadd la_1953 ?_
  refine dr_xldE la_1954 (by omega) (by omega) hL x1e ?_
  refine dr_aload_n la_1955 rfl (Or.inr (Or.inr ⟨_, rfl⟩)) ?_
  refine dr_iload la_1956 rfl ?_
  refine di_const la_1958 ?_
  refine di_iadd la_1959 ?_
  refine dr_xldE la_1960 (by omega) (by omega) hL x2e ?_
  refine di_aload_n la_1961 rfl ?_
  refine dr_statH la_1962 rfl (by decide +kernel) rfl (t_L_choice l hl hI hS (by omega) (a1 := x1) (by omega) (by omega) (a2 := x2) (by omega) (by omega)) (by decide) (by omega) (by omega) (Nat.le_of_ble_eq_true rfl) kQLN (kQL (fun h11 hI12 hF13 hS14 hq16 ho17 => ?_))
  have hM15 := MSt_FL hM hF13
  refine di_istore (ls2 := [some (.retAddr 2), some (.ref 0), some (.ref 26), some (.ref 36), some (dI i), some (dI (spChoice σ x1 x2).1), none]) la_1965 rfl rfl ?_
  refine di_aload_n la_1967 rfl ?_
  refine dr_aload_n la_1968 rfl (Or.inr (Or.inr ⟨_, rfl⟩)) ?_
  refine dr_iload la_1969 rfl ?_
  refine di_const la_1971 ?_
  refine di_iadd la_1972 ?_
  refine dr_xldE la_1973 (by omega) (by omega) hL x1e ?_
  refine dr_aload_n la_1974 rfl (Or.inr (Or.inr ⟨_, rfl⟩)) ?_
  refine dr_iload la_1975 rfl ?_
  refine di_const la_1977 ?_
  refine di_iadd la_1978 ?_
  refine dr_xldE la_1979 (by omega) (by omega) hL x2e ?_
  obtain ⟨nic23, c23, -⟩ := hM15.1
  refine dr_virt la_1980 rfl rfl rfl c23 (n_X8_choice l hl hI12 hM15 (a1 := x1) (by omega) (by omega) (a2 := x2) (by omega) (by omega) (CSt_sSt hS)) (by decide) (by omega) (by omega) (Nat.le_of_ble_eq_true rfl) kQMAN (kQMA9 (fun a24 h18 hI19 hF20 hM22 a24a a24b a24e => ?_))
  have hS21 := CSt_FrN hS14 hI12 hF20
  refine di_istore (ls2 := [some (.retAddr 2), some (.ref 0), some (.ref 26), some (.ref 36), some (dI i), some (dI (spChoice σ x1 x2).1), some (dI a24)]) la_1983 rfl rfl ?_
  refine dr_goto la_1985 rfl ?_
  refine dm_wk (ls2 := [some (.retAddr 2), some (.ref 0), some (.ref 26), some (.ref 36), some (dI i), none, none]) ⟨Or.inr rfl, Or.inr rfl, Or.inr rfl, Or.inr rfl, Or.inr rfl, Or.inl rfl, Or.inl rfl, trivial⟩ ?_
  refine dm_cew (ce2 := ce + 2000) (sl2 := sl + 60000) (by omega) (by omega) ?_
  exact K _ _ _ _ _ hI19 hS21 hM22 (by omega)
set_option maxHeartbeats 4000000 in
set_option maxRecDepth 100000 in
theorem lw_c37 (l : Launch) (hl : l.stackTraces = false) {L : Nat} {xs : Nat → Int32} (hL : L ≤ 384) {kc : Int} {h : dm_H} {B : Int} {σ : St} {th : Int} (hI : Inv kc kc h) (hS : CSt B σ h) (hM : MSt kc th σ h) {i : Int} (hi0 : 0 ≤ i) (hi6 : i + 6 ≤ L) (hB : 6 * B ≤ 20 * i) {ce sl : Nat} (hce : ce + 2000 ≤ 1200128) (hsl : sl + 60000 ≤ 5501098) (K : lw_K l L xs i (ce + 2000) (sl + 60000)) : dm_W (lw_E L xs) lw_PL l 329 420 1200128 5501098 1988 [some (.retAddr 2), some (.ref 0), some (.ref 26), some (.ref 36), some (dI i), none, none] [] h ce sl := by
  obtain ⟨x1, x1a, x1b, x1e⟩ := sv_x xs (i + 1)
  obtain ⟨x2, x2a, x2b, x2e⟩ := sv_x xs (i + 2)
  refine di_aload_n la_1988 rfl ?_
  refine dr_aload_n la_1989 rfl (Or.inr (Or.inr ⟨_, rfl⟩)) ?_
  refine dr_iload la_1990 rfl ?_
  refine di_const la_1992 ?_
  refine di_iadd la_1993 ?_
  refine dr_xldE la_1994 (by omega) (by omega) hL x1e ?_
  refine dr_aload_n la_1995 rfl (Or.inr (Or.inr ⟨_, rfl⟩)) ?_
  refine dr_iload la_1996 rfl ?_
  refine di_const la_1998 ?_
  refine di_iadd la_1999 ?_
  refine dr_xldE la_2000 (by omega) (by omega) hL x2e ?_
  refine di_aload_n la_2001 rfl ?_
  refine dr_statH la_2002 rfl (by decide +kernel) rfl (t_L_unheld l hl hI hS (by omega) (a1 := x1) (by omega) (by omega) (a2 := x2) (by omega) (by omega)) (by decide) (by omega) (by omega) (Nat.le_of_ble_eq_true rfl) kQLN (kQL (fun h11 hI12 hF13 hS14 hq16 ho17 => ?_))
  have hM15 := MSt_FL hM hF13
  refine di_istore (ls2 := [some (.retAddr 2), some (.ref 0), some (.ref 26), some (.ref 36), some (dI i), some (dI (spUnheld σ x1 x2).1), none]) la_2005 rfl rfl ?_
  refine di_aload_n la_2007 rfl ?_
  refine dr_aload_n la_2008 rfl (Or.inr (Or.inr ⟨_, rfl⟩)) ?_
  refine dr_iload la_2009 rfl ?_
  refine di_const la_2011 ?_
  refine di_iadd la_2012 ?_
  refine dr_xldE la_2013 (by omega) (by omega) hL x1e ?_
  refine dr_aload_n la_2014 rfl (Or.inr (Or.inr ⟨_, rfl⟩)) ?_
  refine dr_iload la_2015 rfl ?_
  refine di_const la_2017 ?_
  refine di_iadd la_2018 ?_
  refine dr_xldE la_2019 (by omega) (by omega) hL x2e ?_
  obtain ⟨nic23, c23, -⟩ := hM15.1
  refine dr_virt la_2020 rfl rfl rfl c23 (n_X8_unheld l hl hI12 hM15 (a1 := x1) (by omega) (by omega) (a2 := x2) (by omega) (by omega) (CSt_sSt hS)) (by decide) (by omega) (by omega) (Nat.le_of_ble_eq_true rfl) kQMAN (kQMA9 (fun a24 h18 hI19 hF20 hM22 a24a a24b a24e => ?_))
  have hS21 := CSt_FrN hS14 hI12 hF20
  refine di_istore (ls2 := [some (.retAddr 2), some (.ref 0), some (.ref 26), some (.ref 36), some (dI i), some (dI (spUnheld σ x1 x2).1), some (dI a24)]) la_2023 rfl rfl ?_
  refine dr_goto la_2025 rfl ?_
  refine dm_wk (ls2 := [some (.retAddr 2), some (.ref 0), some (.ref 26), some (.ref 36), some (dI i), none, none]) ⟨Or.inr rfl, Or.inr rfl, Or.inr rfl, Or.inr rfl, Or.inr rfl, Or.inl rfl, Or.inl rfl, trivial⟩ ?_
  refine dm_cew (ce2 := ce + 2000) (sl2 := sl + 60000) (by omega) (by omega) ?_
  exact K _ _ _ _ _ hI19 hS21 hM22 (by omega)
set_option maxHeartbeats 4000000 in
set_option maxRecDepth 100000 in
theorem lw_c38 (l : Launch) (hl : l.stackTraces = false) {L : Nat} {xs : Nat → Int32} (hL : L ≤ 384) {kc : Int} {h : dm_H} {B : Int} {σ : St} {th : Int} (hI : Inv kc kc h) (hS : CSt B σ h) (hM : MSt kc th σ h) {i : Int} (hi0 : 0 ≤ i) (hi6 : i + 6 ≤ L) (hB : 6 * B ≤ 20 * i) {ce sl : Nat} (hce : ce + 2000 ≤ 1200128) (hsl : sl + 60000 ≤ 5501098) (K : lw_K l L xs i (ce + 2000) (sl + 60000)) : dm_W (lw_E L xs) lw_PL l 329 420 1200128 5501098 2028 [some (.retAddr 2), some (.ref 0), some (.ref 26), some (.ref 36), some (dI i), none, none] [] h ce sl := by
  obtain ⟨x1, x1a, x1b, x1e⟩ := sv_x xs (i + 1)
  obtain ⟨x2, x2a, x2b, x2e⟩ := sv_x xs (i + 2)
  refine di_aload_n la_2028 rfl ?_
  refine dr_aload_n la_2029 rfl (Or.inr (Or.inr ⟨_, rfl⟩)) ?_
  refine dr_iload la_2030 rfl ?_
  refine di_const la_2032 ?_
  refine di_iadd la_2033 ?_
  refine dr_xldE la_2034 (by omega) (by omega) hL x1e ?_
  refine dr_aload_n la_2035 rfl (Or.inr (Or.inr ⟨_, rfl⟩)) ?_
  refine dr_iload la_2036 rfl ?_
  refine di_const la_2038 ?_
  refine di_iadd la_2039 ?_
  refine dr_xldE la_2040 (by omega) (by omega) hL x2e ?_
  refine di_aload_n la_2041 rfl ?_
  refine dr_statH la_2042 rfl (by decide +kernel) rfl (t_L_holders l hl hI hS (by omega) (a1 := x1) (by omega) (by omega) (a2 := x2) (by omega) (by omega)) (by decide) (by omega) (by omega) (Nat.le_of_ble_eq_true rfl) kQLN (kQL (fun h11 hI12 hF13 hS14 hq16 ho17 => ?_))
  have hM15 := MSt_FL hM hF13
  refine di_istore (ls2 := [some (.retAddr 2), some (.ref 0), some (.ref 26), some (.ref 36), some (dI i), some (dI (spHolders σ x1 x2).1), none]) la_2045 rfl rfl ?_
  refine di_aload_n la_2047 rfl ?_
  refine dr_aload_n la_2048 rfl (Or.inr (Or.inr ⟨_, rfl⟩)) ?_
  refine dr_iload la_2049 rfl ?_
  refine di_const la_2051 ?_
  refine di_iadd la_2052 ?_
  refine dr_xldE la_2053 (by omega) (by omega) hL x1e ?_
  refine dr_aload_n la_2054 rfl (Or.inr (Or.inr ⟨_, rfl⟩)) ?_
  refine dr_iload la_2055 rfl ?_
  refine di_const la_2057 ?_
  refine di_iadd la_2058 ?_
  refine dr_xldE la_2059 (by omega) (by omega) hL x2e ?_
  obtain ⟨nic23, c23, -⟩ := hM15.1
  refine dr_virt la_2060 rfl rfl rfl c23 (n_X8_holders l hl hI12 hM15 (a1 := x1) (by omega) (by omega) (a2 := x2) (by omega) (by omega) (CSt_sSt hS)) (by decide) (by omega) (by omega) (Nat.le_of_ble_eq_true rfl) kQM9N (kQM9 (fun a24 h18 hI19 hF20 hM22 a24a a24b a24e => ?_))
  have hS21 := CSt_FrM2 hS14 hF20
  refine di_istore (ls2 := [some (.retAddr 2), some (.ref 0), some (.ref 26), some (.ref 36), some (dI i), some (dI (spHolders σ x1 x2).1), some (dI a24)]) la_2063 rfl rfl ?_
  refine dr_goto la_2065 rfl ?_
  refine dm_wk (ls2 := [some (.retAddr 2), some (.ref 0), some (.ref 26), some (.ref 36), some (dI i), none, none]) ⟨Or.inr rfl, Or.inr rfl, Or.inr rfl, Or.inr rfl, Or.inr rfl, Or.inl rfl, Or.inl rfl, trivial⟩ ?_
  refine dm_cew (ce2 := ce + 2000) (sl2 := sl + 60000) (by omega) (by omega) ?_
  exact K _ _ _ _ _ hI19 hS21 hM22 (by omega)
set_option maxHeartbeats 4000000 in
set_option maxRecDepth 100000 in
theorem lw_c39 (l : Launch) (hl : l.stackTraces = false) {L : Nat} {xs : Nat → Int32} (hL : L ≤ 384) {kc : Int} {h : dm_H} {B : Int} {σ : St} {th : Int} (hI : Inv kc kc h) (hS : CSt B σ h) (hM : MSt kc th σ h) {i : Int} (hi0 : 0 ≤ i) (hi6 : i + 6 ≤ L) (hB : 6 * B ≤ 20 * i) {ce sl : Nat} (hce : ce + 2000 ≤ 1200128) (hsl : sl + 60000 ≤ 5501098) (K : lw_K l L xs i (ce + 2000) (sl + 60000)) : dm_W (lw_E L xs) lw_PL l 329 420 1200128 5501098 2068 [some (.retAddr 2), some (.ref 0), some (.ref 26), some (.ref 36), some (dI i), none, none] [] h ce sl := by
  obtain ⟨x1, x1a, x1b, x1e⟩ := sv_x xs (i + 1)
  obtain ⟨x2, x2a, x2b, x2e⟩ := sv_x xs (i + 2)
  refine di_aload_n la_2068 rfl ?_
  refine dr_aload_n la_2069 rfl (Or.inr (Or.inr ⟨_, rfl⟩)) ?_
  refine dr_iload la_2070 rfl ?_
  refine di_const la_2072 ?_
  refine di_iadd la_2073 ?_
  refine dr_xldE la_2074 (by omega) (by omega) hL x1e ?_
  refine dr_aload_n la_2075 rfl (Or.inr (Or.inr ⟨_, rfl⟩)) ?_
  refine dr_iload la_2076 rfl ?_
  refine di_const la_2078 ?_
  refine di_iadd la_2079 ?_
  refine dr_xldE la_2080 (by omega) (by omega) hL x2e ?_
  refine di_if_eq la_2081 rfl (by omega) (by omega) (fun cz11 => ?_) (fun cz11 => ?_)
  · skip
    refine di_const la_2088 ?_
    refine di_aload_n la_2089 rfl ?_
    refine dr_statH la_2090 rfl (by decide +kernel) rfl (t_L_deepest l hl hI hS (by omega) (a1 := x1) (by omega) (by omega) (a2 := 0) (by omega) (by omega)) (by decide) (by omega) (by omega) (Nat.le_of_ble_eq_true rfl) kQLN (kQL (fun h12 hI13 hF14 hS15 hq17 ho18 => ?_))
    have hM16 := MSt_FL hM hF14
    refine di_istore (ls2 := [some (.retAddr 2), some (.ref 0), some (.ref 26), some (.ref 36), some (dI i), some (dI (spDeepest σ x1 0).1), none]) la_2093 rfl rfl ?_
    refine di_aload_n la_2095 rfl ?_
    refine dr_aload_n la_2096 rfl (Or.inr (Or.inr ⟨_, rfl⟩)) ?_
    refine dr_iload la_2097 rfl ?_
    refine di_const la_2099 ?_
    refine di_iadd la_2100 ?_
    refine dr_xldE la_2101 (by omega) (by omega) hL x1e ?_
    refine dr_aload_n la_2102 rfl (Or.inr (Or.inr ⟨_, rfl⟩)) ?_
    refine dr_iload la_2103 rfl ?_
    refine di_const la_2105 ?_
    refine di_iadd la_2106 ?_
    refine dr_xldE la_2107 (by omega) (by omega) hL x2e ?_
    refine di_if_eq la_2108 rfl (by omega) (by omega) (fun _ => ?_) (fun c9 => absurd cz11 c9)
    refine di_const la_2115 ?_
    obtain ⟨nic24, c24, -⟩ := hM16.1
    refine dr_virt la_2116 rfl rfl rfl c24 (n_X8_deepest l hl hI13 hM16 (a1 := x1) (by omega) (by omega) (a2 := 0) (by omega) (by omega) ) (by decide) (by omega) (by omega) (Nat.le_of_ble_eq_true rfl) kQM9N (kQM9 (fun a25 h19 hI20 hF21 hM23 a25a a25b a25e => ?_))
    have hS22 := CSt_FrM2 hS15 hF21
    refine di_istore (ls2 := [some (.retAddr 2), some (.ref 0), some (.ref 26), some (.ref 36), some (dI i), some (dI (spDeepest σ x1 0).1), some (dI a25)]) la_2119 rfl rfl ?_
    refine dr_goto la_2121 rfl ?_
    refine dm_wk (ls2 := [some (.retAddr 2), some (.ref 0), some (.ref 26), some (.ref 36), some (dI i), none, none]) ⟨Or.inr rfl, Or.inr rfl, Or.inr rfl, Or.inr rfl, Or.inr rfl, Or.inl rfl, Or.inl rfl, trivial⟩ ?_
    refine dm_cew (ce2 := ce + 2000) (sl2 := sl + 60000) (by omega) (by omega) ?_
    exact K _ _ _ _ _ hI20 hS22 hM23 (by omega)
  · skip
    refine di_const la_2084 ?_
    refine dr_goto la_2085 rfl ?_
    refine di_aload_n la_2089 rfl ?_
    refine dr_statH la_2090 rfl (by decide +kernel) rfl (t_L_deepest l hl hI hS (by omega) (a1 := x1) (by omega) (by omega) (a2 := 1) (by omega) (by omega)) (by decide) (by omega) (by omega) (Nat.le_of_ble_eq_true rfl) kQLN (kQL (fun h26 hI27 hF28 hS29 hq31 ho32 => ?_))
    have hM30 := MSt_FL hM hF28
    refine di_istore (ls2 := [some (.retAddr 2), some (.ref 0), some (.ref 26), some (.ref 36), some (dI i), some (dI (spDeepest σ x1 1).1), none]) la_2093 rfl rfl ?_
    refine di_aload_n la_2095 rfl ?_
    refine dr_aload_n la_2096 rfl (Or.inr (Or.inr ⟨_, rfl⟩)) ?_
    refine dr_iload la_2097 rfl ?_
    refine di_const la_2099 ?_
    refine di_iadd la_2100 ?_
    refine dr_xldE la_2101 (by omega) (by omega) hL x1e ?_
    refine dr_aload_n la_2102 rfl (Or.inr (Or.inr ⟨_, rfl⟩)) ?_
    refine dr_iload la_2103 rfl ?_
    refine di_const la_2105 ?_
    refine di_iadd la_2106 ?_
    refine dr_xldE la_2107 (by omega) (by omega) hL x2e ?_
    refine di_if_eq la_2108 rfl (by omega) (by omega) (fun c9 => absurd c9 cz11) (fun _ => ?_)
    refine di_const la_2111 ?_
    refine dr_goto la_2112 rfl ?_
    obtain ⟨nic38, c38, -⟩ := hM30.1
    refine dr_virt la_2116 rfl rfl rfl c38 (n_X8_deepest l hl hI27 hM30 (a1 := x1) (by omega) (by omega) (a2 := 1) (by omega) (by omega) ) (by decide) (by omega) (by omega) (Nat.le_of_ble_eq_true rfl) kQM9N (kQM9 (fun a39 h33 hI34 hF35 hM37 a39a a39b a39e => ?_))
    have hS36 := CSt_FrM2 hS29 hF35
    refine di_istore (ls2 := [some (.retAddr 2), some (.ref 0), some (.ref 26), some (.ref 36), some (dI i), some (dI (spDeepest σ x1 1).1), some (dI a39)]) la_2119 rfl rfl ?_
    refine dr_goto la_2121 rfl ?_
    refine dm_wk (ls2 := [some (.retAddr 2), some (.ref 0), some (.ref 26), some (.ref 36), some (dI i), none, none]) ⟨Or.inr rfl, Or.inr rfl, Or.inr rfl, Or.inr rfl, Or.inr rfl, Or.inl rfl, Or.inl rfl, trivial⟩ ?_
    refine dm_cew (ce2 := ce + 2000) (sl2 := sl + 60000) (by omega) (by omega) ?_
    exact K _ _ _ _ _ hI34 hS36 hM37 (by omega)
set_option maxHeartbeats 4000000 in
set_option maxRecDepth 100000 in
theorem lw_c40 (l : Launch) (hl : l.stackTraces = false) {L : Nat} {xs : Nat → Int32} (hL : L ≤ 384) {kc : Int} {h : dm_H} {B : Int} {σ : St} {th : Int} (hI : Inv kc kc h) (hS : CSt B σ h) (hM : MSt kc th σ h) {i : Int} (hi0 : 0 ≤ i) (hi6 : i + 6 ≤ L) (hB : 6 * B ≤ 20 * i) {ce sl : Nat} (hce : ce + 2000 ≤ 1200128) (hsl : sl + 60000 ≤ 5501098) (K : lw_K l L xs i (ce + 2000) (sl + 60000)) : dm_W (lw_E L xs) lw_PL l 329 420 1200128 5501098 2124 [some (.retAddr 2), some (.ref 0), some (.ref 26), some (.ref 36), some (dI i), none, none] [] h ce sl := by
  obtain ⟨x1, x1a, x1b, x1e⟩ := sv_x xs (i + 1)
  refine di_aload_n la_2124 rfl ?_
  refine dr_aload_n la_2125 rfl (Or.inr (Or.inr ⟨_, rfl⟩)) ?_
  refine dr_iload la_2126 rfl ?_
  refine di_const la_2128 ?_
  refine di_iadd la_2129 ?_
  refine dr_xldE la_2130 (by omega) (by omega) hL x1e ?_
  refine di_aload_n la_2131 rfl ?_
  refine dr_statH la_2132 rfl (by decide +kernel) rfl (t_L_rooms l hl hI hS (by omega) (a1 := x1) (by omega) (by omega)) (by decide) (by omega) (by omega) (Nat.le_of_ble_eq_true rfl) kQLN (kQL (fun h11 hI12 hF13 hS14 hq16 ho17 => ?_))
  have hM15 := MSt_FL hM hF13
  refine di_istore (ls2 := [some (.retAddr 2), some (.ref 0), some (.ref 26), some (.ref 36), some (dI i), some (dI (spRooms σ x1).1), none]) la_2135 rfl rfl ?_
  refine di_aload_n la_2137 rfl ?_
  refine dr_aload_n la_2138 rfl (Or.inr (Or.inr ⟨_, rfl⟩)) ?_
  refine dr_iload la_2139 rfl ?_
  refine di_const la_2141 ?_
  refine di_iadd la_2142 ?_
  refine dr_xldE la_2143 (by omega) (by omega) hL x1e ?_
  obtain ⟨nic23, c23, -⟩ := hM15.1
  refine dr_virt la_2144 rfl rfl rfl c23 (n_X8_rooms l hl hI12 hM15 (a1 := x1) (by omega) (by omega) (CSt_sSt hS)) (by decide) (by omega) (by omega) (Nat.le_of_ble_eq_true rfl) kQMAN (kQMA9 (fun a24 h18 hI19 hF20 hM22 a24a a24b a24e => ?_))
  have hS21 := CSt_FrN hS14 hI12 hF20
  refine di_istore (ls2 := [some (.retAddr 2), some (.ref 0), some (.ref 26), some (.ref 36), some (dI i), some (dI (spRooms σ x1).1), some (dI a24)]) la_2147 rfl rfl ?_
  refine dr_goto la_2149 rfl ?_
  refine dm_wk (ls2 := [some (.retAddr 2), some (.ref 0), some (.ref 26), some (.ref 36), some (dI i), none, none]) ⟨Or.inr rfl, Or.inr rfl, Or.inr rfl, Or.inr rfl, Or.inr rfl, Or.inl rfl, Or.inl rfl, trivial⟩ ?_
  refine dm_cew (ce2 := ce + 2000) (sl2 := sl + 60000) (by omega) (by omega) ?_
  exact K _ _ _ _ _ hI19 hS21 hM22 (by omega)
set_option maxHeartbeats 4000000 in
set_option maxRecDepth 100000 in
theorem lw_c41 (l : Launch) (hl : l.stackTraces = false) {L : Nat} {xs : Nat → Int32} (hL : L ≤ 384) {kc : Int} {h : dm_H} {B : Int} {σ : St} {th : Int} (hI : Inv kc kc h) (hS : CSt B σ h) (hM : MSt kc th σ h) {i : Int} (hi0 : 0 ≤ i) (hi6 : i + 6 ≤ L) (hB : 6 * B ≤ 20 * i) {ce sl : Nat} (hce : ce + 2000 ≤ 1200128) (hsl : sl + 60000 ≤ 5501098) (K : lw_K l L xs i (ce + 2000) (sl + 60000)) : dm_W (lw_E L xs) lw_PL l 329 420 1200128 5501098 2152 [some (.retAddr 2), some (.ref 0), some (.ref 26), some (.ref 36), some (dI i), none, none] [] h ce sl := by
  obtain ⟨x1, x1a, x1b, x1e⟩ := sv_x xs (i + 1)
  obtain ⟨x2, x2a, x2b, x2e⟩ := sv_x xs (i + 2)
  obtain ⟨x3, x3a, x3b, x3e⟩ := sv_x xs (i + 3)
  refine di_aload_n la_2152 rfl ?_
  refine dr_aload_n la_2153 rfl (Or.inr (Or.inr ⟨_, rfl⟩)) ?_
  refine dr_iload la_2154 rfl ?_
  refine di_const la_2156 ?_
  refine di_iadd la_2157 ?_
  refine dr_xldE la_2158 (by omega) (by omega) hL x1e ?_
  refine dr_aload_n la_2159 rfl (Or.inr (Or.inr ⟨_, rfl⟩)) ?_
  refine dr_iload la_2160 rfl ?_
  refine di_const la_2162 ?_
  refine di_iadd la_2163 ?_
  refine dr_xldE la_2164 (by omega) (by omega) hL x2e ?_
  refine dr_aload_n la_2165 rfl (Or.inr (Or.inr ⟨_, rfl⟩)) ?_
  refine dr_iload la_2166 rfl ?_
  refine di_const la_2168 ?_
  refine di_iadd la_2169 ?_
  refine dr_xldE la_2170 (by omega) (by omega) hL x3e ?_
  refine di_aload_n la_2171 rfl ?_
  refine dr_statH la_2172 rfl (by decide +kernel) rfl (t_L_roomOf l hl hI hS (by omega) (a1 := x1) (by omega) (by omega) (a2 := x2) (by omega) (by omega) (a3 := x3) (by omega) (by omega)) (by decide) (by omega) (by omega) (Nat.le_of_ble_eq_true rfl) kQLN (kQL (fun h11 hI12 hF13 hS14 hq16 ho17 => ?_))
  have hM15 := MSt_FL hM hF13
  refine di_istore (ls2 := [some (.retAddr 2), some (.ref 0), some (.ref 26), some (.ref 36), some (dI i), some (dI (spRoomOf σ x1 x2 x3).1), none]) la_2175 rfl rfl ?_
  refine di_aload_n la_2177 rfl ?_
  refine dr_aload_n la_2178 rfl (Or.inr (Or.inr ⟨_, rfl⟩)) ?_
  refine dr_iload la_2179 rfl ?_
  refine di_const la_2181 ?_
  refine di_iadd la_2182 ?_
  refine dr_xldE la_2183 (by omega) (by omega) hL x1e ?_
  refine dr_aload_n la_2184 rfl (Or.inr (Or.inr ⟨_, rfl⟩)) ?_
  refine dr_iload la_2185 rfl ?_
  refine di_const la_2187 ?_
  refine di_iadd la_2188 ?_
  refine dr_xldE la_2189 (by omega) (by omega) hL x2e ?_
  refine dr_aload_n la_2190 rfl (Or.inr (Or.inr ⟨_, rfl⟩)) ?_
  refine dr_iload la_2191 rfl ?_
  refine di_const la_2193 ?_
  refine di_iadd la_2194 ?_
  refine dr_xldE la_2195 (by omega) (by omega) hL x3e ?_
  obtain ⟨nic23, c23, -⟩ := hM15.1
  refine dr_virt la_2196 rfl rfl rfl c23 (n_X8_roomOf l hl hI12 hM15 (a1 := x1) (by omega) (by omega) (a2 := x2) (by omega) (by omega) (a3 := x3) (by omega) (by omega) (CSt_sSt hS)) (by decide) (by omega) (by omega) (Nat.le_of_ble_eq_true rfl) kQMAN (kQMA9 (fun a24 h18 hI19 hF20 hM22 a24a a24b a24e => ?_))
  have hS21 := CSt_FrN hS14 hI12 hF20
  refine di_istore (ls2 := [some (.retAddr 2), some (.ref 0), some (.ref 26), some (.ref 36), some (dI i), some (dI (spRoomOf σ x1 x2 x3).1), some (dI a24)]) la_2199 rfl rfl ?_
  refine dr_goto la_2201 rfl ?_
  refine dm_wk (ls2 := [some (.retAddr 2), some (.ref 0), some (.ref 26), some (.ref 36), some (dI i), none, none]) ⟨Or.inr rfl, Or.inr rfl, Or.inr rfl, Or.inr rfl, Or.inr rfl, Or.inl rfl, Or.inl rfl, trivial⟩ ?_
  refine dm_cew (ce2 := ce + 2000) (sl2 := sl + 60000) (by omega) (by omega) ?_
  exact K _ _ _ _ _ hI19 hS21 hM22 (by omega)
set_option maxHeartbeats 4000000 in
set_option maxRecDepth 100000 in
theorem lw_c42 (l : Launch) (hl : l.stackTraces = false) {L : Nat} {xs : Nat → Int32} (hL : L ≤ 384) {kc : Int} {h : dm_H} {B : Int} {σ : St} {th : Int} (hI : Inv kc kc h) (hS : CSt B σ h) (hM : MSt kc th σ h) {i : Int} (hi0 : 0 ≤ i) (hi6 : i + 6 ≤ L) (hB : 6 * B ≤ 20 * i) {ce sl : Nat} (hce : ce + 2000 ≤ 1200128) (hsl : sl + 60000 ≤ 5501098) (K : lw_K l L xs i (ce + 2000) (sl + 60000)) : dm_W (lw_E L xs) lw_PL l 329 420 1200128 5501098 2204 [some (.retAddr 2), some (.ref 0), some (.ref 26), some (.ref 36), some (dI i), none, none] [] h ce sl := by
  obtain ⟨x1, x1a, x1b, x1e⟩ := sv_x xs (i + 1)
  obtain ⟨x2, x2a, x2b, x2e⟩ := sv_x xs (i + 2)
  obtain ⟨x3, x3a, x3b, x3e⟩ := sv_x xs (i + 3)
  refine di_aload_n la_2204 rfl ?_
  refine dr_aload_n la_2205 rfl (Or.inr (Or.inr ⟨_, rfl⟩)) ?_
  refine dr_iload la_2206 rfl ?_
  refine di_const la_2208 ?_
  refine di_iadd la_2209 ?_
  refine dr_xldE la_2210 (by omega) (by omega) hL x1e ?_
  refine dr_aload_n la_2211 rfl (Or.inr (Or.inr ⟨_, rfl⟩)) ?_
  refine dr_iload la_2212 rfl ?_
  refine di_const la_2214 ?_
  refine di_iadd la_2215 ?_
  refine dr_xldE la_2216 (by omega) (by omega) hL x2e ?_
  refine dr_aload_n la_2217 rfl (Or.inr (Or.inr ⟨_, rfl⟩)) ?_
  refine dr_iload la_2218 rfl ?_
  refine di_const la_2220 ?_
  refine di_iadd la_2221 ?_
  refine dr_xldE la_2222 (by omega) (by omega) hL x3e ?_
  refine di_aload_n la_2223 rfl ?_
  refine dr_statH la_2224 rfl (by decide +kernel) rfl (t_L_links l hl hI hS (by omega) (a1 := x1) (by omega) (by omega) (a2 := x2) (by omega) (by omega) (a3 := x3) (by omega) (by omega)) (by decide) (by omega) (by omega) (Nat.le_of_ble_eq_true rfl) kQLN (kQL (fun h11 hI12 hF13 hS14 hq16 ho17 => ?_))
  have hM15 := MSt_FL hM hF13
  refine di_istore (ls2 := [some (.retAddr 2), some (.ref 0), some (.ref 26), some (.ref 36), some (dI i), some (dI (spLinks σ x1 x2 x3).1), none]) la_2227 rfl rfl ?_
  refine di_aload_n la_2229 rfl ?_
  refine dr_aload_n la_2230 rfl (Or.inr (Or.inr ⟨_, rfl⟩)) ?_
  refine dr_iload la_2231 rfl ?_
  refine di_const la_2233 ?_
  refine di_iadd la_2234 ?_
  refine dr_xldE la_2235 (by omega) (by omega) hL x1e ?_
  refine dr_aload_n la_2236 rfl (Or.inr (Or.inr ⟨_, rfl⟩)) ?_
  refine dr_iload la_2237 rfl ?_
  refine di_const la_2239 ?_
  refine di_iadd la_2240 ?_
  refine dr_xldE la_2241 (by omega) (by omega) hL x2e ?_
  refine dr_aload_n la_2242 rfl (Or.inr (Or.inr ⟨_, rfl⟩)) ?_
  refine dr_iload la_2243 rfl ?_
  refine di_const la_2245 ?_
  refine di_iadd la_2246 ?_
  refine dr_xldE la_2247 (by omega) (by omega) hL x3e ?_
  obtain ⟨nic23, c23, -⟩ := hM15.1
  refine dr_virt la_2248 rfl rfl rfl c23 (n_X8_links l hl hI12 hM15 (a1 := x1) (by omega) (by omega) (a2 := x2) (by omega) (by omega) (a3 := x3) (by omega) (by omega) ) (by decide) (by omega) (by omega) (Nat.le_of_ble_eq_true rfl) kQM9N (kQM9 (fun a24 h18 hI19 hF20 hM22 a24a a24b a24e => ?_))
  have hS21 := CSt_FrM2 hS14 hF20
  refine di_istore (ls2 := [some (.retAddr 2), some (.ref 0), some (.ref 26), some (.ref 36), some (dI i), some (dI (spLinks σ x1 x2 x3).1), some (dI a24)]) la_2251 rfl rfl ?_
  refine dr_goto la_2253 rfl ?_
  refine dm_wk (ls2 := [some (.retAddr 2), some (.ref 0), some (.ref 26), some (.ref 36), some (dI i), none, none]) ⟨Or.inr rfl, Or.inr rfl, Or.inr rfl, Or.inr rfl, Or.inr rfl, Or.inl rfl, Or.inl rfl, trivial⟩ ?_
  refine dm_cew (ce2 := ce + 2000) (sl2 := sl + 60000) (by omega) (by omega) ?_
  exact K _ _ _ _ _ hI19 hS21 hM22 (by omega)
set_option maxHeartbeats 4000000 in
set_option maxRecDepth 100000 in
theorem lw_c43 (l : Launch) (hl : l.stackTraces = false) {L : Nat} {xs : Nat → Int32} (hL : L ≤ 384) {kc : Int} {h : dm_H} {B : Int} {σ : St} {th : Int} (hI : Inv kc kc h) (hS : CSt B σ h) (hM : MSt kc th σ h) {i : Int} (hi0 : 0 ≤ i) (hi6 : i + 6 ≤ L) (hB : 6 * B ≤ 20 * i) {ce sl : Nat} (hce : ce + 2000 ≤ 1200128) (hsl : sl + 60000 ≤ 5501098) (K : lw_K l L xs i (ce + 2000) (sl + 60000)) : dm_W (lw_E L xs) lw_PL l 329 420 1200128 5501098 2256 [some (.retAddr 2), some (.ref 0), some (.ref 26), some (.ref 36), some (dI i), none, none] [] h ce sl := by
  obtain ⟨x1, x1a, x1b, x1e⟩ := sv_x xs (i + 1)
  obtain ⟨x2, x2a, x2b, x2e⟩ := sv_x xs (i + 2)
  obtain ⟨x3, x3a, x3b, x3e⟩ := sv_x xs (i + 3)
  obtain ⟨x4, x4a, x4b, x4e⟩ := sv_x xs (i + 4)
  refine di_aload_n la_2256 rfl ?_
  refine dr_aload_n la_2257 rfl (Or.inr (Or.inr ⟨_, rfl⟩)) ?_
  refine dr_iload la_2258 rfl ?_
  refine di_const la_2260 ?_
  refine di_iadd la_2261 ?_
  refine dr_xldE la_2262 (by omega) (by omega) hL x1e ?_
  refine dr_aload_n la_2263 rfl (Or.inr (Or.inr ⟨_, rfl⟩)) ?_
  refine dr_iload la_2264 rfl ?_
  refine di_const la_2266 ?_
  refine di_iadd la_2267 ?_
  refine dr_xldE la_2268 (by omega) (by omega) hL x2e ?_
  refine dr_aload_n la_2269 rfl (Or.inr (Or.inr ⟨_, rfl⟩)) ?_
  refine dr_iload la_2270 rfl ?_
  refine di_const la_2272 ?_
  refine di_iadd la_2273 ?_
  refine dr_xldE la_2274 (by omega) (by omega) hL x3e ?_
  refine dr_aload_n la_2275 rfl (Or.inr (Or.inr ⟨_, rfl⟩)) ?_
  refine dr_iload la_2276 rfl ?_
  refine di_const la_2278 ?_
  refine di_iadd la_2279 ?_
  refine dr_xldE la_2280 (by omega) (by omega) hL x4e ?_
  refine di_aload_n la_2281 rfl ?_
  refine dr_statH la_2282 rfl (by decide +kernel) rfl (t_L_link l hl hI hS (by omega) (a1 := x1) (by omega) (by omega) (a2 := x2) (by omega) (by omega) (a3 := x3) (by omega) (by omega) (a4 := x4) (by omega) (by omega)) (by decide) (by omega) (by omega) (Nat.le_of_ble_eq_true rfl) kQLN (kQL (fun h11 hI12 hF13 hS14 hq16 ho17 => ?_))
  have hM15 := MSt_FL hM hF13
  refine di_istore (ls2 := [some (.retAddr 2), some (.ref 0), some (.ref 26), some (.ref 36), some (dI i), some (dI (spLink σ x1 x2 x3 x4).1), none]) la_2285 rfl rfl ?_
  refine di_aload_n la_2287 rfl ?_
  refine dr_aload_n la_2288 rfl (Or.inr (Or.inr ⟨_, rfl⟩)) ?_
  refine dr_iload la_2289 rfl ?_
  refine di_const la_2291 ?_
  refine di_iadd la_2292 ?_
  refine dr_xldE la_2293 (by omega) (by omega) hL x1e ?_
  refine dr_aload_n la_2294 rfl (Or.inr (Or.inr ⟨_, rfl⟩)) ?_
  refine dr_iload la_2295 rfl ?_
  refine di_const la_2297 ?_
  refine di_iadd la_2298 ?_
  refine dr_xldE la_2299 (by omega) (by omega) hL x2e ?_
  refine dr_aload_n la_2300 rfl (Or.inr (Or.inr ⟨_, rfl⟩)) ?_
  refine dr_iload la_2301 rfl ?_
  refine di_const la_2303 ?_
  refine di_iadd la_2304 ?_
  refine dr_xldE la_2305 (by omega) (by omega) hL x3e ?_
  refine dr_aload_n la_2306 rfl (Or.inr (Or.inr ⟨_, rfl⟩)) ?_
  refine dr_iload la_2307 rfl ?_
  refine di_const la_2309 ?_
  refine di_iadd la_2310 ?_
  refine dr_xldE la_2311 (by omega) (by omega) hL x4e ?_
  obtain ⟨nic23, c23, -⟩ := hM15.1
  refine dr_virt la_2312 rfl rfl rfl c23 (n_X8_link l hl hI12 hM15 (a1 := x1) (by omega) (by omega) (a2 := x2) (by omega) (by omega) (a3 := x3) (by omega) (by omega) (a4 := x4) (by omega) (by omega) ) (by decide) (by omega) (by omega) (Nat.le_of_ble_eq_true rfl) kQM9N (kQM9 (fun a24 h18 hI19 hF20 hM22 a24a a24b a24e => ?_))
  have hS21 := CSt_FrM2 hS14 hF20
  refine di_istore (ls2 := [some (.retAddr 2), some (.ref 0), some (.ref 26), some (.ref 36), some (dI i), some (dI (spLink σ x1 x2 x3 x4).1), some (dI a24)]) la_2315 rfl rfl ?_
  refine dr_goto la_2317 rfl ?_
  refine dm_wk (ls2 := [some (.retAddr 2), some (.ref 0), some (.ref 26), some (.ref 36), some (dI i), none, none]) ⟨Or.inr rfl, Or.inr rfl, Or.inr rfl, Or.inr rfl, Or.inr rfl, Or.inl rfl, Or.inl rfl, trivial⟩ ?_
  refine dm_cew (ce2 := ce + 2000) (sl2 := sl + 60000) (by omega) (by omega) ?_
  exact K _ _ _ _ _ hI19 hS21 hM22 (by omega)
set_option maxHeartbeats 4000000 in
set_option maxRecDepth 100000 in
theorem lw_c44 (l : Launch) (hl : l.stackTraces = false) {L : Nat} {xs : Nat → Int32} (hL : L ≤ 384) {kc : Int} {h : dm_H} {B : Int} {σ : St} {th : Int} (hI : Inv kc kc h) (hS : CSt B σ h) (hM : MSt kc th σ h) {i : Int} (hi0 : 0 ≤ i) (hi6 : i + 6 ≤ L) (hB : 6 * B ≤ 20 * i) {ce sl : Nat} (hce : ce + 2000 ≤ 1200128) (hsl : sl + 60000 ≤ 5501098) (K : lw_K l L xs i (ce + 2000) (sl + 60000)) : dm_W (lw_E L xs) lw_PL l 329 420 1200128 5501098 2320 [some (.retAddr 2), some (.ref 0), some (.ref 26), some (.ref 36), some (dI i), none, none] [] h ce sl := by
  obtain ⟨x1, x1a, x1b, x1e⟩ := sv_x xs (i + 1)
  refine di_aload_n la_2320 rfl ?_
  refine dr_aload_n la_2321 rfl (Or.inr (Or.inr ⟨_, rfl⟩)) ?_
  refine dr_iload la_2322 rfl ?_
  refine di_const la_2324 ?_
  refine di_iadd la_2325 ?_
  refine dr_xldE la_2326 (by omega) (by omega) hL x1e ?_
  refine di_aload_n la_2327 rfl ?_
  refine dr_statH la_2328 rfl (by decide +kernel) rfl (t_L_house l hl hI hS (by omega) (a1 := x1) (by omega) (by omega)) (by decide) (by omega) (by omega) (Nat.le_of_ble_eq_true rfl) kQLN (kQL (fun h11 hI12 hF13 hS14 hq16 ho17 => ?_))
  have hM15 := MSt_FL hM hF13
  refine di_istore (ls2 := [some (.retAddr 2), some (.ref 0), some (.ref 26), some (.ref 36), some (dI i), some (dI (spHouse σ kc x1).1), none]) la_2331 rfl rfl ?_
  refine di_aload_n la_2333 rfl ?_
  refine dr_aload_n la_2334 rfl (Or.inr (Or.inr ⟨_, rfl⟩)) ?_
  refine dr_iload la_2335 rfl ?_
  refine di_const la_2337 ?_
  refine di_iadd la_2338 ?_
  refine dr_xldE la_2339 (by omega) (by omega) hL x1e ?_
  obtain ⟨nic23, c23, -⟩ := hM15.1
  refine dr_virt la_2340 rfl rfl rfl c23 (n_X8_house l hl hI12 hM15 (a1 := x1) (by omega) (by omega) ) (by decide) (by omega) (by omega) (Nat.le_of_ble_eq_true rfl) kQM9N (kQM9 (fun a24 h18 hI19 hF20 hM22 a24a a24b a24e => ?_))
  have hS21 := CSt_FrM2 hS14 hF20
  refine di_istore (ls2 := [some (.retAddr 2), some (.ref 0), some (.ref 26), some (.ref 36), some (dI i), some (dI (spHouse σ kc x1).1), some (dI a24)]) la_2343 rfl rfl ?_
  refine dr_goto la_2345 rfl ?_
  refine dm_wk (ls2 := [some (.retAddr 2), some (.ref 0), some (.ref 26), some (.ref 36), some (dI i), none, none]) ⟨Or.inr rfl, Or.inr rfl, Or.inr rfl, Or.inr rfl, Or.inr rfl, Or.inl rfl, Or.inl rfl, trivial⟩ ?_
  refine dm_cew (ce2 := ce + 2000) (sl2 := sl + 60000) (by omega) (by omega) ?_
  exact K _ _ _ _ _ hI19 hS21 hM22 (by omega)
set_option maxHeartbeats 4000000 in
set_option maxRecDepth 100000 in
theorem lw_c45 (l : Launch) (hl : l.stackTraces = false) {L : Nat} {xs : Nat → Int32} (hL : L ≤ 384) {kc : Int} {h : dm_H} {B : Int} {σ : St} {th : Int} (hI : Inv kc kc h) (hS : CSt B σ h) (hM : MSt kc th σ h) {i : Int} (hi0 : 0 ≤ i) (hi6 : i + 6 ≤ L) (hB : 6 * B ≤ 20 * i) {ce sl : Nat} (hce : ce + 2000 ≤ 1200128) (hsl : sl + 60000 ≤ 5501098) (K : lw_K l L xs i (ce + 2000) (sl + 60000)) : dm_W (lw_E L xs) lw_PL l 329 420 1200128 5501098 2348 [some (.retAddr 2), some (.ref 0), some (.ref 26), some (.ref 36), some (dI i), none, none] [] h ce sl := by
  refine di_aload_n la_2348 rfl ?_
  obtain ⟨rc16, rc16a, rc16b, c16⟩ := I_cls hI
  refine dr_virt la_2349 rfl rfl rfl c16 (t_X6_knock l hl hI) (by decide) (by omega) (by omega) (Nat.le_of_ble_eq_true rfl) kKCN (kKC (fun h11 hI12 hF13 hk17 hk9 => ?_))
  have hS14 := hk9 _ _ hS
  have hM15 := MSt_same hM (fun j j0 _ => hk17 j (by omega))
  refine dr_pop la_2352 rfl ?_
  refine di_aload_n la_2353 rfl ?_
  obtain ⟨nic23, c23, -⟩ := hM15.1
  refine dr_virt la_2354 rfl rfl rfl c23 (t_X8_knock l hl hI12 hM15) (by decide) (by omega) (by omega) (Nat.le_of_ble_eq_true rfl) kKMN (kKM (fun h18 hI19 hF20 hk24 hM22 => ?_))
  have hS21 := CSt_same hS14 (fun j _ j1 _ => hk24 j (by omega))
  refine dr_pop la_2357 rfl ?_
  refine dr_goto la_2358 rfl ?_
  refine dm_cew (ce2 := ce + 2000) (sl2 := sl + 60000) (by omega) (by omega) ?_
  exact K _ _ _ _ _ hI19 hS21 hM22 (by omega)
set_option maxHeartbeats 4000000 in
set_option maxRecDepth 100000 in
theorem lw_c46 (l : Launch) (hl : l.stackTraces = false) {L : Nat} {xs : Nat → Int32} (hL : L ≤ 384) {kc : Int} {h : dm_H} {B : Int} {σ : St} {th : Int} (hI : Inv kc kc h) (hS : CSt B σ h) (hM : MSt kc th σ h) {i : Int} (hi0 : 0 ≤ i) (hi6 : i + 6 ≤ L) (hB : 6 * B ≤ 20 * i) {ce sl : Nat} (hce : ce + 2000 ≤ 1200128) (hsl : sl + 60000 ≤ 5501098) (K : lw_K l L xs i (ce + 2000) (sl + 60000)) : dm_W (lw_E L xs) lw_PL l 329 420 1200128 5501098 2361 [some (.retAddr 2), some (.ref 0), some (.ref 26), some (.ref 36), some (dI i), none, none] [] h ce sl := by
  refine di_aload_n la_2361 rfl ?_
  obtain ⟨rc16, rc16a, rc16b, c16⟩ := I_cls hI
  refine dr_virt la_2362 rfl rfl rfl c16 (c_X6_isSound l hl hI hS (by omega)) (by decide) (by omega) (by omega) (Nat.le_of_ble_eq_true rfl) kS1N (kS1 (fun h11 hI12 hF13 => ?_))
  have hS14 := CSt_T hS hF13
  have hM15 := MSt_same hM (fun j j0 _ => hF13.2 j (by omega))
  refine dr_pop la_2365 rfl ?_
  refine di_aload_n la_2366 rfl ?_
  obtain ⟨nic22, c22, -⟩ := hM15.1
  refine dr_virt la_2367 rfl rfl rfl c22 (n_X8_isSound l hl hI12 hM15 (CSt_sSt hS14)) (by decide) (by omega) (by omega) (Nat.le_of_ble_eq_true rfl) kQMAN (kQMA (fun a23 h17 hI18 hF19 hM21 a23a a23b a23e => ?_))
  have a23e : a23 = 1 := a23e rfl
  subst a23e
  have hM21 : MSt kc 0 σ h17 := hM21
  have hS20 := CSt_FrN hS14 hI12 hF19
  refine dr_pop la_2370 rfl ?_
  refine dr_goto la_2371 rfl ?_
  refine dm_cew (ce2 := ce + 2000) (sl2 := sl + 60000) (by omega) (by omega) ?_
  exact K _ _ _ _ _ hI18 hS20 hM21 (by omega)
set_option maxHeartbeats 4000000 in
set_option maxRecDepth 100000 in
theorem lw_c47 (l : Launch) (hl : l.stackTraces = false) {L : Nat} {xs : Nat → Int32} (hL : L ≤ 384) {kc : Int} {h : dm_H} {B : Int} {σ : St} {th : Int} (hI : Inv kc kc h) (hS : CSt B σ h) (hM : MSt kc th σ h) {i : Int} (hi0 : 0 ≤ i) (hi6 : i + 6 ≤ L) (hB : 6 * B ≤ 20 * i) {ce sl : Nat} (hce : ce + 2000 ≤ 1200128) (hsl : sl + 60000 ≤ 5501098) (K : lw_K l L xs i (ce + 2000) (sl + 60000)) : dm_W (lw_E L xs) lw_PL l 329 420 1200128 5501098 2374 [some (.retAddr 2), some (.ref 0), some (.ref 26), some (.ref 36), some (dI i), none, none] [] h ce sl := by
  refine di_aload_n la_2374 rfl ?_
  obtain ⟨rc16, rc16a, rc16b, c16⟩ := I_cls hI
  refine dr_virt la_2375 rfl rfl rfl c16 (c_X6_digest l hl hI hS (by omega)) (by decide) (by omega) (by omega) (Nat.le_of_ble_eq_true rfl) kQDN (kQD (fun h11 hI12 hF13 hS14 => ?_))
  have hM15 := MSt_same hM (fun j j0 _ => hF13.2 j (by omega))
  refine dr_pop2 la_2378 rfl ?_
  refine di_aload_n la_2379 rfl ?_
  obtain ⟨nic22, c22, -⟩ := hM15.1
  refine dr_virt la_2380 rfl rfl rfl c22 (n_X8_digest l hl hI12 hM15 (CSt_sSt hS14)) (by decide) (by omega) (by omega) (Nat.le_of_ble_eq_true rfl) kQMDN (kQMD (fun h17 hI18 hF19 hM21 => ?_))
  have hS20 := CSt_FrN hS14 hI12 hF19
  refine dr_pop2 la_2383 rfl ?_
  refine dr_goto la_2384 rfl ?_
  refine dm_cew (ce2 := ce + 2000) (sl2 := sl + 60000) (by omega) (by omega) ?_
  exact K _ _ _ _ _ hI18 hS20 hM21 (by omega)
/-! ===== the law's loop and its start ===== -/
theorem in48 {y : Int} (h0 : 0 ≤ y) (h1 : y ≤ 47) : y = 0 ∨ y = 1 ∨ y = 2 ∨ y = 3 ∨ y = 4 ∨ y = 5 ∨ y = 6 ∨ y = 7 ∨ y = 8 ∨ y = 9 ∨ y = 10 ∨ y = 11 ∨ y = 12 ∨ y = 13 ∨ y = 14 ∨ y = 15 ∨ y = 16 ∨ y = 17 ∨ y = 18 ∨ y = 19 ∨ y = 20 ∨ y = 21 ∨ y = 22 ∨ y = 23 ∨ y = 24 ∨ y = 25 ∨ y = 26 ∨ y = 27 ∨ y = 28 ∨ y = 29 ∨ y = 30 ∨ y = 31 ∨ y = 32 ∨ y = 33 ∨ y = 34 ∨ y = 35 ∨ y = 36 ∨ y = 37 ∨ y = 38 ∨ y = 39 ∨ y = 40 ∨ y = 41 ∨ y = 42 ∨ y = 43 ∨ y = 44 ∨ y = 45 ∨ y = 46 ∨ y = 47 := by omega
set_option maxHeartbeats 4000000 in
set_option maxRecDepth 100000 in
theorem lw_loop (l : Launch) (hl : l.stackTraces = false) {L : Nat} {xs : Nat → Int32} (hL : L ≤ 384) : ∀ (n : Nat) (i kc : Int) (h : dm_H) (B : Int) (σ : St) (th : Int) (ce sl : Nat), (400 - i).toNat < n → 0 ≤ i → i ≤ 390 → 6 * (ce : Int) ≤ 600 + 2000 * i → 6 * (sl : Int) ≤ 6000 + 60000 * i → Inv kc kc h → CSt B σ h → MSt kc th σ h → 6 * B ≤ 20 * i → dm_W (lw_E L xs) lw_PL l 329 420 1200128 5501098 27 [some (.retAddr 2), some (.ref 0), some (.ref 26), some (.ref 36), some (dI (i)), none, none] [] h ce sl := by
  intro n
  induction n with
  | zero => intro i kc h B σ th ce sl hm; exact absurd hm (Nat.not_lt_zero _)
  | succ n ih =>
    intro i kc h B σ th ce sl hm h0 h1 h2 h3 hI hS hM hB
    refine dr_iload la_27 rfl ?_
    refine dr_aload_n la_29 rfl (Or.inr (Or.inr ⟨_, rfl⟩)) ?_
    refine dr_xlen la_30 ?_
    refine di_bipush la_31 (by decide) ?_
    refine di_isub la_33 ?_
    refine di_icmp_gt la_34 rfl (by omega) (by omega) (by omega) (by omega) (fun c => ?_) (fun c => ?_)
    · refine di_const la_2393 ?_
      exact lw_end la_2394 (by omega) (by omega)
    · have hK : lw_K l L xs i (ce + 2000) (sl + 60000) := by
        intro kc2 g2 B2 σ2 th2 hI2 hS2 hM2 hB2
        refine di_iinc (ls2 := [some (.retAddr 2), some (.ref 0), some (.ref 26), some (.ref 36), some (dI (i + 6)), none, none]) la_2387 rfl rfl rfl ?_
        refine dr_goto la_2390 rfl ?_
        exact ih (i + 6) kc2 g2 B2 σ2 th2 _ _ (by omega) (by omega) (by omega) (by omega) (by omega) hI2 hS2 hM2 hB2
      refine dr_aload_n la_37 rfl (Or.inr (Or.inr ⟨_, rfl⟩)) ?_
      refine dr_iload la_38 rfl ?_
      refine dr_xld la_40 (by omega) (by omega) hL (fun x xa xb => ?_)
      refine di_bipush la_41 (by decide) ?_
      refine du_iand la_43 (fun y ya yb => ?_)
      by_cases hy : y < 0 ∨ 47 < y
      · refine di_tabOut la_44 (by omega) (by omega) hy rfl ?_
        refine dm_cew (ce2 := ce + 2000) (sl2 := sl + 60000) (by omega) (by omega) ?_
        exact hK kc h B σ th hI hS hM (by omega)
      · have hi6 : i + 6 ≤ L := by omega
        have hce : ce + 2000 ≤ 1200128 := by omega
        have hsl : sl + 60000 ≤ 5501098 := by omega
        have hy2 := in48 (y := y) (by omega) (by omega)
        clear ih hm h1 h2 h3 c xa xb ya yb hy
        rcases hy2 with rfl | rfl | rfl | rfl | rfl | rfl | rfl | rfl | rfl | rfl | rfl | rfl | rfl | rfl | rfl | rfl | rfl | rfl | rfl | rfl | rfl | rfl | rfl | rfl | rfl | rfl | rfl | rfl | rfl | rfl | rfl | rfl | rfl | rfl | rfl | rfl | rfl | rfl | rfl | rfl | rfl | rfl | rfl | rfl | rfl | rfl | rfl | rfl
        · exact di_tabIn 0 la_44 (by decide) (by decide) (by decide) (by decide) rfl rfl (lw_c0 l hl hL hI hS hM h0 hi6 hB hce hsl hK)
        · exact di_tabIn 1 la_44 (by decide) (by decide) (by decide) (by decide) rfl rfl (lw_c1 l hl hL hI hS hM h0 hi6 hB hce hsl hK)
        · exact di_tabIn 2 la_44 (by decide) (by decide) (by decide) (by decide) rfl rfl (lw_c2 l hl hL hI hS hM h0 hi6 hB hce hsl hK)
        · exact di_tabIn 3 la_44 (by decide) (by decide) (by decide) (by decide) rfl rfl (lw_c3 l hl hL hI hS hM h0 hi6 hB hce hsl hK)
        · exact di_tabIn 4 la_44 (by decide) (by decide) (by decide) (by decide) rfl rfl (lw_c4 l hl hL hI hS hM h0 hi6 hB hce hsl hK)
        · exact di_tabIn 5 la_44 (by decide) (by decide) (by decide) (by decide) rfl rfl (lw_c5 l hl hL hI hS hM h0 hi6 hB hce hsl hK)
        · exact di_tabIn 6 la_44 (by decide) (by decide) (by decide) (by decide) rfl rfl (lw_c6 l hl hL hI hS hM h0 hi6 hB hce hsl hK)
        · exact di_tabIn 7 la_44 (by decide) (by decide) (by decide) (by decide) rfl rfl (lw_c7 l hl hL hI hS hM h0 hi6 hB hce hsl hK)
        · exact di_tabIn 8 la_44 (by decide) (by decide) (by decide) (by decide) rfl rfl (lw_c8 l hl hL hI hS hM h0 hi6 hB hce hsl hK)
        · exact di_tabIn 9 la_44 (by decide) (by decide) (by decide) (by decide) rfl rfl (lw_c9 l hl hL hI hS hM h0 hi6 hB hce hsl hK)
        · exact di_tabIn 10 la_44 (by decide) (by decide) (by decide) (by decide) rfl rfl (lw_c10 l hl hL hI hS hM h0 hi6 hB hce hsl hK)
        · exact di_tabIn 11 la_44 (by decide) (by decide) (by decide) (by decide) rfl rfl (lw_c11 l hl hL hI hS hM h0 hi6 hB hce hsl hK)
        · exact di_tabIn 12 la_44 (by decide) (by decide) (by decide) (by decide) rfl rfl (lw_c12 l hl hL hI hS hM h0 hi6 hB hce hsl hK)
        · exact di_tabIn 13 la_44 (by decide) (by decide) (by decide) (by decide) rfl rfl (lw_c13 l hl hL hI hS hM h0 hi6 hB hce hsl hK)
        · exact di_tabIn 14 la_44 (by decide) (by decide) (by decide) (by decide) rfl rfl (lw_c14 l hl hL hI hS hM h0 hi6 hB hce hsl hK)
        · exact di_tabIn 15 la_44 (by decide) (by decide) (by decide) (by decide) rfl rfl (lw_c15 l hl hL hI hS hM h0 hi6 hB hce hsl hK)
        · exact di_tabIn 16 la_44 (by decide) (by decide) (by decide) (by decide) rfl rfl (lw_c16 l hl hL hI hS hM h0 hi6 hB hce hsl hK)
        · exact di_tabIn 17 la_44 (by decide) (by decide) (by decide) (by decide) rfl rfl (lw_c17 l hl hL hI hS hM h0 hi6 hB hce hsl hK)
        · exact di_tabIn 18 la_44 (by decide) (by decide) (by decide) (by decide) rfl rfl (lw_c18 l hl hL hI hS hM h0 hi6 hB hce hsl hK)
        · exact di_tabIn 19 la_44 (by decide) (by decide) (by decide) (by decide) rfl rfl (lw_c19 l hl hL hI hS hM h0 hi6 hB hce hsl hK)
        · exact di_tabIn 20 la_44 (by decide) (by decide) (by decide) (by decide) rfl rfl (lw_c20 l hl hL hI hS hM h0 hi6 hB hce hsl hK)
        · exact di_tabIn 21 la_44 (by decide) (by decide) (by decide) (by decide) rfl rfl (lw_c21 l hl hL hI hS hM h0 hi6 hB hce hsl hK)
        · exact di_tabIn 22 la_44 (by decide) (by decide) (by decide) (by decide) rfl rfl (lw_c22 l hl hL hI hS hM h0 hi6 hB hce hsl hK)
        · exact di_tabIn 23 la_44 (by decide) (by decide) (by decide) (by decide) rfl rfl (lw_c23 l hl hL hI hS hM h0 hi6 hB hce hsl hK)
        · exact di_tabIn 24 la_44 (by decide) (by decide) (by decide) (by decide) rfl rfl (lw_c24 l hl hL hI hS hM h0 hi6 hB hce hsl hK)
        · exact di_tabIn 25 la_44 (by decide) (by decide) (by decide) (by decide) rfl rfl (lw_c25 l hl hL hI hS hM h0 hi6 hB hce hsl hK)
        · exact di_tabIn 26 la_44 (by decide) (by decide) (by decide) (by decide) rfl rfl (lw_c26 l hl hL hI hS hM h0 hi6 hB hce hsl hK)
        · exact di_tabIn 27 la_44 (by decide) (by decide) (by decide) (by decide) rfl rfl (lw_c27 l hl hL hI hS hM h0 hi6 hB hce hsl hK)
        · exact di_tabIn 28 la_44 (by decide) (by decide) (by decide) (by decide) rfl rfl (lw_c28 l hl hL hI hS hM h0 hi6 hB hce hsl hK)
        · exact di_tabIn 29 la_44 (by decide) (by decide) (by decide) (by decide) rfl rfl (lw_c29 l hl hL hI hS hM h0 hi6 hB hce hsl hK)
        · exact di_tabIn 30 la_44 (by decide) (by decide) (by decide) (by decide) rfl rfl (lw_c30 l hl hL hI hS hM h0 hi6 hB hce hsl hK)
        · exact di_tabIn 31 la_44 (by decide) (by decide) (by decide) (by decide) rfl rfl (lw_c31 l hl hL hI hS hM h0 hi6 hB hce hsl hK)
        · exact di_tabIn 32 la_44 (by decide) (by decide) (by decide) (by decide) rfl rfl (lw_c32 l hl hL hI hS hM h0 hi6 hB hce hsl hK)
        · exact di_tabIn 33 la_44 (by decide) (by decide) (by decide) (by decide) rfl rfl (lw_c33 l hl hL hI hS hM h0 hi6 hB hce hsl hK)
        · exact di_tabIn 34 la_44 (by decide) (by decide) (by decide) (by decide) rfl rfl (lw_c34 l hl hL hI hS hM h0 hi6 hB hce hsl hK)
        · exact di_tabIn 35 la_44 (by decide) (by decide) (by decide) (by decide) rfl rfl (lw_c35 l hl hL hI hS hM h0 hi6 hB hce hsl hK)
        · exact di_tabIn 36 la_44 (by decide) (by decide) (by decide) (by decide) rfl rfl (lw_c36 l hl hL hI hS hM h0 hi6 hB hce hsl hK)
        · exact di_tabIn 37 la_44 (by decide) (by decide) (by decide) (by decide) rfl rfl (lw_c37 l hl hL hI hS hM h0 hi6 hB hce hsl hK)
        · exact di_tabIn 38 la_44 (by decide) (by decide) (by decide) (by decide) rfl rfl (lw_c38 l hl hL hI hS hM h0 hi6 hB hce hsl hK)
        · exact di_tabIn 39 la_44 (by decide) (by decide) (by decide) (by decide) rfl rfl (lw_c39 l hl hL hI hS hM h0 hi6 hB hce hsl hK)
        · exact di_tabIn 40 la_44 (by decide) (by decide) (by decide) (by decide) rfl rfl (lw_c40 l hl hL hI hS hM h0 hi6 hB hce hsl hK)
        · exact di_tabIn 41 la_44 (by decide) (by decide) (by decide) (by decide) rfl rfl (lw_c41 l hl hL hI hS hM h0 hi6 hB hce hsl hK)
        · exact di_tabIn 42 la_44 (by decide) (by decide) (by decide) (by decide) rfl rfl (lw_c42 l hl hL hI hS hM h0 hi6 hB hce hsl hK)
        · exact di_tabIn 43 la_44 (by decide) (by decide) (by decide) (by decide) rfl rfl (lw_c43 l hl hL hI hS hM h0 hi6 hB hce hsl hK)
        · exact di_tabIn 44 la_44 (by decide) (by decide) (by decide) (by decide) rfl rfl (lw_c44 l hl hL hI hS hM h0 hi6 hB hce hsl hK)
        · exact di_tabIn 45 la_44 (by decide) (by decide) (by decide) (by decide) rfl rfl (lw_c45 l hl hL hI hS hM h0 hi6 hB hce hsl hK)
        · exact di_tabIn 46 la_44 (by decide) (by decide) (by decide) (by decide) rfl rfl (lw_c46 l hl hL hI hS hM h0 hi6 hB hce hsl hK)
        · exact di_tabIn 47 la_44 (by decide) (by decide) (by decide) (by decide) rfl rfl (lw_c47 l hl hL hI hS hM h0 hi6 hB hce hsl hK)
theorem lw_t8 {F : Int → Prop} (hF : F 0) : T_a 8 F rep8 := ⟨_, rfl, rfl, by decide, fun j v hj => by
  rw [List.getElem?_replicate] at hj
  split at hj
  · cases hj; exact ⟨0, hF, by omega, by omega, rfl⟩
  · cases hj⟩
theorem lw_t3 {F : Int → Prop} (hF : F 0) : T_a 3 F (20, [dI 0, dI 0, dI 0]) := ⟨_, rfl, rfl, by decide, fun j v hj => by
  match j, hj with
  | 0, hj => cases hj; exact ⟨0, hF, by omega, by omega, rfl⟩
  | 1, hj => cases hj; exact ⟨0, hF, by omega, by omega, rfl⟩
  | 2, hj => cases hj; exact ⟨0, hF, by omega, by omega, rfl⟩
  | n + 3, hj => cases hj⟩
def lw_h0 : dm_H := [(8, [.ref 1, .ref 2, .ref 3, .ref 4, .ref 6, .ref 8, dI 0, dI 0]), (22, [.ref 17, .ref 20, .ref 23]), (6, [dI (-1), dI (-1), dI (-1)]), (4, [dI (-1), dI 0, dI 0, dI 0]), (3, [.ref 5, dI 0]), rep8, (5, [.ref 7, dI 0, dI 0]), rep8, (7, [.ref 9, .ref 10, .ref 11, .ref 13, .ref 15, dI 0]), rep8, rep8, (3, [.ref 12, dI 0]), rep8, (3, [.ref 14, dI 0]), rep8, (5, [.ref 16, dI 0, dI 0]), rep8, (2, [.ref 18, .ref 19, dI 0, dI 0]), rep8, rep8, (2, [.ref 21, .ref 22, dI 0, dI 0]), rep8, rep8, (2, [.ref 24, .ref 25, dI 0, dI 0]), rep8, rep8, (10, [.ref 27, .ref 31, .ref 35, dI 0, dI 0, dI 0, dI (-1), dI (-1), dI (-1), dI (-1), dI 0, dI (-1), dI (-1)]), (23, [.ref 28, .ref 29, .ref 30]), rep8, rep8, rep8, (23, [.ref 32, .ref 33, .ref 34]), rep8, rep8, rep8, (20, [dI 0, dI 0, dI 0]), (9, [.long 0, .null])]
theorem lw_inv : Inv 0 0 lw_h0 := by
  intro i hi
  match i, hi with
  | 0, _ => exact ⟨_, rfl, 0, ⟨by omega, by omega⟩, rfl⟩
  | 1, _ => exact ⟨_, rfl, rfl⟩
  | 2, _ => exact ⟨_, rfl, -1, -1, -1, ⟨by omega, by omega⟩, ⟨by omega, by omega⟩, ⟨by omega, by omega⟩, rfl⟩
  | 3, _ => exact ⟨_, rfl, -1, 0, 0, 0, ⟨by omega, by omega⟩, ⟨by omega, by omega⟩, ⟨by omega, by omega⟩, ⟨by omega, by omega⟩, rfl⟩
  | 4, _ => exact ⟨_, rfl, 0, ⟨by omega, by omega⟩, rfl⟩
  | 5, _ => exact ⟨_, rfl, lw_t8 trivial⟩
  | 6, _ => exact ⟨_, rfl, 0, 0, ⟨by omega, by omega⟩, ⟨by omega, by omega⟩, rfl⟩
  | 7, _ => exact ⟨_, rfl, lw_t8 trivial⟩
  | 8, _ => exact ⟨_, rfl, 0, ⟨by omega, by omega⟩, rfl⟩
  | 9, _ => exact ⟨_, rfl, lw_t8 trivial⟩
  | 10, _ => exact ⟨_, rfl, lw_t8 trivial⟩
  | 11, _ => exact ⟨_, rfl, 0, ⟨by omega, by omega⟩, rfl⟩
  | 12, _ => exact ⟨_, rfl, lw_t8 trivial⟩
  | 13, _ => exact ⟨_, rfl, 0, ⟨by omega, by omega⟩, rfl⟩
  | 14, _ => exact ⟨_, rfl, lw_t8 trivial⟩
  | 15, _ => exact ⟨_, rfl, 0, 0, ⟨by omega, by omega⟩, ⟨by omega, by omega⟩, rfl⟩
  | 16, _ => exact ⟨_, rfl, lw_t8 trivial⟩
  | 17, _ => exact ⟨_, rfl, 0, 0, ⟨by omega, by omega⟩, ⟨by omega, by omega⟩, rfl⟩
  | 18, _ => exact ⟨_, rfl, lw_t8 ⟨by omega, by omega, by decide⟩⟩
  | 19, _ => exact ⟨_, rfl, lw_t8 trivial⟩
  | 20, _ => exact ⟨_, rfl, 0, 0, ⟨by omega, by omega⟩, ⟨by omega, by omega⟩, rfl⟩
  | 21, _ => exact ⟨_, rfl, lw_t8 ⟨by omega, by omega, by decide⟩⟩
  | 22, _ => exact ⟨_, rfl, lw_t8 trivial⟩
  | 23, _ => exact ⟨_, rfl, 0, 0, ⟨by omega, by omega⟩, ⟨by omega, by omega⟩, rfl⟩
  | 24, _ => exact ⟨_, rfl, lw_t8 ⟨by omega, by omega, by decide⟩⟩
  | 25, _ => exact ⟨_, rfl, lw_t8 trivial⟩
  | 26, _ => exact ⟨_, rfl, 0, 0, -1, -1, -1, -1, 0, -1, -1, ⟨by omega, by omega⟩, ⟨by omega, by omega⟩, ⟨by omega, by omega⟩, ⟨by omega, by omega⟩, ⟨by omega, by omega⟩, ⟨by omega, by omega⟩, ⟨by omega, by omega⟩, ⟨by omega, by omega⟩, Or.inl rfl, rfl⟩
  | 27, _ => exact ⟨_, rfl, rfl⟩
  | 28, _ => exact ⟨_, rfl, lw_t8 ⟨by omega, by omega, by decide⟩⟩
  | 29, _ => exact ⟨_, rfl, lw_t8 ⟨by omega, by omega, by decide⟩⟩
  | 30, _ => exact ⟨_, rfl, lw_t8 ⟨by omega, by omega, by decide⟩⟩
  | 31, _ => exact ⟨_, rfl, rfl⟩
  | 32, _ => exact ⟨_, rfl, lw_t8 trivial⟩
  | 33, _ => exact ⟨_, rfl, lw_t8 trivial⟩
  | 34, _ => exact ⟨_, rfl, lw_t8 trivial⟩
  | 35, _ => exact ⟨_, rfl, lw_t3 ⟨by omega, by omega⟩⟩
  | 36, _ => exact ⟨_, rfl, 0, .null, rfl⟩
  | n + 37, hi => exact absurd hi (by omega)
/-- at the start: empty books, no part, no hand -/
def lw_s0 : St := (fun _ _ => -1, (-1, -1, -1), (-1, 0, -1, -1, 0))
theorem lw_ar {F : Int → Prop} (hF : F 0) : arr 8 F (List.replicate 8 (dI 0)) := by
  obtain ⟨vs, e, ha⟩ := lw_t8 hF
  cases e
  exact ha
theorem lw_rep {f g : Int → Int} {s : Int} (hs : s = 0) : Rep f g s (fun _ => -1) := by
  subst hs
  exact ⟨⟨Int.le_refl _, fun j h0 h1 => by omega⟩, fun c hc => absurd rfl hc, fun i j h0 h1 h2 => by omega⟩
theorem lw_cst : CSt 0 lw_s0 lw_h0 := by
  refine ⟨⟨⟨fun _ => 0, fun k b k0 k1 kb => ?_, 0, 0, 0, rfl, ?_⟩, ⟨0, rfl⟩⟩, rfl, ?_⟩
  · refine ⟨⟨Int.le_refl 0, Int.le_refl 0⟩, 0, List.replicate 8 (dI 0), List.replicate 8 (dI 0), ?_, lw_rep rfl, fun i j h0 h1 h2 => by omega⟩
    have oC : okC 0 := ⟨by omega, by omega, by decide⟩
    rcases (by omega : k = 0 ∨ k = 1 ∨ k = 2) with rfl | rfl | rfl
    · have e : b = 17 := by omega
      subst e
      exact ⟨rfl, rfl, rfl, lw_ar oC, lw_ar trivial, by omega, by omega, (show (-2147483648 : Int) ≤ 0 by decide), (show (0 : Int) < 2147483648 by decide)⟩
    · have e : b = 20 := by omega
      subst e
      exact ⟨rfl, rfl, rfl, lw_ar oC, lw_ar trivial, by omega, by omega, (show (-2147483648 : Int) ≤ 0 by decide), (show (0 : Int) < 2147483648 by decide)⟩
    · have e : b = 23 := by omega
      subst e
      exact ⟨rfl, rfl, rfl, lw_ar oC, lw_ar trivial, by omega, by omega, (show (-2147483648 : Int) ≤ 0 by decide), (show (0 : Int) < 2147483648 by decide)⟩
  · refine ⟨⟨by decide, by decide⟩, ⟨by decide, by decide⟩, Or.inl rfl, ⟨by decide, by decide⟩, Or.inl rfl, ⟨by decide, by decide⟩, ⟨by decide, by decide⟩, fun g0 => absurd g0 (by decide)⟩
  · refine ⟨⟨by decide, by decide⟩, ⟨by decide, by decide⟩, ⟨by decide, by decide⟩, fun g0 => absurd g0 (by decide)⟩
theorem lw_mst : MSt 0 0 lw_s0 lw_h0 := by
  refine ⟨⟨0, rfl, by decide, by decide, rfl⟩, ⟨⟨by decide, by decide⟩, ⟨by decide, by decide⟩, ⟨by decide, by decide⟩, ⟨by decide, by decide⟩, ⟨by decide, by decide⟩, ⟨by decide, by decide⟩, Or.inl rfl⟩, ⟨by decide, by decide⟩, [dI 0, dI 0, dI 0], rfl, ?_, fun k k0 k1 => ?_⟩
  · obtain ⟨vs, e, ha⟩ := lw_t3 (F := okS) ⟨by omega, by omega⟩
    cases e
    exact ha
  · have oC : okC 0 := ⟨by omega, by omega, by decide⟩
    refine ⟨List.replicate 8 (dI 0), List.replicate 8 (dI 0), fun r q er eq => ?_, lw_rep ?_⟩
    · rcases (by omega : k = 0 ∨ k = 1 ∨ k = 2) with rfl | rfl | rfl
      · have e1 : r = 28 := by omega
        have e2 : q = 32 := by omega
        subst e1; subst e2
        exact ⟨rfl, rfl, lw_ar oC, lw_ar trivial⟩
      · have e1 : r = 29 := by omega
        have e2 : q = 33 := by omega
        subst e1; subst e2
        exact ⟨rfl, rfl, lw_ar oC, lw_ar trivial⟩
      · have e1 : r = 30 := by omega
        have e2 : q = 34 := by omega
        subst e1; subst e2
        exact ⟨rfl, rfl, lw_ar oC, lw_ar trivial⟩
    · rcases (by omega : k = 0 ∨ k = 1 ∨ k = 2) with rfl | rfl | rfl <;> decide
set_option maxHeartbeats 4000000 in
set_option maxRecDepth 100000 in
theorem lw_go (l : Launch) (hl : l.stackTraces = false) {L : Nat} {xs : Nat → Int32} (hL : L ≤ 384) : dm_W (lw_E L xs) lw_PL l 329 420 1200128 5501098 0 [some (.retAddr 2), none, none, none, none, none, none] [] [] 0 0 := by
  refine dr_new (fs := [.null, .null, .null, .null, .null, .null, dI 0, dI 0]) la_0 rfl (by decide) (by decide) ?_
  show dm_W (lw_E L xs) lw_PL l 329 420 1200128 5501098 3 [some (.retAddr 2), none, none, none, none, none, none] [.ref 0] [(8, [.null, .null, .null, .null, .null, .null, dI 0, dI 0])] 1 8
  refine dr_dup la_3 rfl ?_
  refine dr_init la_4 rfl rfl rfl rfl (s_X6_init l hl) kQE0 (by decide) (by decide) (by decide) (Nat.le_of_ble_eq_true rfl) (kQE ?_)
  refine di_astore_n (ls2 := [some (.retAddr 2), some (.ref 0), none, none, none, none, none]) la_7 rfl rfl ?_
  refine dr_new (fs := [.null, .null, .null, dI 0, dI 0, dI 0, dI 0, dI 0, dI 0, dI 0, dI 0, dI 0, dI 0]) la_8 rfl (by decide) (by decide) ?_
  show dm_W (lw_E L xs) lw_PL l 329 420 1200128 5501098 11 [some (.retAddr 2), some (.ref 0), none, none, none, none, none] [.ref 26] [(8, [.ref 1, .ref 2, .ref 3, .ref 4, .ref 6, .ref 8, dI 0, dI 0]), (22, [.ref 17, .ref 20, .ref 23]), (6, [dI (-1), dI (-1), dI (-1)]), (4, [dI (-1), dI 0, dI 0, dI 0]), (3, [.ref 5, dI 0]), rep8, (5, [.ref 7, dI 0, dI 0]), rep8, (7, [.ref 9, .ref 10, .ref 11, .ref 13, .ref 15, dI 0]), rep8, rep8, (3, [.ref 12, dI 0]), rep8, (3, [.ref 14, dI 0]), rep8, (5, [.ref 16, dI 0, dI 0]), rep8, (2, [.ref 18, .ref 19, dI 0, dI 0]), rep8, rep8, (2, [.ref 21, .ref 22, dI 0, dI 0]), rep8, rep8, (2, [.ref 24, .ref 25, dI 0, dI 0]), rep8, rep8, (10, [.null, .null, .null, dI 0, dI 0, dI 0, dI 0, dI 0, dI 0, dI 0, dI 0, dI 0, dI 0])] 27 165
  refine dr_dup la_11 rfl ?_
  refine dr_init la_12 rfl rfl rfl rfl (s_X8_init l hl) kQE0 (by decide) (by decide) (by decide) (Nat.le_of_ble_eq_true rfl) (kQE ?_)
  refine di_astore_n (ls2 := [some (.retAddr 2), some (.ref 0), some (.ref 26), none, none, none, none]) la_15 rfl rfl ?_
  refine dr_new (fs := [.long 0, .null]) la_16 rfl (by decide) (by decide) ?_
  show dm_W (lw_E L xs) lw_PL l 329 420 1200128 5501098 19 [some (.retAddr 2), some (.ref 0), some (.ref 26), none, none, none, none] [.ref 36] lw_h0 37 224
  refine dr_dup la_19 rfl ?_
  refine dr_initN la_20 rfl rfl rfl rfl (s_X7_init l hl (p := 36) rfl) kQE0 (by decide) (by decide) (by decide) (Nat.le_of_ble_eq_true rfl) (kQE ?_)
  refine di_astore_n (ls2 := [some (.retAddr 2), some (.ref 0), some (.ref 26), some (.ref 36), none, none, none]) la_23 rfl rfl ?_
  refine di_const la_24 ?_
  refine di_istore (ls2 := [some (.retAddr 2), some (.ref 0), some (.ref 26), some (.ref 36), some (dI (0)), none, none]) la_25 rfl rfl ?_
  exact lw_loop l hl hL 401 0 0 lw_h0 0 lw_s0 0 _ _ (by decide) (by decide) (by decide) (by decide) (by decide) lw_inv lw_cst lw_mst (by decide)
/-! ===== what stands at the start ===== -/
theorem lw_inst : ∀ (ci : Nat) (q : vw_C), vwCl[ci]? = some q → Cond.instantiable q.1 q.2.2 ∈ lw_tbl := by
  intro ci q h
  match ci, h with
  | 0, h => cases h; exact dm_T_mem (c := 4238) (by decide +kernel)
  | 1, h => cases h; exact dm_T_mem (c := 4075) (by decide +kernel)
  | 2, h => cases h; exact dm_T_mem (c := 1140) (by decide +kernel)
  | 3, h => cases h; exact dm_T_mem (c := 1078) (by decide +kernel)
  | 4, h => cases h; exact dm_T_mem (c := 1057) (by decide +kernel)
  | 5, h => cases h; exact dm_T_mem (c := 1094) (by decide +kernel)
  | 6, h => cases h; exact dm_T_mem (c := 1038) (by decide +kernel)
  | 7, h => cases h; exact dm_T_mem (c := 1112) (by decide +kernel)
  | 8, h => cases h; exact dm_T_mem (c := 1028) (by decide +kernel)
  | 9, h => cases h; exact dm_T_mem (c := 3091) (by decide +kernel)
  | 10, h => cases h; exact dm_T_mem (c := 6027) (by decide +kernel)
  | _ + 11, h => cases h
theorem va_AO_of2 {t : FieldType} {A : Array Value} {U : State} (h : (Cond.arrayOver (.array t)).before A U = true) : va_AOA t U := h
theorem lw_know {s : State} {args : Array Value} (hts : ∀ w ∈ lw_tbl, w.before args s = true) : ∃ D : va_G, ∀ (k : Nat) (q : vw_C), vwCl[k]? = some q → u_Kn s q.1 q.2.1 q.2.2 (D.1 k) (D.2 k) := by
  have hk : ∀ k : Nat, ∃ x : ClassId × (Nat → Nat), ∀ q, vwCl[k]? = some q → u_Kn s q.1 q.2.1 q.2.2 x.1 x.2 := by
    intro k
    cases hq : vwCl[k]? with
    | none => exact ⟨(0, fun _ => 0), fun q h => by cases h⟩
    | some q =>
      obtain ⟨c, i, h⟩ := u_known (C := q.1) (T := q.2.1) (N := q.2.2) (n := q.2.2) hts (fun w hw => (List.mem_filter.mp (dm_clw k q hq w hw)).1) (hts _ (lw_inst k q hq))
      exact ⟨(c, i), fun q2 h2 => by cases h2; exact h⟩
  obtain ⟨f, hf⟩ := Classical.axiomOfChoice hk
  exact ⟨(fun k => (f k).1, fun k => (f k).2), fun k q h => hf k q h⟩
set_option maxRecDepth 100000 in
theorem lw_d1 : ∀ j : Nat, j < 100 → (flatC (Jvm.Cond.and given_1 narrow_1))[14 + j]? = some (Cond.eq (.elem (.static "java/lang/Integer" "DigitOnes" "[B") (.int (Int32.ofNat j))) (.int (Int32.ofNat (48 + j % 10)))) := by decide +kernel
set_option maxRecDepth 100000 in
theorem lw_d2 : ∀ j : Nat, j < 100 → (flatC (Jvm.Cond.and given_1 narrow_1))[117 + j]? = some (Cond.eq (.elem (.static "java/lang/Integer" "DigitTens" "[B") (.int (Int32.ofNat j))) (.int (Int32.ofNat (48 + j / 10)))) := by decide +kernel
set_option maxRecDepth 100000 in
theorem lw_s1 : ∀ q ∈ dm_strs, Cond.stringRef q.1 q.2.1 q.2.2 ∈ lw_tbl := by decide +kernel
set_option maxRecDepth 100000 in
theorem lw_s2 : ∀ q ∈ dm_strs, Cond.exactly (.string q.1 q.2.1) "java/lang/String" ∈ (flatC (Jvm.Cond.and given_1 narrow_1)) := by decide +kernel
set_option maxHeartbeats 4000000 in
set_option maxRecDepth 100000 in
theorem lw_S {s : State} {b : Nat} (hts : ∀ w ∈ lw_tbl, w.before #[Value.ref b] s = true) (hgv : (Jvm.Cond.and given_1 narrow_1).before #[Value.ref b] s = true) : ∃ g : Nat → Nat, g 2 = b ∧ dm_S g (fun q => s.heap.size ≤ q) s s.heap := by
  have hs := flat_of_before _ hgv
  have hA : ∀ a : Nat, a < s.heap.size → ¬ (fun q : Nat => s.heap.size ≤ q) a := fun a h => Nat.not_le.mpr h
  obtain ⟨t1, e1, T1⟩ := va_Tof (tm := .static "java/lang/Integer" "DigitOnes" "[B") (ty := .byte) (N := 100) (f := fun j => .int (Int32.ofNat (48 + j % 10))) (by decide) (hs _ (by decide +kernel)) (va_eqt (hs _ (by decide +kernel))) (fun j hj => va_eqt (hs _ (List.mem_of_getElem? (lw_d1 j hj)))) hA
  obtain ⟨t2, e2, T2⟩ := va_Tof (tm := .static "java/lang/Integer" "DigitTens" "[B") (ty := .byte) (N := 100) (f := fun j => .int (Int32.ofNat (48 + j / 10))) (by decide) (hs _ (by decide +kernel)) (va_eqt (hs _ (by decide +kernel))) (fun j hj => va_eqt (hs _ (List.mem_of_getElem? (lw_d2 j hj)))) hA
  have hstr : ∀ q ∈ dm_strs, ∃ a, vk_R q.1 q.2.1 q.2.2 a s := by
    intro q hq
    obtain ⟨a, c, cA, kA, q1, -⟩ := Cond.exactly_spec (hs _ (lw_s2 q hq))
    exact ⟨a, vk_R.of (hts _ (lw_s1 q hq)) q1⟩
  have hnc : ∀ E ∈ dm_exs, ∀ F ∈ dm_exs, E ≠ F → va_Nc E F s := by
    intro E hE F hF n
    simp only [dm_exs, List.mem_cons, List.not_mem_nil, or_false] at hE hF
    rcases hE with rfl | rfl | rfl <;> rcases hF with rfl | rfl | rfl <;> first | exact absurd rfl n | exact va_Nc.of (hs _ (by decide +kernel))
  refine ⟨fun k => match k with | 0 => t1 | 1 => t2 | _ => b, rfl, ?_⟩
  refine ⟨fun w hw => va_Nw.of (dm_nw_tab (List.mem_filter.mp hw).2) (hts w (List.mem_filter.mp hw).1), va_AO.of (hts _ (by decide +kernel)), va_AO_of2 (hts _ (by decide +kernel)),
    vx_Zqof (hts _ (by decide +kernel)) (hts _ (by decide +kernel)) (hs _ (by decide +kernel)) hA, vx_Zqof (hts _ (by decide +kernel)) (hts _ (by decide +kernel)) (hs _ (by decide +kernel)) hA, hstr, hnc,
    va_Zof (hts _ (by decide +kernel)) (hts _ (by decide +kernel)) (va_eqt (hs _ (by decide +kernel))) hA,
    va_Zof (hts _ (by decide +kernel)) (hts _ (by decide +kernel)) e1 hA, va_Zof (hts _ (by decide +kernel)) (hts _ (by decide +kernel)) e2 hA, ⟨_, T1⟩, ⟨_, T2⟩⟩
