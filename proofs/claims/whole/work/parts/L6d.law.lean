/-! the law's cases -/
section LCS
variable {X : EN} {D : va_G} {dT : Nat → ClassId} {ad : Nat → Nat} {b m0 o o2 L : Nat} {xs : Nat → Int32} {Z : ZT} {I M : Nat → Nat → Int32} {S : SZ} {g : Nat → Int64} {g2 : Nat → UInt64} {ad8 : Nat → Nat}
set_option maxRecDepth 100000 in
set_option maxHeartbeats 4000000 in
theorem lc_level (hX : CX X D (tyL dT) cL_law RL wsL_law room_1 9) (hL : XLX X Z) (hs : XSX X b L xs) {i : Nat} (hi : i + 5 ≤ L) (hL2 : L ≤ 2560) {ce sl : Nat} (hce : ce + 862 ≤ 603072) (hsl : sl + 5100 ≤ 7198825) (hN : NX X D dT Z ad b m0 o o2 (nI i) 2327 (ce + 862) (sl + 5100)) (hr : REL I M S) (h8 : ad8 0 = m0) (h9 : ad8 99999 = Z.1) : GW X D (LW dT ad I o g o2 g2 ad8 M S) (lvW b (ad 0) m0 o o2 (nI i)) ce sl 1749 [] := by
  refine g_aload_n hX 4 rfl dL_law_1749 rfl ?_
  refine g_aload_n hX 2 rfl dL_law_1750 rfl ?_
  refine gw_w LW_J ?_
  refine l_callS hX hL [.ref (ad 0), .ref o] (k_L_level I) gL_law_L_level rfl rfl rfl hd_L_level ⟨Nat.le_of_ble_eq_true rfl, Nat.le_of_ble_eq_true rfl⟩ ⟨by show _ ≤ 603072; omega, by show _ ≤ 7198825; omega⟩ rfl (Nat.le_of_ble_eq_true rfl) dL_law_1751 (fun r w hw => ?_)
  obtain ⟨J, g9, rfl, rfl, hR, hJ⟩ := hw
  refine gw_w LW_J.symm ?_
  refine g_istore hX ((6, .int (nI (kpl I))) :: lvW b (ad 0) m0 o o2 (nI i)) rfl dL_law_1754 (Nat.le_of_ble_eq_true rfl) ?_
  refine g_aload_n hX 4 rfl dL_law_1756 rfl ?_
  refine l_callMI hX hL h8 [] (k_X8_level M S hr.1.1 hr.1.2.1 hr.1.2.2.1 hr.1.2.2.2) gL_law_X8_level rfl rfl rfl hd_X8_level ⟨Nat.le_of_ble_eq_true rfl, Nat.le_of_ble_eq_true rfl⟩ ⟨by show _ ≤ 603072; omega, by show _ ≤ 7198825; omega⟩ rfl (Nat.le_of_ble_eq_true rfl) dL_law_1757 (fun r u hu => ?_)
  obtain ⟨rfl, rfl⟩ := hu
  refine ⟨_, _, _, rfl, ?_⟩
  exact l_tailI hX hL hN (by omega) (by omega) hce hsl h8 h9 (n0 (by unfold kpl; (repeat' split) <;> decide)) (st_level hr ⟨hR, hJ⟩) dL_law_1760 dL_law_1762 dL_law_1763 dL_law_1766 dL_law_1768 dL_law_1773 dL_law_1775 dL_law_1778 dL_law_1779 dL_law_1780 dL_law_1781 dL_law_1783 dL_law_1784 dL_law_1785 dL_law_1790 (by decide)
set_option maxRecDepth 100000 in
set_option maxHeartbeats 4000000 in
theorem lc_isOpen (hX : CX X D (tyL dT) cL_law RL wsL_law room_1 9) (hL : XLX X Z) (hs : XSX X b L xs) {i : Nat} (hi : i + 5 ≤ L) (hL2 : L ≤ 2560) {ce sl : Nat} (hce : ce + 862 ≤ 603072) (hsl : sl + 5100 ≤ 7198825) (hN : NX X D dT Z ad b m0 o o2 (nI i) 2327 (ce + 862) (sl + 5100)) (hr : REL I M S) (h8 : ad8 0 = m0) (h9 : ad8 99999 = Z.1) : GW X D (LW dT ad I o g o2 g2 ad8 M S) (lvW b (ad 0) m0 o o2 (nI i)) ce sl 1793 [] := by
  refine g_aload_n hX 4 rfl dL_law_1793 rfl ?_
  refine l_arg (k := 1) hX hs 5 0 (by omega) hL2 rfl rfl rfl dL_law_1794 dL_law_1795 dL_law_1797 dL_law_1798 dL_law_1799 ?_
  refine g_aload_n hX 2 rfl dL_law_1800 rfl ?_
  refine gw_w LW_J ?_
  refine l_callS hX hL [.ref (ad 0), .int (xs (i + 1)), .ref o] (k_L_isOpen I hr.any.2.2.2.2.1 (xs (i + 1))) gL_law_L_isOpen rfl rfl rfl hd_L_isOpen ⟨Nat.le_of_ble_eq_true rfl, Nat.le_of_ble_eq_true rfl⟩ ⟨by show _ ≤ 603072; omega, by show _ ≤ 7198825; omega⟩ rfl (Nat.le_of_ble_eq_true rfl) dL_law_1801 (fun r w hw => ?_)
  obtain ⟨J, g9, rfl, rfl, hR, hJ⟩ := hw
  refine gw_w LW_J.symm ?_
  refine g_istore hX ((6, .int (nI (kop I (xs (i + 1))))) :: lvW b (ad 0) m0 o o2 (nI i)) rfl dL_law_1804 (Nat.le_of_ble_eq_true rfl) ?_
  refine g_aload_n hX 4 rfl dL_law_1806 rfl ?_
  refine l_arg (k := 1) hX hs 6 1 (by omega) hL2 rfl rfl rfl dL_law_1807 dL_law_1808 dL_law_1810 dL_law_1811 dL_law_1812 ?_
  refine l_callMI hX hL h8 [.int (xs (i + 1))] (k_X8_isOpen M S hr.1.1 hr.1.2.1 hr.1.2.2.1 hr.1.2.2.2 (xs (i + 1))) gL_law_X8_isOpen rfl rfl rfl hd_X8_isOpen ⟨Nat.le_of_ble_eq_true rfl, Nat.le_of_ble_eq_true rfl⟩ ⟨by show _ ≤ 603072; omega, by show _ ≤ 7198825; omega⟩ rfl (Nat.le_of_ble_eq_true rfl) dL_law_1813 (fun r u hu => ?_)
  obtain ⟨rfl, rfl⟩ := hu
  refine ⟨_, _, _, rfl, ?_⟩
  exact l_tailB hX hL hN (by omega) (by omega) hce hsl h8 h9 (n0 (by unfold kop; (repeat' split) <;> decide)) (st_isOpen hr (xs (i + 1)) ⟨hR, hJ⟩) dL_law_1816 dL_law_1818 dL_law_1819 dL_law_1822 dL_law_1824 dL_law_1829 dL_law_1831 dL_law_1834 dL_law_1835 dL_law_1836 dL_law_1837 dL_law_1839 dL_law_1842 dL_law_1843 dL_law_1846 dL_law_1847 dL_law_1848 dL_law_1853 (by decide)
set_option maxRecDepth 100000 in
set_option maxHeartbeats 4000000 in
theorem lc_isHeard (hX : CX X D (tyL dT) cL_law RL wsL_law room_1 9) (hL : XLX X Z) (hs : XSX X b L xs) {i : Nat} (hi : i + 5 ≤ L) (hL2 : L ≤ 2560) {ce sl : Nat} (hce : ce + 862 ≤ 603072) (hsl : sl + 5100 ≤ 7198825) (hN : NX X D dT Z ad b m0 o o2 (nI i) 2327 (ce + 862) (sl + 5100)) (hr : REL I M S) (h8 : ad8 0 = m0) (h9 : ad8 99999 = Z.1) : GW X D (LW dT ad I o g o2 g2 ad8 M S) (lvW b (ad 0) m0 o o2 (nI i)) ce sl 1856 [] := by
  refine g_aload_n hX 4 rfl dL_law_1856 rfl ?_
  refine l_arg (k := 1) hX hs 5 0 (by omega) hL2 rfl rfl rfl dL_law_1857 dL_law_1858 dL_law_1860 dL_law_1861 dL_law_1862 ?_
  refine g_aload_n hX 2 rfl dL_law_1863 rfl ?_
  refine gw_w LW_J ?_
  refine l_callS hX hL [.ref (ad 0), .int (xs (i + 1)), .ref o] (k_L_isHeard I (xs (i + 1))) gL_law_L_isHeard rfl rfl rfl hd_L_isHeard ⟨Nat.le_of_ble_eq_true rfl, Nat.le_of_ble_eq_true rfl⟩ ⟨by show _ ≤ 603072; omega, by show _ ≤ 7198825; omega⟩ rfl (Nat.le_of_ble_eq_true rfl) dL_law_1864 (fun r w hw => ?_)
  obtain ⟨J, g9, rfl, rfl, hR, hJ⟩ := hw
  refine gw_w LW_J.symm ?_
  refine g_istore hX ((6, .int (nI (kop I (xs (i + 1))))) :: lvW b (ad 0) m0 o o2 (nI i)) rfl dL_law_1867 (Nat.le_of_ble_eq_true rfl) ?_
  refine g_aload_n hX 4 rfl dL_law_1869 rfl ?_
  refine l_arg (k := 1) hX hs 6 1 (by omega) hL2 rfl rfl rfl dL_law_1870 dL_law_1871 dL_law_1873 dL_law_1874 dL_law_1875 ?_
  refine l_callMI hX hL h8 [.int (xs (i + 1))] (k_X8_isHeard M S hr.1.1 hr.1.2.1 hr.1.2.2.1 hr.1.2.2.2 (xs (i + 1))) gL_law_X8_isHeard rfl rfl rfl hd_X8_isHeard ⟨Nat.le_of_ble_eq_true rfl, Nat.le_of_ble_eq_true rfl⟩ ⟨by show _ ≤ 603072; omega, by show _ ≤ 7198825; omega⟩ rfl (Nat.le_of_ble_eq_true rfl) dL_law_1876 (fun r u hu => ?_)
  obtain ⟨rfl, rfl⟩ := hu
  refine ⟨_, _, _, rfl, ?_⟩
  exact l_tailB hX hL hN (by omega) (by omega) hce hsl h8 h9 (n0 (by unfold kop; (repeat' split) <;> decide)) (st_isHeard hr (xs (i + 1)) ⟨hR, hJ⟩) dL_law_1879 dL_law_1881 dL_law_1882 dL_law_1885 dL_law_1887 dL_law_1892 dL_law_1894 dL_law_1897 dL_law_1898 dL_law_1899 dL_law_1900 dL_law_1902 dL_law_1905 dL_law_1906 dL_law_1909 dL_law_1910 dL_law_1911 dL_law_1916 (by decide)
set_option maxRecDepth 100000 in
set_option maxHeartbeats 4000000 in
theorem lc_soundings (hX : CX X D (tyL dT) cL_law RL wsL_law room_1 9) (hL : XLX X Z) (hs : XSX X b L xs) {i : Nat} (hi : i + 5 ≤ L) (hL2 : L ≤ 2560) {ce sl : Nat} (hce : ce + 862 ≤ 603072) (hsl : sl + 5100 ≤ 7198825) (hN : NX X D dT Z ad b m0 o o2 (nI i) 2327 (ce + 862) (sl + 5100)) (hr : REL I M S) (h8 : ad8 0 = m0) (h9 : ad8 99999 = Z.1) : GW X D (LW dT ad I o g o2 g2 ad8 M S) (lvW b (ad 0) m0 o o2 (nI i)) ce sl 1919 [] := by
  refine g_aload_n hX 4 rfl dL_law_1919 rfl ?_
  refine l_callCI hX (k_X6_soundings I) gL_law_X6_soundings rfl rfl rfl hd_X6_soundings ⟨Nat.le_of_ble_eq_true rfl, Nat.le_of_ble_eq_true rfl⟩ ⟨by show _ ≤ 603072; omega, by show _ ≤ 7198825; omega⟩ rfl (Nat.le_of_ble_eq_true rfl) dL_law_1920 (fun r J hJ => ?_)
  refine g_aload_n hX 3 rfl dL_law_1923 rfl ?_
  refine l_callMI hX hL h8 [] (k_X8_soundings M S hr.1.1 hr.1.2.1 hr.1.2.2.1 hr.1.2.2.2) gL_law_X8_soundings rfl rfl rfl hd_X8_soundings ⟨Nat.le_of_ble_eq_true rfl, Nat.le_of_ble_eq_true rfl⟩ ⟨by show _ ≤ 603072; omega, by show _ ≤ 7198825; omega⟩ rfl (Nat.le_of_ble_eq_true rfl) dL_law_1924 (fun r u hu => ?_)
  obtain ⟨rfl, rfl⟩ := hu
  obtain ⟨rfl, hv⟩ := hJ
  refine ⟨_, _, _, rfl, ?_⟩
  exact g_icmp_eq (tgt := 2327) hX dL_law_1927 (by decide) (fun _ => g_widen (by omega) (by omega) (hN _ _ _ _ _ _ hr h8 h9)) (fun c => absurd (hv.symm.trans (st_lo hr)) c)
set_option maxRecDepth 100000 in
set_option maxHeartbeats 4000000 in
theorem lc_sounding (hX : CX X D (tyL dT) cL_law RL wsL_law room_1 9) (hL : XLX X Z) (hs : XSX X b L xs) {i : Nat} (hi : i + 5 ≤ L) (hL2 : L ≤ 2560) {ce sl : Nat} (hce : ce + 862 ≤ 603072) (hsl : sl + 5100 ≤ 7198825) (hN : NX X D dT Z ad b m0 o o2 (nI i) 2327 (ce + 862) (sl + 5100)) (hr : REL I M S) (h8 : ad8 0 = m0) (h9 : ad8 99999 = Z.1) : GW X D (LW dT ad I o g o2 g2 ad8 M S) (lvW b (ad 0) m0 o o2 (nI i)) ce sl 1932 [] := by
  refine g_aload_n hX 4 rfl dL_law_1932 rfl ?_
  refine l_arg (k := 1) hX hs 5 0 (by omega) hL2 rfl rfl rfl dL_law_1933 dL_law_1934 dL_law_1936 dL_law_1937 dL_law_1938 ?_
  refine l_arg (k := 2) hX hs 5 0 (by omega) hL2 rfl rfl rfl dL_law_1939 dL_law_1940 dL_law_1942 dL_law_1943 dL_law_1944 ?_
  refine g_i2c hX dL_law_1945 ?_
  refine g_aload_n hX 2 rfl dL_law_1946 rfl ?_
  refine gw_w LW_J ?_
  refine l_callS hX hL [.ref (ad 0), .int (xs (i + 1)), .int (ch (xs (i + 2))), .ref o] (k_L_sounding I (xs (i + 1)) (ch (xs (i + 2)))) gL_law_L_sounding rfl rfl rfl hd_L_sounding ⟨Nat.le_of_ble_eq_true rfl, Nat.le_of_ble_eq_true rfl⟩ ⟨by show _ ≤ 603072; omega, by show _ ≤ 7198825; omega⟩ rfl (Nat.le_of_ble_eq_true rfl) dL_law_1947 (fun r w hw => ?_)
  obtain ⟨J, g9, rfl, rfl, hR, hJ⟩ := hw
  refine gw_w LW_J.symm ?_
  refine g_istore hX ((6, .int (nI (kso I (xs (i + 1)) (ch (xs (i + 2)))))) :: lvW b (ad 0) m0 o o2 (nI i)) rfl dL_law_1950 (Nat.le_of_ble_eq_true rfl) ?_
  refine g_aload_n hX 4 rfl dL_law_1952 rfl ?_
  refine l_arg (k := 1) hX hs 6 1 (by omega) hL2 rfl rfl rfl dL_law_1953 dL_law_1954 dL_law_1956 dL_law_1957 dL_law_1958 ?_
  refine l_arg (k := 2) hX hs 6 1 (by omega) hL2 rfl rfl rfl dL_law_1959 dL_law_1960 dL_law_1962 dL_law_1963 dL_law_1964 ?_
  refine g_i2c hX dL_law_1965 ?_
  refine l_callMI hX hL h8 [.int (xs (i + 1)), .int (ch (xs (i + 2)))] (k_X8_sounding M S hr.1.1 hr.1.2.1 hr.1.2.2.1 hr.1.2.2.2 (xs (i + 1)) (ch (xs (i + 2)))) gL_law_X8_sounding rfl rfl rfl hd_X8_sounding ⟨Nat.le_of_ble_eq_true rfl, Nat.le_of_ble_eq_true rfl⟩ ⟨by show _ ≤ 603072; omega, by show _ ≤ 7198825; omega⟩ rfl (Nat.le_of_ble_eq_true rfl) dL_law_1966 (fun r u hu => ?_)
  obtain ⟨rfl, rfl⟩ := hu
  refine ⟨_, _, _, rfl, ?_⟩
  exact l_tailI hX hL hN (by omega) (by omega) hce hsl h8 h9 (n0 (by unfold kso; (repeat' split) <;> decide)) (st_sounding hr (xs (i + 1)) (ch (xs (i + 2))) ⟨hR, hJ⟩) dL_law_1969 dL_law_1971 dL_law_1972 dL_law_1975 dL_law_1977 dL_law_1982 dL_law_1984 dL_law_1987 dL_law_1988 dL_law_1989 dL_law_1990 dL_law_1992 dL_law_1993 dL_law_1994 dL_law_1999 (by decide)
set_option maxRecDepth 100000 in
set_option maxHeartbeats 4000000 in
theorem lc_loudest (hX : CX X D (tyL dT) cL_law RL wsL_law room_1 9) (hL : XLX X Z) (hs : XSX X b L xs) {i : Nat} (hi : i + 5 ≤ L) (hL2 : L ≤ 2560) {ce sl : Nat} (hce : ce + 862 ≤ 603072) (hsl : sl + 5100 ≤ 7198825) (hN : NX X D dT Z ad b m0 o o2 (nI i) 2327 (ce + 862) (sl + 5100)) (hr : REL I M S) (h8 : ad8 0 = m0) (h9 : ad8 99999 = Z.1) : GW X D (LW dT ad I o g o2 g2 ad8 M S) (lvW b (ad 0) m0 o o2 (nI i)) ce sl 2002 [] := by
  refine g_aload_n hX 4 rfl dL_law_2002 rfl ?_
  refine g_aload_n hX 2 rfl dL_law_2003 rfl ?_
  refine gw_w LW_J ?_
  refine l_callS hX hL [.ref (ad 0), .ref o] (k_L_loudest I S.2.2.1 hr.2.2.2.2.2.2.1.1 hr.2.2.2.2.2.2.1.2.1) gL_law_L_loudest rfl rfl rfl hd_L_loudest ⟨Nat.le_of_ble_eq_true rfl, Nat.le_of_ble_eq_true rfl⟩ ⟨by show _ ≤ 603072; omega, by show _ ≤ 7198825; omega⟩ rfl (Nat.le_of_ble_eq_true rfl) dL_law_2004 (fun r w hw => ?_)
  obtain ⟨J, g9, rfl, rfl, hR, hJ⟩ := hw
  refine gw_w LW_J.symm ?_
  refine g_istore hX ((6, .int (nI (klo I))) :: lvW b (ad 0) m0 o o2 (nI i)) rfl dL_law_2007 (Nat.le_of_ble_eq_true rfl) ?_
  refine g_aload_n hX 4 rfl dL_law_2009 rfl ?_
  refine l_callMI hX hL h8 [] (k_X8_loudest M S hr.1.1 hr.1.2.1 hr.1.2.2.1 hr.1.2.2.2) gL_law_X8_loudest rfl rfl rfl hd_X8_loudest ⟨Nat.le_of_ble_eq_true rfl, Nat.le_of_ble_eq_true rfl⟩ ⟨by show _ ≤ 603072; omega, by show _ ≤ 7198825; omega⟩ rfl (Nat.le_of_ble_eq_true rfl) dL_law_2010 (fun r u hu => ?_)
  obtain ⟨rfl, rfl⟩ := hu
  refine ⟨_, _, _, rfl, ?_⟩
  exact l_tailI hX hL hN (by omega) (by omega) hce hsl h8 h9 (n0 (by unfold klo; (repeat' split) <;> decide)) (st_loudest hr ⟨hR, hJ⟩) dL_law_2013 dL_law_2015 dL_law_2016 dL_law_2019 dL_law_2021 dL_law_2026 dL_law_2028 dL_law_2031 dL_law_2032 dL_law_2033 dL_law_2034 dL_law_2036 dL_law_2037 dL_law_2038 dL_law_2043 (by decide)
set_option maxRecDepth 100000 in
set_option maxHeartbeats 4000000 in
theorem lc_speed (hX : CX X D (tyL dT) cL_law RL wsL_law room_1 9) (hL : XLX X Z) (hs : XSX X b L xs) {i : Nat} (hi : i + 5 ≤ L) (hL2 : L ≤ 2560) {ce sl : Nat} (hce : ce + 862 ≤ 603072) (hsl : sl + 5100 ≤ 7198825) (hN : NX X D dT Z ad b m0 o o2 (nI i) 2327 (ce + 862) (sl + 5100)) (hr : REL I M S) (h8 : ad8 0 = m0) (h9 : ad8 99999 = Z.1) : GW X D (LW dT ad I o g o2 g2 ad8 M S) (lvW b (ad 0) m0 o o2 (nI i)) ce sl 2046 [] := by
  refine g_aload_n hX 4 rfl dL_law_2046 rfl ?_
  refine l_arg (k := 1) hX hs 5 0 (by omega) hL2 rfl rfl rfl dL_law_2047 dL_law_2048 dL_law_2050 dL_law_2051 dL_law_2052 ?_
  refine l_arg (k := 2) hX hs 5 0 (by omega) hL2 rfl rfl rfl dL_law_2053 dL_law_2054 dL_law_2056 dL_law_2057 dL_law_2058 ?_
  refine g_aload_n hX 2 rfl dL_law_2059 rfl ?_
  refine gw_w LW_J ?_
  refine l_callS hX hL [.ref (ad 0), .int (xs (i + 1)), .int (xs (i + 2)), .ref o] (k_L_speed I (xs (i + 1)) (xs (i + 2))) gL_law_L_speed rfl rfl rfl hd_L_speed ⟨Nat.le_of_ble_eq_true rfl, Nat.le_of_ble_eq_true rfl⟩ ⟨by show _ ≤ 603072; omega, by show _ ≤ 7198825; omega⟩ rfl (Nat.le_of_ble_eq_true rfl) dL_law_2060 (fun r w hw => ?_)
  obtain ⟨J, g9, rfl, rfl, hR, hJ⟩ := hw
  refine gw_w LW_J.symm ?_
  refine g_istore hX ((6, .int (nI (ksp (xs (i + 1)) (xs (i + 2))))) :: lvW b (ad 0) m0 o o2 (nI i)) rfl dL_law_2063 (Nat.le_of_ble_eq_true rfl) ?_
  refine g_aload_n hX 4 rfl dL_law_2065 rfl ?_
  refine l_arg (k := 1) hX hs 6 1 (by omega) hL2 rfl rfl rfl dL_law_2066 dL_law_2067 dL_law_2069 dL_law_2070 dL_law_2071 ?_
  refine l_arg (k := 2) hX hs 6 1 (by omega) hL2 rfl rfl rfl dL_law_2072 dL_law_2073 dL_law_2075 dL_law_2076 dL_law_2077 ?_
  refine l_callMI hX hL h8 [.int (xs (i + 1)), .int (xs (i + 2))] (k_X8_speed M S hr.1.1 hr.1.2.1 hr.1.2.2.1 hr.1.2.2.2 (xs (i + 1)) (xs (i + 2))) gL_law_X8_speed rfl rfl rfl hd_X8_speed ⟨Nat.le_of_ble_eq_true rfl, Nat.le_of_ble_eq_true rfl⟩ ⟨by show _ ≤ 603072; omega, by show _ ≤ 7198825; omega⟩ rfl (Nat.le_of_ble_eq_true rfl) dL_law_2078 (fun r u hu => ?_)
  obtain ⟨rfl, rfl⟩ := hu
  refine ⟨_, _, _, rfl, ?_⟩
  exact l_tailI hX hL hN (by omega) (by omega) hce hsl h8 h9 (n0 (by unfold ksp; (repeat' split) <;> decide)) (st_speed hr (xs (i + 1)) (xs (i + 2)) ⟨hR, hJ⟩) dL_law_2081 dL_law_2083 dL_law_2084 dL_law_2087 dL_law_2089 dL_law_2094 dL_law_2096 dL_law_2099 dL_law_2100 dL_law_2101 dL_law_2102 dL_law_2104 dL_law_2105 dL_law_2106 dL_law_2111 (by decide)
set_option maxRecDepth 100000 in
set_option maxHeartbeats 4000000 in
theorem lc_time (hX : CX X D (tyL dT) cL_law RL wsL_law room_1 9) (hL : XLX X Z) (hs : XSX X b L xs) {i : Nat} (hi : i + 5 ≤ L) (hL2 : L ≤ 2560) {ce sl : Nat} (hce : ce + 862 ≤ 603072) (hsl : sl + 5100 ≤ 7198825) (hN : NX X D dT Z ad b m0 o o2 (nI i) 2327 (ce + 862) (sl + 5100)) (hr : REL I M S) (h8 : ad8 0 = m0) (h9 : ad8 99999 = Z.1) : GW X D (LW dT ad I o g o2 g2 ad8 M S) (lvW b (ad 0) m0 o o2 (nI i)) ce sl 2114 [] := by
  obtain ⟨-, -, -, -, -, -, ⟨f9, hf1, hf2, hf3⟩, ⟨q9, hq1, hq2⟩⟩ := hr.2.2.2.1
  refine g_aload_n hX 4 rfl dL_law_2114 rfl ?_
  refine l_arg (k := 1) hX hs 5 0 (by omega) hL2 rfl rfl rfl dL_law_2115 dL_law_2116 dL_law_2118 dL_law_2119 dL_law_2120 ?_
  refine g_aload_n hX 2 rfl dL_law_2121 rfl ?_
  refine gw_w LW_J ?_
  refine l_callS hX hL [.ref (ad 0), .int (xs (i + 1)), .ref o] (k_L_time I (xs (i + 1))) gL_law_L_time rfl rfl rfl hd_L_time ⟨Nat.le_of_ble_eq_true rfl, Nat.le_of_ble_eq_true rfl⟩ ⟨by show _ ≤ 603072; omega, by show _ ≤ 7198825; omega⟩ rfl (Nat.le_of_ble_eq_true rfl) dL_law_2122 (fun r w hw => ?_)
  obtain ⟨J, g9, rfl, rfl, hR, hJ⟩ := hw
  refine gw_w LW_J.symm ?_
  refine g_istore hX ((6, .int (nI (ktm (xs (i + 1))))) :: lvW b (ad 0) m0 o o2 (nI i)) rfl dL_law_2125 (Nat.le_of_ble_eq_true rfl) ?_
  refine g_aload_n hX 4 rfl dL_law_2127 rfl ?_
  refine l_arg (k := 1) hX hs 6 1 (by omega) hL2 rfl rfl rfl dL_law_2128 dL_law_2129 dL_law_2131 dL_law_2132 dL_law_2133 ?_
  refine l_callML hX hL h8 [.int (xs (i + 1))] (k_X8_time M S hr.1.1 hr.1.2.1 hr.1.2.2.1 hr.1.2.2.2 f9 q9 hf1 hf2 hq1 hf3 hq2 (xs (i + 1))) gL_law_X8_time rfl rfl rfl hd_X8_time ⟨Nat.le_of_ble_eq_true rfl, Nat.le_of_ble_eq_true rfl⟩ ⟨by show _ ≤ 603072; omega, by show _ ≤ 7198825; omega⟩ rfl (Nat.le_of_ble_eq_true rfl) dL_law_2134 (fun r u hu => ?_)
  obtain ⟨rfl, rfl⟩ := hu
  refine ⟨_, _, _, rfl, ?_⟩
  exact l_tailL hX hL hN (by omega) (by omega) hce hsl h8 h9 (n0 (by unfold ktm; (repeat' split) <;> decide)) (st_time hr hf1 hf2 hq1 hf3 hq2 (xs (i + 1)) ⟨hR, hJ⟩) dL_law_2137 dL_law_2139 dL_law_2140 dL_law_2143 dL_law_2145 dL_law_2150 dL_law_2152 dL_law_2155 dL_law_2156 dL_law_2157 dL_law_2158 dL_law_2160 dL_law_2161 dL_law_2166 (by decide)
set_option maxRecDepth 100000 in
set_option maxHeartbeats 4000000 in
theorem lc_checksum (hX : CX X D (tyL dT) cL_law RL wsL_law room_1 9) (hL : XLX X Z) (hs : XSX X b L xs) {i : Nat} (hi : i + 5 ≤ L) (hL2 : L ≤ 2560) {ce sl : Nat} (hce : ce + 862 ≤ 603072) (hsl : sl + 5100 ≤ 7198825) (hN : NX X D dT Z ad b m0 o o2 (nI i) 2327 (ce + 862) (sl + 5100)) (hr : REL I M S) (h8 : ad8 0 = m0) (h9 : ad8 99999 = Z.1) : GW X D (LW dT ad I o g o2 g2 ad8 M S) (lvW b (ad 0) m0 o o2 (nI i)) ce sl 2169 [] := by
  refine g_aload_n hX 4 rfl dL_law_2169 rfl ?_
  refine l_callCL hX (k_X6_checksum I S.1 hr.2.1.1 hr.2.1.2.1 S.2.2.1 hr.2.2.2.2.2.2.1.1 hr.2.2.2.2.2.2.1.2.1) gL_law_X6_checksum rfl rfl rfl hd_X6_checksum ⟨Nat.le_of_ble_eq_true rfl, Nat.le_of_ble_eq_true rfl⟩ ⟨by show _ ≤ 603072; omega, by show _ ≤ 7198825; omega⟩ rfl (Nat.le_of_ble_eq_true rfl) dL_law_2170 (fun r J hJ => ?_)
  refine g_aload_n hX 3 rfl dL_law_2173 rfl ?_
  refine l_callML hX hL h8 [] (k_X8_checksum M S hr.1.1 hr.1.2.1 hr.1.2.2.1 hr.1.2.2.2) gL_law_X8_checksum rfl rfl rfl hd_X8_checksum ⟨Nat.le_of_ble_eq_true rfl, Nat.le_of_ble_eq_true rfl⟩ ⟨by show _ ≤ 603072; omega, by show _ ≤ 7198825; omega⟩ rfl (Nat.le_of_ble_eq_true rfl) dL_law_2174 (fun r u hu => ?_)
  obtain ⟨⟨ad2, hA, rfl⟩, rfl⟩ := hu
  obtain ⟨rfl, hv⟩ := hJ
  refine ⟨_, _, _, rfl, ?_⟩
  refine g_lcmp hX dL_law_2177 ?_
  exact g_if_eq (tgt := 2327) hX dL_law_2178 (by decide) (fun _ => g_widen (by omega) (by omega) (hN _ _ _ _ _ _ hr ((hA 0 (Or.inl (m_lo (by decide))) (by decide) (Or.inl (by decide))).trans h8) (AGm_z hA h9))) (fun e => absurd ((lg_cmp_eq _ _).mpr (hv.symm.trans (st_ck hr))) e)
set_option maxRecDepth 100000 in
set_option maxHeartbeats 4000000 in
theorem lc_heardShare (hX : CX X D (tyL dT) cL_law RL wsL_law room_1 9) (hL : XLX X Z) (hs : XSX X b L xs) {i : Nat} (hi : i + 5 ≤ L) (hL2 : L ≤ 2560) {ce sl : Nat} (hce : ce + 862 ≤ 603072) (hsl : sl + 5100 ≤ 7198825) (hN : NX X D dT Z ad b m0 o o2 (nI i) 2327 (ce + 862) (sl + 5100)) (hr : REL I M S) (h8 : ad8 0 = m0) (h9 : ad8 99999 = Z.1) : GW X D (LW dT ad I o g o2 g2 ad8 M S) (lvW b (ad 0) m0 o o2 (nI i)) ce sl 2183 [] := by
  refine g_aload_n hX 4 rfl dL_law_2183 rfl ?_
  refine g_aload hX 1 rfl dL_law_2184 ?_
  refine gw_w LW_D ?_
  refine l_callS hX hL [.ref (ad 0), .ref o2] (k_L_heardShare I) gL_law_L_heardShare rfl rfl rfl hd_L_heardShare ⟨Nat.le_of_ble_eq_true rfl, Nat.le_of_ble_eq_true rfl⟩ ⟨by show _ ≤ 603072; omega, by show _ ≤ 7198825; omega⟩ rfl (Nat.le_of_ble_eq_true rfl) dL_law_2186 (fun r w hw => ?_)
  obtain ⟨J, g9, rfl, rfl, hR, hJ⟩ := hw
  refine gw_w LW_D.symm ?_
  refine g_istore hX ((6, .int (nI (khs I))) :: lvW b (ad 0) m0 o o2 (nI i)) rfl dL_law_2189 (Nat.le_of_ble_eq_true rfl) ?_
  refine g_aload_n hX 4 rfl dL_law_2191 rfl ?_
  refine l_callMF hX hL h8 [] (k_X8_heardShare M S hr.1.1 hr.1.2.1 hr.1.2.2.1 hr.1.2.2.2) gL_law_X8_heardShare rfl rfl rfl hd_X8_heardShare ⟨Nat.le_of_ble_eq_true rfl, Nat.le_of_ble_eq_true rfl⟩ ⟨by show _ ≤ 603072; omega, by show _ ≤ 7198825; omega⟩ rfl (Nat.le_of_ble_eq_true rfl) dL_law_2192 (fun r u hu => ?_)
  obtain ⟨rfl, hv⟩ := hu
  refine ⟨_, _, _, rfl, ?_⟩
  exact l_tailF hX hL hN (by omega) (by omega) hce hsl h8 h9 (n0 (by unfold khs; (repeat' split) <;> decide)) (st_heard hr hv ⟨hR, hJ⟩) dL_law_2195 dL_law_2197 dL_law_2198 dL_law_2201 dL_law_2203 dL_law_2208 dL_law_2210 dL_law_2213 dL_law_2215 dL_law_2216 dL_law_2217 dL_law_2219 dL_law_2220 dL_law_2221 dL_law_2246 (by decide)
set_option maxRecDepth 100000 in
set_option maxHeartbeats 4000000 in
theorem lc_meanLoud (hX : CX X D (tyL dT) cL_law RL wsL_law room_1 9) (hL : XLX X Z) (hs : XSX X b L xs) {i : Nat} (hi : i + 5 ≤ L) (hL2 : L ≤ 2560) {ce sl : Nat} (hce : ce + 862 ≤ 603072) (hsl : sl + 5100 ≤ 7198825) (hN : NX X D dT Z ad b m0 o o2 (nI i) 2327 (ce + 862) (sl + 5100)) (hr : REL I M S) (h8 : ad8 0 = m0) (h9 : ad8 99999 = Z.1) : GW X D (LW dT ad I o g o2 g2 ad8 M S) (lvW b (ad 0) m0 o o2 (nI i)) ce sl 2249 [] := by
  refine g_aload_n hX 4 rfl dL_law_2249 rfl ?_
  refine g_aload hX 1 rfl dL_law_2250 ?_
  refine gw_w LW_D ?_
  refine l_callS hX hL [.ref (ad 0), .ref o2] (k_L_meanLoud I S.2.2.1 hr.2.2.2.2.2.2.1.1 hr.2.2.2.2.2.2.1.2.1) gL_law_L_meanLoud rfl rfl rfl hd_L_meanLoud ⟨Nat.le_of_ble_eq_true rfl, Nat.le_of_ble_eq_true rfl⟩ ⟨by show _ ≤ 603072; omega, by show _ ≤ 7198825; omega⟩ rfl (Nat.le_of_ble_eq_true rfl) dL_law_2252 (fun r w hw => ?_)
  obtain ⟨J, g9, rfl, rfl, hR, hJ⟩ := hw
  refine gw_w LW_D.symm ?_
  refine g_istore hX ((6, .int (nI (klo I))) :: lvW b (ad 0) m0 o o2 (nI i)) rfl dL_law_2255 (Nat.le_of_ble_eq_true rfl) ?_
  refine g_aload_n hX 4 rfl dL_law_2257 rfl ?_
  refine l_callMZ hX hL h8 [] (k_X8_meanLoud M S hr.1.1 hr.1.2.1 hr.1.2.2.1 hr.1.2.2.2) gL_law_X8_meanLoud rfl rfl rfl hd_X8_meanLoud ⟨Nat.le_of_ble_eq_true rfl, Nat.le_of_ble_eq_true rfl⟩ ⟨by show _ ≤ 603072; omega, by show _ ≤ 7198825; omega⟩ rfl (Nat.le_of_ble_eq_true rfl) dL_law_2258 (fun r u hu => ?_)
  obtain ⟨⟨ad2, hA, rfl⟩, hv⟩ := hu
  refine ⟨_, _, _, rfl, ?_⟩
  exact l_tailZ hX hL hN (by omega) (by omega) hce hsl ((hA 0 (Or.inl (m_lo (by decide))) (by decide) (Or.inl (by decide))).trans h8) (AGm_z hA h9) (n0 (by unfold klo; (repeat' split) <;> decide)) (st_mean hr hv ⟨hR, hJ⟩) dL_law_2261 dL_law_2263 dL_law_2264 dL_law_2267 dL_law_2269 dL_law_2274 dL_law_2276 dL_law_2279 dL_law_2281 dL_law_2282 dL_law_2283 dL_law_2285 dL_law_2286 dL_law_2311 (by decide)
set_option maxRecDepth 100000 in
set_option maxHeartbeats 4000000 in
theorem lc_isSound (hX : CX X D (tyL dT) cL_law RL wsL_law room_1 9) (hL : XLX X Z) (hs : XSX X b L xs) {i : Nat} (hi : i + 5 ≤ L) (hL2 : L ≤ 2560) {ce sl : Nat} (hce : ce + 862 ≤ 603072) (hsl : sl + 5100 ≤ 7198825) (hN : NX X D dT Z ad b m0 o o2 (nI i) 2327 (ce + 862) (sl + 5100)) (hr : REL I M S) (h8 : ad8 0 = m0) (h9 : ad8 99999 = Z.1) : GW X D (LW dT ad I o g o2 g2 ad8 M S) (lvW b (ad 0) m0 o o2 (nI i)) ce sl 2314 [] := by
  obtain ⟨fa, la, pa, hn, ha⟩ := hr.2.2.1
  refine g_aload_n hX 4 rfl dL_law_2314 rfl ?_
  refine l_callCI hX (k_X6_isSound I S.2.1 hn.1 hn.2.1 fa (fun n q => ⟨(hn.2.2.1 n q).1.1, by have := hn.2.2.1 n q; omega⟩) S.2.2.1 hr.2.2.2.2.2.2.1.1 hr.2.2.2.2.2.2.1.2.1) gL_law_X6_isSound rfl rfl rfl hd_X6_isSound ⟨Nat.le_of_ble_eq_true rfl, Nat.le_of_ble_eq_true rfl⟩ ⟨by show _ ≤ 603072; omega, by show _ ≤ 7198825; omega⟩ rfl (Nat.le_of_ble_eq_true rfl) dL_law_2315 (fun r J hJ => ?_)
  refine g_aload_n hX 3 rfl dL_law_2318 rfl ?_
  refine l_callMI hX hL h8 [] (k_X8_isSound M S hr.1.1 hr.1.2.1 hr.1.2.2.1 hr.1.2.2.2) gL_law_X8_isSound rfl rfl rfl hd_X8_isSound ⟨Nat.le_of_ble_eq_true rfl, Nat.le_of_ble_eq_true rfl⟩ ⟨by show _ ≤ 603072; omega, by show _ ≤ 7198825; omega⟩ rfl (Nat.le_of_ble_eq_true rfl) dL_law_2319 (fun r u hu => ?_)
  obtain ⟨rfl, rfl⟩ := hu
  obtain ⟨g9, rfl, hv⟩ := hJ
  refine ⟨_, _, _, rfl, ?_⟩
  exact g_icmp_eq (tgt := 2327) hX dL_law_2322 (by decide) (fun _ => g_widen (by omega) (by omega) (hN _ _ _ _ _ _ (REL_23 hr) h8 h9)) (fun c => absurd (st_isSound (J := I) hr hn ha hv) c)
end LCS
