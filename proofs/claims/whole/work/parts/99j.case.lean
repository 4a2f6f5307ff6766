set_option maxHeartbeats 1000000 in
set_option maxRecDepth 20000 in
theorem lwc_road {D : va_G} {cy : Nat → ClassId} {B : Nat} {p : Program} {l : Launch} {e : Env} {s : State} {m : MethodId} {b L X0 i : Nat} {xs : Nat → Int32} {below : List Frame} {meth : Method} {c : Code} {Q : State → Prop} (X : CXd D cy B p s m #[.ref b] c cL_law RL 4) (S : LSc s B b L xs) {h : Hp} {k n : Nat} (hi : i + 6 ≤ L) (hkn : k + 31 ≤ 600000 ∧ n + 292 ≤ 7302250) (I : Inv h X0) (K : ∀ (h' : Hp) (k' n' : Nat), Inv h' X0 → k' ≤ k + 31 → n' ≤ n + 292 → AWd D cy B p l e room_1 s m #[.ref b] below meth c 4 Q h' k' n' 2132 (LVs b X0 i) []) : AWd D cy B p l e room_1 s m #[.ref b] below meth c 4 Q h k n 1805 (LVs b X0 i) [] := by
  obtain ⟨c9, J, -, -, -⟩ := id I
  have g1 : (hK h X0).1 = 11 := J.x.k
  obtain ⟨v, h1, h2, e1, e2, I2⟩ := ok_road (a := sx xs i 1) (b := sx xs i 2) I
  have e1 : fX11_road h X0 (sx xs i 1) (sx xs i 2) = some (v, h1) := e1
  have e2 : fX12_road h1 (X0 + 121) (sx xs i 1) (sx xs i 2) = some (v, h2) := e2
  have g2 : (hK h1 (X0 + 121)).1 = 12 := by
    have z := e2
    rw [fX12_road.eq_1] at z
    exact (gd_some z).1
  refine aw_aload_n (pc := 1805) X dL_law_1805 2 rfl ?_
  refine aw_word (pc := 1806) X S hi 1 (by decide) rfl dL_law_1806 dL_law_1807 dL_law_1808 dL_law_1809 dL_law_1810 ?_
  refine aw_word (pc := 1811) X S hi 2 (by decide) rfl dL_law_1811 dL_law_1812 dL_law_1813 dL_law_1814 dL_law_1815 ?_
  refine aw_invV (pc := 1816) X (kX11_road sx_rg sx_rg e1) mw_yX11_road kw_1418 kw_1419 kw_1420 g1 rfl (by decide) rfl ⟨(Nat.le_of_ble_eq_true rfl), (Nat.le_of_ble_eq_true rfl)⟩ rfl (Nat.le_of_ble_eq_true rfl) (lw_rm ⟨by omega, by omega⟩) dL_law_1816 ?_
  refine aw_ret1 (k' := k + 0) (n' := n + 0) rfl rfl ?_
  refine aw_aload_n (pc := 1819) X dL_law_1819 3 rfl ?_
  refine aw_word (pc := 1820) X S hi 1 (by decide) rfl dL_law_1820 dL_law_1821 dL_law_1822 dL_law_1823 dL_law_1824 ?_
  refine aw_word (pc := 1825) X S hi 2 (by decide) rfl dL_law_1825 dL_law_1826 dL_law_1827 dL_law_1828 dL_law_1829 ?_
  refine aw_invV (pc := 1830) X (kX12_road sx_rg sx_rg e2) mw_yX12_road kw_2186 kw_2187 kw_2188 g2 rfl (by decide) rfl ⟨(Nat.le_of_ble_eq_true rfl), (Nat.le_of_ble_eq_true rfl)⟩ rfl (Nat.le_of_ble_eq_true rfl) (lw_rm ⟨by omega, by omega⟩) dL_law_1830 ?_
  refine aw_ret1 (k' := k + 0 + 0) (n' := n + 0 + 0) rfl rfl ?_
  refine aw_icmp_eq (pc := 1833) (tgt := 2132) X (gX11_road sx_rg sx_rg e1) (gX12_road sx_rg sx_rg e2) dL_law_1833 (by decide) (fun _ => ?_) (fun z => absurd rfl z)
  exact K _ _ _ I2 (by omega) (by omega)
set_option maxHeartbeats 1000000 in
set_option maxRecDepth 20000 in
theorem lwc_brokeOn {D : va_G} {cy : Nat → ClassId} {B : Nat} {p : Program} {l : Launch} {e : Env} {s : State} {m : MethodId} {b L X0 i : Nat} {xs : Nat → Int32} {below : List Frame} {meth : Method} {c : Code} {Q : State → Prop} (X : CXd D cy B p s m #[.ref b] c cL_law RL 4) (S : LSc s B b L xs) {h : Hp} {k n : Nat} (hi : i + 6 ≤ L) (hkn : k + 31 ≤ 600000 ∧ n + 292 ≤ 7302250) (I : Inv h X0) (K : ∀ (h' : Hp) (k' n' : Nat), Inv h' X0 → k' ≤ k + 31 → n' ≤ n + 292 → AWd D cy B p l e room_1 s m #[.ref b] below meth c 4 Q h' k' n' 2132 (LVs b X0 i) []) : AWd D cy B p l e room_1 s m #[.ref b] below meth c 4 Q h k n 1838 (LVs b X0 i) [] := by
  obtain ⟨c9, J, -, -, -⟩ := id I
  have g1 : (hK h X0).1 = 11 := J.x.k
  obtain ⟨v, h1, h2, e1, e2, I2⟩ := ok_brokeOn (a := sx xs i 1) I
  have e1 : fX11_brokeOn h X0 (sx xs i 1) = some (v, h1) := e1
  have e2 : fX12_brokeOn h1 (X0 + 121) (sx xs i 1) = some (v, h2) := e2
  have g2 : (hK h1 (X0 + 121)).1 = 12 := by
    have z := e2
    rw [fX12_brokeOn.eq_1] at z
    exact (gd_some z).1
  refine aw_aload_n (pc := 1838) X dL_law_1838 2 rfl ?_
  refine aw_word (pc := 1839) X S hi 1 (by decide) rfl dL_law_1839 dL_law_1840 dL_law_1841 dL_law_1842 dL_law_1843 ?_
  refine aw_invV (pc := 1844) X (kX11_brokeOn sx_rg e1) mw_yX11_brokeOn kw_1428 kw_1429 kw_1430 g1 rfl (by decide) rfl ⟨(Nat.le_of_ble_eq_true rfl), (Nat.le_of_ble_eq_true rfl)⟩ rfl (Nat.le_of_ble_eq_true rfl) (lw_rm ⟨by omega, by omega⟩) dL_law_1844 ?_
  refine aw_ret1 (k' := k + 0) (n' := n + 0) rfl rfl ?_
  refine aw_aload_n (pc := 1847) X dL_law_1847 3 rfl ?_
  refine aw_word (pc := 1848) X S hi 1 (by decide) rfl dL_law_1848 dL_law_1849 dL_law_1850 dL_law_1851 dL_law_1852 ?_
  refine aw_invV (pc := 1853) X (kX12_brokeOn sx_rg e2) mw_yX12_brokeOn kw_2200 kw_2201 kw_2202 g2 rfl (by decide) rfl ⟨(Nat.le_of_ble_eq_true rfl), (Nat.le_of_ble_eq_true rfl)⟩ rfl (Nat.le_of_ble_eq_true rfl) (lw_rm ⟨by omega, by omega⟩) dL_law_1853 ?_
  refine aw_ret1 (k' := k + 0 + 0) (n' := n + 0 + 0) rfl rfl ?_
  refine aw_icmp_eq (pc := 1856) (tgt := 2132) X (gX11_brokeOn sx_rg e1) (gX12_brokeOn sx_rg e2) dL_law_1856 (by decide) (fun _ => ?_) (fun z => absurd rfl z)
  exact K _ _ _ I2 (by omega) (by omega)
set_option maxHeartbeats 1000000 in
set_option maxRecDepth 20000 in
theorem lwc_odds {D : va_G} {cy : Nat → ClassId} {B : Nat} {p : Program} {l : Launch} {e : Env} {s : State} {m : MethodId} {b L X0 i : Nat} {xs : Nat → Int32} {below : List Frame} {meth : Method} {c : Code} {Q : State → Prop} (X : CXd D cy B p s m #[.ref b] c cL_law RL 4) (S : LSc s B b L xs) {h : Hp} {k n : Nat} (hi : i + 6 ≤ L) (hkn : k + 31 ≤ 600000 ∧ n + 292 ≤ 7302250) (I : Inv h X0) (K : ∀ (h' : Hp) (k' n' : Nat), Inv h' X0 → k' ≤ k + 31 → n' ≤ n + 292 → AWd D cy B p l e room_1 s m #[.ref b] below meth c 4 Q h' k' n' 2132 (LVs b X0 i) []) : AWd D cy B p l e room_1 s m #[.ref b] below meth c 4 Q h k n 1861 (LVs b X0 i) [] := by
  obtain ⟨c9, J, -, -, -⟩ := id I
  have g1 : (hK h X0).1 = 11 := J.x.k
  obtain ⟨v, h1, h2, e1, e2, I2⟩ := ok_odds (a := sx xs i 1) (b := sx xs i 2) (d := sx xs i 3) (m := sx xs i 4) I
  have e1 : fX11_odds h X0 (sx xs i 1) (sx xs i 2) (sx xs i 3) (sx xs i 4) = some (v, h1) := e1
  have e2 : fX12_odds h1 (X0 + 121) (sx xs i 1) (sx xs i 2) (sx xs i 3) (sx xs i 4) = some (v, h2) := e2
  have g2 : (hK h1 (X0 + 121)).1 = 12 := by
    have z := e2
    rw [fX12_odds.eq_1] at z
    exact (gd_some z).1
  refine aw_aload_n (pc := 1861) X dL_law_1861 2 rfl ?_
  refine aw_word (pc := 1862) X S hi 1 (by decide) rfl dL_law_1862 dL_law_1863 dL_law_1864 dL_law_1865 dL_law_1866 ?_
  refine aw_word (pc := 1867) X S hi 2 (by decide) rfl dL_law_1867 dL_law_1868 dL_law_1869 dL_law_1870 dL_law_1871 ?_
  refine aw_word (pc := 1872) X S hi 3 (by decide) rfl dL_law_1872 dL_law_1873 dL_law_1874 dL_law_1875 dL_law_1876 ?_
  refine aw_word (pc := 1877) X S hi 4 (by decide) rfl dL_law_1877 dL_law_1878 dL_law_1879 dL_law_1880 dL_law_1881 ?_
  refine aw_invV (pc := 1882) X (kX11_odds sx_rg sx_rg sx_rg sx_rg e1) mw_yX11_odds kw_1432 kw_1433 kw_1434 g1 rfl (by decide) rfl ⟨(Nat.le_of_ble_eq_true rfl), (Nat.le_of_ble_eq_true rfl)⟩ rfl (Nat.le_of_ble_eq_true rfl) (lw_rm ⟨by omega, by omega⟩) dL_law_1882 ?_
  refine aw_ret1 (k' := k + 0) (n' := n + 0) rfl rfl ?_
  refine aw_aload_n (pc := 1885) X dL_law_1885 3 rfl ?_
  refine aw_word (pc := 1886) X S hi 1 (by decide) rfl dL_law_1886 dL_law_1887 dL_law_1888 dL_law_1889 dL_law_1890 ?_
  refine aw_word (pc := 1891) X S hi 2 (by decide) rfl dL_law_1891 dL_law_1892 dL_law_1893 dL_law_1894 dL_law_1895 ?_
  refine aw_word (pc := 1896) X S hi 3 (by decide) rfl dL_law_1896 dL_law_1897 dL_law_1898 dL_law_1899 dL_law_1900 ?_
  refine aw_word (pc := 1901) X S hi 4 (by decide) rfl dL_law_1901 dL_law_1902 dL_law_1903 dL_law_1904 dL_law_1905 ?_
  refine aw_invV (pc := 1906) X (kX12_odds sx_rg sx_rg sx_rg sx_rg e2) mw_yX12_odds kw_2204 kw_2205 kw_2206 g2 rfl (by decide) rfl ⟨(Nat.le_of_ble_eq_true rfl), (Nat.le_of_ble_eq_true rfl)⟩ rfl (Nat.le_of_ble_eq_true rfl) (lw_rm ⟨by omega, by omega⟩) dL_law_1906 ?_
  refine aw_ret1 (k' := k + 0 + 0) (n' := n + 0 + 0) rfl rfl ?_
  refine aw_icmp_eq (pc := 1909) (tgt := 2132) X (rg_01 (gX11_odds sx_rg sx_rg sx_rg sx_rg e1)) (rg_01 (gX12_odds sx_rg sx_rg sx_rg sx_rg e2)) dL_law_1909 (by decide) (fun _ => ?_) (fun z => absurd rfl z)
  exact K _ _ _ I2 (by omega) (by omega)
set_option maxHeartbeats 1000000 in
set_option maxRecDepth 20000 in
theorem lwc_safe {D : va_G} {cy : Nat → ClassId} {B : Nat} {p : Program} {l : Launch} {e : Env} {s : State} {m : MethodId} {b L X0 i : Nat} {xs : Nat → Int32} {below : List Frame} {meth : Method} {c : Code} {Q : State → Prop} (X : CXd D cy B p s m #[.ref b] c cL_law RL 4) (S : LSc s B b L xs) {h : Hp} {k n : Nat} (hi : i + 6 ≤ L) (hkn : k + 31 ≤ 600000 ∧ n + 292 ≤ 7302250) (I : Inv h X0) (K : ∀ (h' : Hp) (k' n' : Nat), Inv h' X0 → k' ≤ k + 31 → n' ≤ n + 292 → AWd D cy B p l e room_1 s m #[.ref b] below meth c 4 Q h' k' n' 2132 (LVs b X0 i) []) : AWd D cy B p l e room_1 s m #[.ref b] below meth c 4 Q h k n 1914 (LVs b X0 i) [] := by
  obtain ⟨c9, J, -, -, -⟩ := id I
  have g1 : (hK h X0).1 = 11 := J.x.k
  obtain ⟨v, h1, h2, e1, e2, I2⟩ := ok_safe (a := sx xs i 1) (b := sx xs i 2) (d := sx xs i 3) I
  have e1 : fX11_safe h X0 (sx xs i 1) (sx xs i 2) (sx xs i 3) = some (v, h1) := e1
  have e2 : fX12_safe h1 (X0 + 121) (sx xs i 1) (sx xs i 2) (sx xs i 3) = some (v, h2) := e2
  have g2 : (hK h1 (X0 + 121)).1 = 12 := by
    have z := e2
    rw [fX12_safe.eq_1] at z
    exact (gd_some z).1
  refine aw_aload_n (pc := 1914) X dL_law_1914 2 rfl ?_
  refine aw_word (pc := 1915) X S hi 1 (by decide) rfl dL_law_1915 dL_law_1916 dL_law_1917 dL_law_1918 dL_law_1919 ?_
  refine aw_word (pc := 1920) X S hi 2 (by decide) rfl dL_law_1920 dL_law_1921 dL_law_1922 dL_law_1923 dL_law_1924 ?_
  refine aw_word (pc := 1925) X S hi 3 (by decide) rfl dL_law_1925 dL_law_1926 dL_law_1927 dL_law_1928 dL_law_1929 ?_
  refine aw_invV (pc := 1930) X (kX11_safe sx_rg sx_rg sx_rg e1) mw_yX11_safe kw_1441 kw_1442 kw_1443 g1 rfl (by decide) rfl ⟨(Nat.le_of_ble_eq_true rfl), (Nat.le_of_ble_eq_true rfl)⟩ rfl (Nat.le_of_ble_eq_true rfl) (lw_rm ⟨by omega, by omega⟩) dL_law_1930 ?_
  refine aw_ret1 (k' := k + 0) (n' := n + 0) rfl rfl ?_
  refine aw_aload_n (pc := 1933) X dL_law_1933 3 rfl ?_
  refine aw_word (pc := 1934) X S hi 1 (by decide) rfl dL_law_1934 dL_law_1935 dL_law_1936 dL_law_1937 dL_law_1938 ?_
  refine aw_word (pc := 1939) X S hi 2 (by decide) rfl dL_law_1939 dL_law_1940 dL_law_1941 dL_law_1942 dL_law_1943 ?_
  refine aw_word (pc := 1944) X S hi 3 (by decide) rfl dL_law_1944 dL_law_1945 dL_law_1946 dL_law_1947 dL_law_1948 ?_
  refine aw_invV (pc := 1949) X (kX12_safe sx_rg sx_rg sx_rg e2) mw_yX12_safe kw_2216 kw_2217 kw_2218 g2 rfl (by decide) rfl ⟨(Nat.le_of_ble_eq_true rfl), (Nat.le_of_ble_eq_true rfl)⟩ rfl (Nat.le_of_ble_eq_true rfl) (lw_rm ⟨by omega, by omega⟩) dL_law_1949 ?_
  refine aw_ret1 (k' := k + 0 + 0) (n' := n + 0 + 0) rfl rfl ?_
  refine aw_icmp_eq (pc := 1952) (tgt := 2132) X (rg_01 (gX11_safe sx_rg sx_rg sx_rg e1)) (rg_01 (gX12_safe sx_rg sx_rg sx_rg e2)) dL_law_1952 (by decide) (fun _ => ?_) (fun z => absurd rfl z)
  exact K _ _ _ I2 (by omega) (by omega)
set_option maxHeartbeats 1000000 in
set_option maxRecDepth 20000 in
theorem lwc_third {D : va_G} {cy : Nat → ClassId} {B : Nat} {p : Program} {l : Launch} {e : Env} {s : State} {m : MethodId} {b L X0 i : Nat} {xs : Nat → Int32} {below : List Frame} {meth : Method} {c : Code} {Q : State → Prop} (X : CXd D cy B p s m #[.ref b] c cL_law RL 4) (S : LSc s B b L xs) {h : Hp} {k n : Nat} (hi : i + 6 ≤ L) (hkn : k + 31 ≤ 600000 ∧ n + 292 ≤ 7302250) (I : Inv h X0) (K : ∀ (h' : Hp) (k' n' : Nat), Inv h' X0 → k' ≤ k + 31 → n' ≤ n + 292 → AWd D cy B p l e room_1 s m #[.ref b] below meth c 4 Q h' k' n' 2132 (LVs b X0 i) []) : AWd D cy B p l e room_1 s m #[.ref b] below meth c 4 Q h k n 1957 (LVs b X0 i) [] := by
  obtain ⟨c9, J, -, -, -⟩ := id I
  have g1 : (hK h X0).1 = 11 := J.x.k
  obtain ⟨v, h1, h2, e1, e2, I2⟩ := ok_third (a := sx xs i 1) (b := sx xs i 2) (t := sx xs i 3) (n := sx xs i 4) I
  have e1 : fX11_third h X0 (sx xs i 1) (sx xs i 2) (sx xs i 3) (sx xs i 4) = some (v, h1) := e1
  have e2 : fX12_third h1 (X0 + 121) (sx xs i 1) (sx xs i 2) (sx xs i 3) (sx xs i 4) = some (v, h2) := e2
  have g2 : (hK h1 (X0 + 121)).1 = 12 := by
    have z := e2
    rw [fX12_third.eq_1] at z
    exact (gd_some z).1
  refine aw_aload_n (pc := 1957) X dL_law_1957 2 rfl ?_
  refine aw_word (pc := 1958) X S hi 1 (by decide) rfl dL_law_1958 dL_law_1959 dL_law_1960 dL_law_1961 dL_law_1962 ?_
  refine aw_word (pc := 1963) X S hi 2 (by decide) rfl dL_law_1963 dL_law_1964 dL_law_1965 dL_law_1966 dL_law_1967 ?_
  refine aw_word (pc := 1968) X S hi 3 (by decide) rfl dL_law_1968 dL_law_1969 dL_law_1970 dL_law_1971 dL_law_1972 ?_
  refine aw_word (pc := 1973) X S hi 4 (by decide) rfl dL_law_1973 dL_law_1974 dL_law_1975 dL_law_1976 dL_law_1977 ?_
  refine aw_invV (pc := 1978) X (kX11_third sx_rg sx_rg sx_rg sx_rg e1) mw_yX11_third kw_1447 kw_1448 kw_1449 g1 rfl (by decide) rfl ⟨(Nat.le_of_ble_eq_true rfl), (Nat.le_of_ble_eq_true rfl)⟩ rfl (Nat.le_of_ble_eq_true rfl) (lw_rm ⟨by omega, by omega⟩) dL_law_1978 ?_
  refine aw_ret1 (k' := k + 0) (n' := n + 0) rfl rfl ?_
  refine aw_aload_n (pc := 1981) X dL_law_1981 3 rfl ?_
  refine aw_word (pc := 1982) X S hi 1 (by decide) rfl dL_law_1982 dL_law_1983 dL_law_1984 dL_law_1985 dL_law_1986 ?_
  refine aw_word (pc := 1987) X S hi 2 (by decide) rfl dL_law_1987 dL_law_1988 dL_law_1989 dL_law_1990 dL_law_1991 ?_
  refine aw_word (pc := 1992) X S hi 3 (by decide) rfl dL_law_1992 dL_law_1993 dL_law_1994 dL_law_1995 dL_law_1996 ?_
  refine aw_word (pc := 1997) X S hi 4 (by decide) rfl dL_law_1997 dL_law_1998 dL_law_1999 dL_law_2000 dL_law_2001 ?_
  refine aw_invV (pc := 2002) X (kX12_third sx_rg sx_rg sx_rg sx_rg e2) mw_yX12_third kw_2225 kw_2226 kw_2227 g2 rfl (by decide) rfl ⟨(Nat.le_of_ble_eq_true rfl), (Nat.le_of_ble_eq_true rfl)⟩ rfl (Nat.le_of_ble_eq_true rfl) (lw_rm ⟨by omega, by omega⟩) dL_law_2002 ?_
  refine aw_ret1 (k' := k + 0 + 0) (n' := n + 0 + 0) rfl rfl ?_
  refine aw_icmp_eq (pc := 2005) (tgt := 2132) X (rg_01 (gX11_third sx_rg sx_rg sx_rg sx_rg e1)) (rg_01 (gX12_third sx_rg sx_rg sx_rg sx_rg e2)) dL_law_2005 (by decide) (fun _ => ?_) (fun z => absurd rfl z)
  exact K _ _ _ I2 (by omega) (by omega)
set_option maxHeartbeats 1000000 in
set_option maxRecDepth 20000 in
theorem lwc_second {D : va_G} {cy : Nat → ClassId} {B : Nat} {p : Program} {l : Launch} {e : Env} {s : State} {m : MethodId} {b L X0 i : Nat} {xs : Nat → Int32} {below : List Frame} {meth : Method} {c : Code} {Q : State → Prop} (X : CXd D cy B p s m #[.ref b] c cL_law RL 4) (S : LSc s B b L xs) {h : Hp} {k n : Nat} (hi : i + 6 ≤ L) (hkn : k + 31 ≤ 600000 ∧ n + 292 ≤ 7302250) (I : Inv h X0) (K : ∀ (h' : Hp) (k' n' : Nat), Inv h' X0 → k' ≤ k + 31 → n' ≤ n + 292 → AWd D cy B p l e room_1 s m #[.ref b] below meth c 4 Q h' k' n' 2132 (LVs b X0 i) []) : AWd D cy B p l e room_1 s m #[.ref b] below meth c 4 Q h k n 2010 (LVs b X0 i) [] := by
  obtain ⟨c9, J, -, -, -⟩ := id I
  have g1 : (hK h X0).1 = 11 := J.x.k
  obtain ⟨v, h1, h2, e1, e2, I2⟩ := ok_second (a := sx xs i 1) (b := sx xs i 2) (t := sx xs i 3) (n := sx xs i 4) I
  have e1 : fX11_second h X0 (sx xs i 1) (sx xs i 2) (sx xs i 3) (sx xs i 4) = some (v, h1) := e1
  have e2 : fX12_second h1 (X0 + 121) (sx xs i 1) (sx xs i 2) (sx xs i 3) (sx xs i 4) = some (v, h2) := e2
  have g2 : (hK h1 (X0 + 121)).1 = 12 := by
    have z := e2
    rw [fX12_second.eq_1] at z
    exact (gd_some z).1
  refine aw_aload_n (pc := 2010) X dL_law_2010 2 rfl ?_
  refine aw_word (pc := 2011) X S hi 1 (by decide) rfl dL_law_2011 dL_law_2012 dL_law_2013 dL_law_2014 dL_law_2015 ?_
  refine aw_word (pc := 2016) X S hi 2 (by decide) rfl dL_law_2016 dL_law_2017 dL_law_2018 dL_law_2019 dL_law_2020 ?_
  refine aw_word (pc := 2021) X S hi 3 (by decide) rfl dL_law_2021 dL_law_2022 dL_law_2023 dL_law_2024 dL_law_2025 ?_
  refine aw_word (pc := 2026) X S hi 4 (by decide) rfl dL_law_2026 dL_law_2027 dL_law_2028 dL_law_2029 dL_law_2030 ?_
  refine aw_invV (pc := 2031) X (kX11_second sx_rg sx_rg sx_rg sx_rg e1) mw_yX11_second kw_1459 kw_1460 kw_1461 g1 rfl (by decide) rfl ⟨(Nat.le_of_ble_eq_true rfl), (Nat.le_of_ble_eq_true rfl)⟩ rfl (Nat.le_of_ble_eq_true rfl) (lw_rm ⟨by omega, by omega⟩) dL_law_2031 ?_
  refine aw_ret1 (k' := k + 0) (n' := n + 0) rfl rfl ?_
  refine aw_aload_n (pc := 2034) X dL_law_2034 3 rfl ?_
  refine aw_word (pc := 2035) X S hi 1 (by decide) rfl dL_law_2035 dL_law_2036 dL_law_2037 dL_law_2038 dL_law_2039 ?_
  refine aw_word (pc := 2040) X S hi 2 (by decide) rfl dL_law_2040 dL_law_2041 dL_law_2042 dL_law_2043 dL_law_2044 ?_
  refine aw_word (pc := 2045) X S hi 3 (by decide) rfl dL_law_2045 dL_law_2046 dL_law_2047 dL_law_2048 dL_law_2049 ?_
  refine aw_word (pc := 2050) X S hi 4 (by decide) rfl dL_law_2050 dL_law_2051 dL_law_2052 dL_law_2053 dL_law_2054 ?_
  refine aw_invV (pc := 2055) X (kX12_second sx_rg sx_rg sx_rg sx_rg e2) mw_yX12_second kw_2233 kw_2234 kw_2235 g2 rfl (by decide) rfl ⟨(Nat.le_of_ble_eq_true rfl), (Nat.le_of_ble_eq_true rfl)⟩ rfl (Nat.le_of_ble_eq_true rfl) (lw_rm ⟨by omega, by omega⟩) dL_law_2055 ?_
  refine aw_ret1 (k' := k + 0 + 0) (n' := n + 0 + 0) rfl rfl ?_
  refine aw_icmp_eq (pc := 2058) (tgt := 2132) X (rg_01 (gX11_second sx_rg sx_rg sx_rg sx_rg e1)) (rg_01 (gX12_second sx_rg sx_rg sx_rg sx_rg e2)) dL_law_2058 (by decide) (fun _ => ?_) (fun z => absurd rfl z)
  exact K _ _ _ I2 (by omega) (by omega)
set_option maxHeartbeats 1000000 in
set_option maxRecDepth 20000 in
theorem lwc_anyTwo {D : va_G} {cy : Nat → ClassId} {B : Nat} {p : Program} {l : Launch} {e : Env} {s : State} {m : MethodId} {b L X0 i : Nat} {xs : Nat → Int32} {below : List Frame} {meth : Method} {c : Code} {Q : State → Prop} (X : CXd D cy B p s m #[.ref b] c cL_law RL 4) (S : LSc s B b L xs) {h : Hp} {k n : Nat} (hi : i + 6 ≤ L) (hkn : k + 31 ≤ 600000 ∧ n + 292 ≤ 7302250) (I : Inv h X0) (K : ∀ (h' : Hp) (k' n' : Nat), Inv h' X0 → k' ≤ k + 31 → n' ≤ n + 292 → AWd D cy B p l e room_1 s m #[.ref b] below meth c 4 Q h' k' n' 2132 (LVs b X0 i) []) : AWd D cy B p l e room_1 s m #[.ref b] below meth c 4 Q h k n 2063 (LVs b X0 i) [] := by
  obtain ⟨c9, J, -, -, -⟩ := id I
  have g1 : (hK h X0).1 = 11 := J.x.k
  obtain ⟨v, h1, h2, e1, e2, I2⟩ := ok3 I J (ok_anyTwo (a := sx xs i 1) (b := sx xs i 2) (d := sx xs i 3) J.x J.m)
  have e1 : fX11_anyTwo h X0 (sx xs i 1) (sx xs i 2) (sx xs i 3) = some (v, h1) := e1
  have e2 : fX12_anyTwo h1 (X0 + 121) (sx xs i 1) (sx xs i 2) (sx xs i 3) = some (v, h2) := e2
  have g2 : (hK h1 (X0 + 121)).1 = 12 := by
    have z := e2
    rw [fX12_anyTwo.eq_1] at z
    exact (gd_some z).1
  refine aw_aload_n (pc := 2063) X dL_law_2063 2 rfl ?_
  refine aw_word (pc := 2064) X S hi 1 (by decide) rfl dL_law_2064 dL_law_2065 dL_law_2066 dL_law_2067 dL_law_2068 ?_
  refine aw_word (pc := 2069) X S hi 2 (by decide) rfl dL_law_2069 dL_law_2070 dL_law_2071 dL_law_2072 dL_law_2073 ?_
  refine aw_word (pc := 2074) X S hi 3 (by decide) rfl dL_law_2074 dL_law_2075 dL_law_2076 dL_law_2077 dL_law_2078 ?_
  refine aw_invV (pc := 2079) X (kX11_anyTwo sx_rg sx_rg sx_rg e1) mw_yX11_anyTwo kw_1466 kw_1467 kw_1468 g1 rfl (by decide) rfl ⟨(Nat.le_of_ble_eq_true rfl), (Nat.le_of_ble_eq_true rfl)⟩ rfl (Nat.le_of_ble_eq_true rfl) (lw_rm ⟨by omega, by omega⟩) dL_law_2079 ?_
  refine aw_ret1 (k' := k + 0) (n' := n + 0) rfl rfl ?_
  refine aw_aload_n (pc := 2082) X dL_law_2082 3 rfl ?_
  refine aw_word (pc := 2083) X S hi 1 (by decide) rfl dL_law_2083 dL_law_2084 dL_law_2085 dL_law_2086 dL_law_2087 ?_
  refine aw_word (pc := 2088) X S hi 2 (by decide) rfl dL_law_2088 dL_law_2089 dL_law_2090 dL_law_2091 dL_law_2092 ?_
  refine aw_word (pc := 2093) X S hi 3 (by decide) rfl dL_law_2093 dL_law_2094 dL_law_2095 dL_law_2096 dL_law_2097 ?_
  refine aw_invV (pc := 2098) X (kX12_anyTwo sx_rg sx_rg sx_rg e2) mw_yX12_anyTwo kw_2237 kw_2238 kw_2239 g2 rfl (by decide) rfl ⟨(Nat.le_of_ble_eq_true rfl), (Nat.le_of_ble_eq_true rfl)⟩ rfl (Nat.le_of_ble_eq_true rfl) (lw_rm ⟨by omega, by omega⟩) dL_law_2098 ?_
  refine aw_ret1 (k' := k + 0 + 0) (n' := n + 0 + 0) rfl rfl ?_
  refine aw_icmp_eq (pc := 2101) (tgt := 2132) X (gX11_anyTwo sx_rg sx_rg sx_rg e1) (gX12_anyTwo sx_rg sx_rg sx_rg e2) dL_law_2101 (by decide) (fun _ => ?_) (fun z => absurd rfl z)
  exact K _ _ _ I2 (by omega) (by omega)
set_option maxHeartbeats 1000000 in
set_option maxRecDepth 20000 in
theorem lwc_mark {D : va_G} {cy : Nat → ClassId} {B : Nat} {p : Program} {l : Launch} {e : Env} {s : State} {m : MethodId} {b L X0 i : Nat} {xs : Nat → Int32} {below : List Frame} {meth : Method} {c : Code} {Q : State → Prop} (X : CXd D cy B p s m #[.ref b] c cL_law RL 4) (S : LSc s B b L xs) {h : Hp} {k n : Nat} (hi : i + 6 ≤ L) (hkn : k + 31 ≤ 600000 ∧ n + 292 ≤ 7302250) (I : Inv h X0) (K : ∀ (h' : Hp) (k' n' : Nat), Inv h' X0 → k' ≤ k + 31 → n' ≤ n + 292 → AWd D cy B p l e room_1 s m #[.ref b] below meth c 4 Q h' k' n' 2132 (LVs b X0 i) []) : AWd D cy B p l e room_1 s m #[.ref b] below meth c 4 Q h k n 2106 (LVs b X0 i) [] := by
  obtain ⟨c9, J, -, -, -⟩ := id I
  have g1 : (hK h X0).1 = 11 := J.x.k
  obtain ⟨v, h1, h2, e1, e2, I2⟩ := ok_mark I
  have e1 : fX11_mark h X0 = some (v, h1) := e1
  have e2 : fX12_mark h1 (X0 + 121) = some (v, h2) := e2
  have g2 : (hK h1 (X0 + 121)).1 = 12 := by
    have z := e2
    rw [fX12_mark.eq_1] at z
    exact (gd_some z).1
  refine aw_aload_n (pc := 2106) X dL_law_2106 2 rfl ?_
  refine aw_invV (pc := 2107) X (kX11_mark e1) mw_yX11_mark kw_1473 kw_1474 kw_1475 g1 rfl (by decide) rfl ⟨(Nat.le_of_ble_eq_true rfl), (Nat.le_of_ble_eq_true rfl)⟩ rfl (Nat.le_of_ble_eq_true rfl) (lw_rm ⟨by omega, by omega⟩) dL_law_2107 ?_
  refine aw_ret1 (k' := k + 0) (n' := n + 0) rfl rfl ?_
  refine aw_aload_n (pc := 2110) X dL_law_2110 3 rfl ?_
  refine aw_invV (pc := 2111) X (kX12_mark e2) mw_yX12_mark kw_2241 kw_2242 kw_2243 g2 rfl (by decide) rfl ⟨(Nat.le_of_ble_eq_true rfl), (Nat.le_of_ble_eq_true rfl)⟩ rfl (Nat.le_of_ble_eq_true rfl) (lw_rm ⟨by omega, by omega⟩) dL_law_2111 ?_
  refine aw_ret1 (k' := k + 0 + 0) (n' := n + 0 + 0) rfl rfl ?_
  refine aw_icmp_eq (pc := 2114) (tgt := 2132) X (gX11_mark e1) (gX12_mark e2) dL_law_2114 (by decide) (fun _ => ?_) (fun z => absurd rfl z)
  exact K _ _ _ I2 (by omega) (by omega)
set_option maxHeartbeats 1000000 in
set_option maxRecDepth 20000 in
theorem lwc_back {D : va_G} {cy : Nat → ClassId} {B : Nat} {p : Program} {l : Launch} {e : Env} {s : State} {m : MethodId} {b L X0 i : Nat} {xs : Nat → Int32} {below : List Frame} {meth : Method} {c : Code} {Q : State → Prop} (X : CXd D cy B p s m #[.ref b] c cL_law RL 4) (S : LSc s B b L xs) {h : Hp} {k n : Nat} (hi : i + 6 ≤ L) (hkn : k + 31 ≤ 600000 ∧ n + 292 ≤ 7302250) (I : Inv h X0) (K : ∀ (h' : Hp) (k' n' : Nat), Inv h' X0 → k' ≤ k + 31 → n' ≤ n + 292 → AWd D cy B p l e room_1 s m #[.ref b] below meth c 4 Q h' k' n' 2132 (LVs b X0 i) []) : AWd D cy B p l e room_1 s m #[.ref b] below meth c 4 Q h k n 2119 (LVs b X0 i) [] := by
  obtain ⟨c9, J, -, -, -⟩ := id I
  have g1 : (hK h X0).1 = 11 := J.x.k
  obtain ⟨v, h1, h2, e1, e2, I2⟩ := ok_back I
  have e1 : fX11_back h X0 = some (v, h1) := e1
  have e2 : fX12_back h1 (X0 + 121) = some (v, h2) := e2
  have g2 : (hK h1 (X0 + 121)).1 = 12 := by
    have z := e2
    rw [fX12_back.eq_1] at z
    exact (gd_some z).1
  refine aw_aload_n (pc := 2119) X dL_law_2119 2 rfl ?_
  refine aw_invV (pc := 2120) X (kX11_back e1) mw_yX11_back kw_1477 kw_1478 kw_1479 g1 rfl (by decide) rfl ⟨(Nat.le_of_ble_eq_true rfl), (Nat.le_of_ble_eq_true rfl)⟩ rfl (Nat.le_of_ble_eq_true rfl) (lw_rm ⟨by omega, by omega⟩) dL_law_2120 ?_
  refine aw_ret1 (k' := k + 0) (n' := n + 0) rfl rfl ?_
  refine aw_aload_n (pc := 2123) X dL_law_2123 3 rfl ?_
  refine aw_invV (pc := 2124) X (kX12_back e2) mw_yX12_back kw_2249 kw_2250 kw_2251 g2 rfl (by decide) rfl ⟨(Nat.le_of_ble_eq_true rfl), (Nat.le_of_ble_eq_true rfl)⟩ rfl (Nat.le_of_ble_eq_true rfl) (lw_rm ⟨by omega, by omega⟩) dL_law_2124 ?_
  refine aw_ret1 (k' := k + 0 + 0) (n' := n + 0 + 0) rfl rfl ?_
  refine aw_icmp_eq (pc := 2127) (tgt := 2132) X (gX11_back e1) (gX12_back e2) dL_law_2127 (by decide) (fun _ => ?_) (fun z => absurd rfl z)
  exact K _ _ _ I2 (by omega) (by omega)
