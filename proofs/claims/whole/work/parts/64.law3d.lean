set_option maxHeartbeats 4000000 in
set_option maxRecDepth 100000 in
theorem lc_24 {Y : gEnv} {X : gCtx} {b : Nat} {i : Int} {x s h hq sc sg ar xm w sv tx ag out : Nat} {k n : Nat} {Ln : Nat} {xs : Nat → Int32} {K N : Nat → Nat} {I : Nat → Nat → Int} {A : Nat → Int → Int} {R : Nat → Nat → Option Nat} {Q : Nat → Int → Option Nat} (hsc : lScr X Y b Ln xs) (hi : 0 ≤ i ∧ i + 6 ≤ Ln) (hL : lInv x s h hq sc sg ar xm w sv tx ag out K N I A R Q) (hk : k + 400 ≤ 668115) (hn : n + 2000 ≤ 7091759) (kk : ∀ (K' N' : Nat → Nat) (I' : Nat → Nat → Int) (A' : Nat → Int → Int) (R' : Nat → Nat → Option Nat) (Q' : Nat → Int → Option Nat), lInv x s h hq sc sg ar xm w sv tx ag out K' N' I' A' R' Q' → gJ Y X yL_law cL_law 8 (some .boolean) room_1 lPo gno (k + 400) (n + 2000) 2133 [(4, vi i), (0, .ref b), (1, .ref x), (2, .ref xm), (3, .ref out)] [] K' N' I' A' R' Q') : gJ Y X yL_law cL_law 8 (some .boolean) room_1 lPo gno k n 1847 [(4, vi i), (0, .ref b), (1, .ref x), (2, .ref xm), (3, .ref out)] [] K N I A R Q := by
  obtain ⟨⟨G, hI⟩, hM, ⟨o1, o2, o3, o4, o5⟩, hO⟩ := id hL
  obtain ⟨hz, hmt, hhs, hTr, hlen⟩ := id hO
  obtain ⟨hN, hn6⟩ := hI.hN
  have hne := hM.ne
  refine g_aload_n dL_law_1847 rfl rfl ?_
  refine g_aload_n dL_law_1848 rfl rfl ?_
  refine g_iload dL_law_1849 rfl ?_
  refine g_iconst dL_law_1851 ?_
  refine g_iadd dL_law_1852 ?_
  refine g_sld hsc (by omega) dL_law_1853 ?_
  refine g_aload_n dL_law_1854 rfl rfl ?_
  refine g_iload dL_law_1855 rfl ?_
  refine g_iconst dL_law_1857 ?_
  refine g_iadd dL_law_1858 ?_
  refine g_sld hsc (by omega) dL_law_1859 ?_
  refine g_aload_n dL_law_1860 rfl rfl ?_
  refine g_iload dL_law_1861 rfl ?_
  refine g_iconst dL_law_1863 ?_
  refine g_iadd dL_law_1864 ?_
  refine g_sld hsc (by omega) dL_law_1865 ?_
  refine g_aload_n dL_law_1866 rfl rfl ?_
  refine g_iload dL_law_1867 rfl ?_
  refine g_iconst dL_law_1869 ?_
  refine g_iadd dL_law_1870 ?_
  refine g_sld hsc (by omega) dL_law_1871 ?_
  refine g_aload_n dL_law_1872 rfl rfl ?_
  refine g_iload dL_law_1873 rfl ?_
  refine g_iconst dL_law_1875 ?_
  refine g_iadd dL_law_1876 ?_
  refine g_sld hsc (by omega) dL_law_1877 ?_
  refine g_aload_n dL_law_1878 rfl rfl ?_
  refine g_callH (k_L_possible Y hI ⟨Or.inr (Or.inr (Or.inr (Or.inr (Or.inr rfl)))), o1, o2⟩ (xsI xs (i + 1)) (xsI xs (i + 2)) (xsI xs (i + 3)) (xsI xs (i + 4)) (xsI xs (i + 5)) (cd2r _ _) (k_A_possible Y hI (xsI xs (i + 1)) (xsI_range xs (i + 1)) (xsI xs (i + 2)) (xsI_range xs (i + 2)) (xsI xs (i + 3)) (xsI_range xs (i + 3)) (xsI xs (i + 4)) (xsI_range xs (i + 4)) (xsI xs (i + 5)) (xsI_range xs (i + 5)))) u_L_possible mw_1076 dL_law_1879 rfl rfl ⟨Nat.le_of_ble_eq_true rfl, Nat.le_of_ble_eq_true rfl⟩ ⟨by show _ ≤ (668115 : Nat); dsimp only; omega, by show _ ≤ (7091759 : Nat); dsimp only; omega⟩ (Nat.le_of_ble_eq_true rfl) (fun v1 K1 N1 I1 A1 R1 Q1 h1 => ?_)
  have e1 := h1.1
  subst e1
  obtain ⟨m1, w1, w2, w3, w4, w5⟩ := lInv.mid hL h1
  refine g_istore dL_law_1882 (by decide) ?_
  refine g_aload_n dL_law_1884 rfl rfl ?_
  refine g_aload_n dL_law_1885 rfl rfl ?_
  refine g_iload dL_law_1886 rfl ?_
  refine g_iconst dL_law_1888 ?_
  refine g_iadd dL_law_1889 ?_
  refine g_sld hsc (by omega) dL_law_1890 ?_
  refine g_aload_n dL_law_1891 rfl rfl ?_
  refine g_iload dL_law_1892 rfl ?_
  refine g_iconst dL_law_1894 ?_
  refine g_iadd dL_law_1895 ?_
  refine g_sld hsc (by omega) dL_law_1896 ?_
  refine g_aload_n dL_law_1897 rfl rfl ?_
  refine g_iload dL_law_1898 rfl ?_
  refine g_iconst dL_law_1900 ?_
  refine g_iadd dL_law_1901 ?_
  refine g_sld hsc (by omega) dL_law_1902 ?_
  refine g_aload_n dL_law_1903 rfl rfl ?_
  refine g_iload dL_law_1904 rfl ?_
  refine g_iconst dL_law_1906 ?_
  refine g_iadd dL_law_1907 ?_
  refine g_sld hsc (by omega) dL_law_1908 ?_
  refine g_aload_n dL_law_1909 rfl rfl ?_
  refine g_iload dL_law_1910 rfl ?_
  refine g_iconst dL_law_1912 ?_
  refine g_iadd dL_law_1913 ?_
  refine g_sld hsc (by omega) dL_law_1914 ?_
  refine g_callVw (i := 10) rfl (gK0 m1.1) (g_at10 m1.1) (k_M_possible Y m1 (by rw [w1]; exact hN) (by rw [w1]; exact hmt) (xsI xs (i + 1)) (xsI xs (i + 2)) (xsI xs (i + 3)) (xsI xs (i + 4)) (xsI xs (i + 5)) (xsI_range xs (i + 1)) (xsI_range xs (i + 2)) (xsI_range xs (i + 3)) (xsI_range xs (i + 4)) (xsI_range xs (i + 5))) u_X13_possible mw_1445 dL_law_1915 rfl rfl ⟨Nat.le_of_ble_eq_true rfl, Nat.le_of_ble_eq_true rfl⟩ ⟨by show _ ≤ (668115 : Nat); dsimp only; omega, by show _ ≤ (7091759 : Nat); dsimp only; omega⟩ (Nat.le_of_ble_eq_true rfl) (fun v2 I2 A2 h2 => ?_)
  rw [w1] at h2
  obtain ⟨r1, r2⟩ := mRdP.res h2 w1 w2 w3 w4 w5
  subst r2
  obtain ⟨hL2, hout, h206⟩ := lInv.fin hL h1 r1 (fun _ => hO)
  exact g_locs (by exact ⟨rfl, rfl, rfl, rfl, rfl, rfl, trivial⟩) (lt_int (pc := 1918) dL_law_1918 dL_law_1920 dL_law_1921 dL_law_1924 dL_law_1926 dL_law_1931 dL_law_1933 dL_law_1936 dL_law_1937 dL_law_1938 dL_law_1939 dL_law_1941 dL_law_1942 dL_law_1943 dL_law_1948 (by decide) ⟨((cd2r _ _)).1, Int.le_trans ((cd2r _ _)).2 (by decide)⟩ hL2 hout h206 (by dsimp only; omega) (by omega) (by dsimp only; omega) (by omega) (kk _ _ _ _ _ _ hL2))
set_option maxHeartbeats 4000000 in
set_option maxRecDepth 100000 in
theorem lc_25 {Y : gEnv} {X : gCtx} {b : Nat} {i : Int} {x s h hq sc sg ar xm w sv tx ag out : Nat} {k n : Nat} {Ln : Nat} {xs : Nat → Int32} {K N : Nat → Nat} {I : Nat → Nat → Int} {A : Nat → Int → Int} {R : Nat → Nat → Option Nat} {Q : Nat → Int → Option Nat} (hsc : lScr X Y b Ln xs) (hi : 0 ≤ i ∧ i + 6 ≤ Ln) (hL : lInv x s h hq sc sg ar xm w sv tx ag out K N I A R Q) (hk : k + 400 ≤ 668115) (hn : n + 2000 ≤ 7091759) (kk : ∀ (K' N' : Nat → Nat) (I' : Nat → Nat → Int) (A' : Nat → Int → Int) (R' : Nat → Nat → Option Nat) (Q' : Nat → Int → Option Nat), lInv x s h hq sc sg ar xm w sv tx ag out K' N' I' A' R' Q' → gJ Y X yL_law cL_law 8 (some .boolean) room_1 lPo gno (k + 400) (n + 2000) 2133 [(4, vi i), (0, .ref b), (1, .ref x), (2, .ref xm), (3, .ref out)] [] K' N' I' A' R' Q') : gJ Y X yL_law cL_law 8 (some .boolean) room_1 lPo gno k n 1951 [(4, vi i), (0, .ref b), (1, .ref x), (2, .ref xm), (3, .ref out)] [] K N I A R Q := by
  obtain ⟨⟨G, hI⟩, hM, ⟨o1, o2, o3, o4, o5⟩, hO⟩ := id hL
  obtain ⟨hz, hmt, hhs, hTr, hlen⟩ := id hO
  obtain ⟨hN, hn6⟩ := hI.hN
  have hne := hM.ne
  refine g_aload_n dL_law_1951 rfl rfl ?_
  refine g_aload_n dL_law_1952 rfl rfl ?_
  refine g_iload dL_law_1953 rfl ?_
  refine g_iconst dL_law_1955 ?_
  refine g_iadd dL_law_1956 ?_
  refine g_sld hsc (by omega) dL_law_1957 ?_
  refine g_aload_n dL_law_1958 rfl rfl ?_
  refine g_callH (k_L_wouldHide Y hI ⟨Or.inr (Or.inr (Or.inr (Or.inr (Or.inr rfl)))), o1, o2⟩ (xsI xs (i + 1)) (cd1r _) (k_A_wouldHide Y hI (xsI xs (i + 1)) (xsI_range xs (i + 1)))) u_L_wouldHide mw_1088 dL_law_1959 rfl rfl ⟨Nat.le_of_ble_eq_true rfl, Nat.le_of_ble_eq_true rfl⟩ ⟨by show _ ≤ (668115 : Nat); dsimp only; omega, by show _ ≤ (7091759 : Nat); dsimp only; omega⟩ (Nat.le_of_ble_eq_true rfl) (fun v1 K1 N1 I1 A1 R1 Q1 h1 => ?_)
  have e1 := h1.1
  subst e1
  obtain ⟨m1, w1, w2, w3, w4, w5⟩ := lInv.mid hL h1
  refine g_istore dL_law_1962 (by decide) ?_
  refine g_aload_n dL_law_1964 rfl rfl ?_
  refine g_aload_n dL_law_1965 rfl rfl ?_
  refine g_iload dL_law_1966 rfl ?_
  refine g_iconst dL_law_1968 ?_
  refine g_iadd dL_law_1969 ?_
  refine g_sld hsc (by omega) dL_law_1970 ?_
  refine g_callVw (i := 10) rfl (gK0 m1.1) (g_at10 m1.1) (k_M_wouldHide Y m1 (by rw [w1]; exact hN) (by rw [w1]; exact hmt) (xsI xs (i + 1)) (xsI_range xs (i + 1))) u_X13_wouldHide mw_1461 dL_law_1971 rfl rfl ⟨Nat.le_of_ble_eq_true rfl, Nat.le_of_ble_eq_true rfl⟩ ⟨by show _ ≤ (668115 : Nat); dsimp only; omega, by show _ ≤ (7091759 : Nat); dsimp only; omega⟩ (Nat.le_of_ble_eq_true rfl) (fun v2 I2 A2 h2 => ?_)
  rw [w1] at h2
  obtain ⟨r1, r2⟩ := mRdP.res h2 w1 w2 w3 w4 w5
  subst r2
  obtain ⟨hL2, hout, h206⟩ := lInv.fin hL h1 r1 (fun _ => hO)
  exact g_locs (by exact ⟨rfl, rfl, rfl, rfl, rfl, rfl, trivial⟩) (lt_int (pc := 1974) dL_law_1974 dL_law_1976 dL_law_1977 dL_law_1980 dL_law_1982 dL_law_1987 dL_law_1989 dL_law_1992 dL_law_1993 dL_law_1994 dL_law_1995 dL_law_1997 dL_law_1998 dL_law_1999 dL_law_2004 (by decide) ⟨((cd1r _)).1, Int.le_trans ((cd1r _)).2 (by decide)⟩ hL2 hout h206 (by dsimp only; omega) (by omega) (by dsimp only; omega) (by omega) (kk _ _ _ _ _ _ hL2))
set_option maxHeartbeats 4000000 in
set_option maxRecDepth 100000 in
theorem lc_26 {Y : gEnv} {X : gCtx} {b : Nat} {i : Int} {x s h hq sc sg ar xm w sv tx ag out : Nat} {k n : Nat} {Ln : Nat} {xs : Nat → Int32} {K N : Nat → Nat} {I : Nat → Nat → Int} {A : Nat → Int → Int} {R : Nat → Nat → Option Nat} {Q : Nat → Int → Option Nat} (hsc : lScr X Y b Ln xs) (hi : 0 ≤ i ∧ i + 6 ≤ Ln) (hL : lInv x s h hq sc sg ar xm w sv tx ag out K N I A R Q) (hk : k + 400 ≤ 668115) (hn : n + 2000 ≤ 7091759) (kk : ∀ (K' N' : Nat → Nat) (I' : Nat → Nat → Int) (A' : Nat → Int → Int) (R' : Nat → Nat → Option Nat) (Q' : Nat → Int → Option Nat), lInv x s h hq sc sg ar xm w sv tx ag out K' N' I' A' R' Q' → gJ Y X yL_law cL_law 8 (some .boolean) room_1 lPo gno (k + 400) (n + 2000) 2133 [(4, vi i), (0, .ref b), (1, .ref x), (2, .ref xm), (3, .ref out)] [] K' N' I' A' R' Q') : gJ Y X yL_law cL_law 8 (some .boolean) room_1 lPo gno k n 2007 [(4, vi i), (0, .ref b), (1, .ref x), (2, .ref xm), (3, .ref out)] [] K N I A R Q := by
  obtain ⟨⟨G, hI⟩, hM, ⟨o1, o2, o3, o4, o5⟩, hO⟩ := id hL
  obtain ⟨hz, hmt, hhs, hTr, hlen⟩ := id hO
  obtain ⟨hN, hn6⟩ := hI.hN
  have hne := hM.ne
  refine g_aload_n dL_law_2007 rfl rfl ?_
  refine g_aload_n dL_law_2008 rfl rfl ?_
  refine g_iload dL_law_2009 rfl ?_
  refine g_iconst dL_law_2011 ?_
  refine g_iadd dL_law_2012 ?_
  refine g_sld hsc (by omega) dL_law_2013 ?_
  refine g_aload_n dL_law_2014 rfl rfl ?_
  refine g_callH (k_L_append Y hI ⟨Or.inr (Or.inr (Or.inr (Or.inr (Or.inr rfl)))), o1, o2⟩ (xsI xs (i + 1)) (cd2p _ _) (k_A_append Y hI (xsI xs (i + 1)) (xsI_range xs (i + 1)) hlen)) u_L_append mw_1099 dL_law_2015 rfl rfl ⟨Nat.le_of_ble_eq_true rfl, Nat.le_of_ble_eq_true rfl⟩ ⟨by show _ ≤ (668115 : Nat); dsimp only; omega, by show _ ≤ (7091759 : Nat); dsimp only; omega⟩ (Nat.le_of_ble_eq_true rfl) (fun v1 K1 N1 I1 A1 R1 Q1 h1 => ?_)
  have e1 := h1.1
  subst e1
  obtain ⟨m1, w1, w2, w3, w4, w5⟩ := lInv.mid hL h1
  refine g_istore dL_law_2018 (by decide) ?_
  refine g_aload_n dL_law_2020 rfl rfl ?_
  refine g_aload_n dL_law_2021 rfl rfl ?_
  refine g_iload dL_law_2022 rfl ?_
  refine g_iconst dL_law_2024 ?_
  refine g_iadd dL_law_2025 ?_
  refine g_sld hsc (by omega) dL_law_2026 ?_
  refine g_callVw (i := 10) rfl (gK0 m1.1) (g_at10 m1.1) (k_M_append Y m1 (by rw [w5]; exact hlen) (xsI xs (i + 1)) (xsI_range xs (i + 1))) u_X13_append mw_1465 dL_law_2027 rfl rfl ⟨Nat.le_of_ble_eq_true rfl, Nat.le_of_ble_eq_true rfl⟩ ⟨by show _ ≤ (668115 : Nat); dsimp only; omega, by show _ ≤ (7091759 : Nat); dsimp only; omega⟩ (Nat.le_of_ble_eq_true rfl) (fun v2 I2 A2 h2 => ?_)
  skip
  obtain ⟨r1, r2⟩ := append_res hne.1 hne.2.1 h2 w1 w2 w3 w4 w5
  subst r2
  obtain ⟨hL2, hout, h206⟩ := lInv.fin hL h1 r1 (fun hc => hO.app (by
      by_cases z : 32 ≤ (xsI xs (i + 1)) ∧ (xsI xs (i + 1)) ≤ 126
      · exact z
      · rw [if_pos z] at hc; cases hc) (fun z => by
      by_cases z1 : 32 ≤ (xsI xs (i + 1)) ∧ (xsI xs (i + 1)) ≤ 126
      · rw [if_neg (fun q => q z1), if_pos z] at hc; cases hc
      · rw [if_pos z1] at hc; cases hc))
  exact g_locs (by exact ⟨rfl, rfl, rfl, rfl, rfl, rfl, trivial⟩) (lt_int (pc := 2030) dL_law_2030 dL_law_2032 dL_law_2033 dL_law_2036 dL_law_2038 dL_law_2043 dL_law_2045 dL_law_2048 dL_law_2049 dL_law_2050 dL_law_2051 dL_law_2053 dL_law_2054 dL_law_2055 dL_law_2060 (by decide) ⟨((cd2p _ _)).1, Int.le_trans ((cd2p _ _)).2 (by decide)⟩ hL2 hout h206 (by dsimp only; omega) (by omega) (by dsimp only; omega) (by omega) (kk _ _ _ _ _ _ hL2))
set_option maxHeartbeats 4000000 in
set_option maxRecDepth 100000 in
theorem lc_27 {Y : gEnv} {X : gCtx} {b : Nat} {i : Int} {x s h hq sc sg ar xm w sv tx ag out : Nat} {k n : Nat} {Ln : Nat} {xs : Nat → Int32} {K N : Nat → Nat} {I : Nat → Nat → Int} {A : Nat → Int → Int} {R : Nat → Nat → Option Nat} {Q : Nat → Int → Option Nat} (hsc : lScr X Y b Ln xs) (hi : 0 ≤ i ∧ i + 6 ≤ Ln) (hL : lInv x s h hq sc sg ar xm w sv tx ag out K N I A R Q) (hk : k + 400 ≤ 668115) (hn : n + 2000 ≤ 7091759) (kk : ∀ (K' N' : Nat → Nat) (I' : Nat → Nat → Int) (A' : Nat → Int → Int) (R' : Nat → Nat → Option Nat) (Q' : Nat → Int → Option Nat), lInv x s h hq sc sg ar xm w sv tx ag out K' N' I' A' R' Q' → gJ Y X yL_law cL_law 8 (some .boolean) room_1 lPo gno (k + 400) (n + 2000) 2133 [(4, vi i), (0, .ref b), (1, .ref x), (2, .ref xm), (3, .ref out)] [] K' N' I' A' R' Q') : gJ Y X yL_law cL_law 8 (some .boolean) room_1 lPo gno k n 2063 [(4, vi i), (0, .ref b), (1, .ref x), (2, .ref xm), (3, .ref out)] [] K N I A R Q := by
  obtain ⟨⟨G, hI⟩, hM, ⟨o1, o2, o3, o4, o5⟩, hO⟩ := id hL
  obtain ⟨hz, hmt, hhs, hTr, hlen⟩ := id hO
  obtain ⟨hN, hn6⟩ := hI.hN
  have hne := hM.ne
  refine g_aload_n dL_law_2063 rfl rfl ?_
  refine g_callV0 (i := 9) rfl (gK0 hI.1.1) (g_at9 hI.1.1) (k_A_clear Y hI) u_X12_clear mw_410 dL_law_2064 rfl rfl ⟨Nat.le_of_ble_eq_true rfl, Nat.le_of_ble_eq_true rfl⟩ ⟨by show _ ≤ (668115 : Nat); dsimp only; omega, by show _ ≤ (7091759 : Nat); dsimp only; omega⟩ (Nat.le_of_ble_eq_true rfl) (fun E K9 N9 I9 A9 R9 Q9 hp => hp.1 rfl) (fun v1 K1 N1 I1 A1 R1 Q1 hp => ?_)
  have e1 := hp.2.1
  subst e1
  have h1 := lwP.of0 (G := G) (out := out) (W := A w) (n := I 204 xm) (SV := A sv) (T := A tx) (len := I 205 xm) (Or.inr (Or.inr (Or.inr (Or.inr (Or.inr rfl))))) hp
  obtain ⟨m1, w1, w2, w3, w4, w5⟩ := lInv.mid hL h1
  refine g_aload_n dL_law_2067 rfl rfl ?_
  refine g_callVw (i := 10) rfl (gK0 m1.1) (g_at10 m1.1) (k_M_clear Y m1) u_X13_clear mw_1471 dL_law_2068 rfl rfl ⟨Nat.le_of_ble_eq_true rfl, Nat.le_of_ble_eq_true rfl⟩ ⟨by show _ ≤ (668115 : Nat); dsimp only; omega, by show _ ≤ (7091759 : Nat); dsimp only; omega⟩ (Nat.le_of_ble_eq_true rfl) (fun v2 I2 A2 h2 => ?_)
  skip
  obtain ⟨r1, r2⟩ := clear_res h2 w1 w2 w3 w4 w5
  subst r2
  obtain ⟨hL2, hout, h206⟩ := lInv.fin hL h1 r1 (fun _ => hO.clr)
  refine g_icmp_eqr (tgt := 2133) dL_law_2071 (by decide) ?_
  exact g_widen (by dsimp only; omega) (by dsimp only; omega) (kk _ _ _ _ _ _ hL2)
set_option maxHeartbeats 4000000 in
set_option maxRecDepth 100000 in
theorem lc_28 {Y : gEnv} {X : gCtx} {b : Nat} {i : Int} {x s h hq sc sg ar xm w sv tx ag out : Nat} {k n : Nat} {Ln : Nat} {xs : Nat → Int32} {K N : Nat → Nat} {I : Nat → Nat → Int} {A : Nat → Int → Int} {R : Nat → Nat → Option Nat} {Q : Nat → Int → Option Nat} (hsc : lScr X Y b Ln xs) (hi : 0 ≤ i ∧ i + 6 ≤ Ln) (hL : lInv x s h hq sc sg ar xm w sv tx ag out K N I A R Q) (hk : k + 400 ≤ 668115) (hn : n + 2000 ≤ 7091759) (kk : ∀ (K' N' : Nat → Nat) (I' : Nat → Nat → Int) (A' : Nat → Int → Int) (R' : Nat → Nat → Option Nat) (Q' : Nat → Int → Option Nat), lInv x s h hq sc sg ar xm w sv tx ag out K' N' I' A' R' Q' → gJ Y X yL_law cL_law 8 (some .boolean) room_1 lPo gno (k + 400) (n + 2000) 2133 [(4, vi i), (0, .ref b), (1, .ref x), (2, .ref xm), (3, .ref out)] [] K' N' I' A' R' Q') : gJ Y X yL_law cL_law 8 (some .boolean) room_1 lPo gno k n 2076 [(4, vi i), (0, .ref b), (1, .ref x), (2, .ref xm), (3, .ref out)] [] K N I A R Q := by
  obtain ⟨⟨G, hI⟩, hM, ⟨o1, o2, o3, o4, o5⟩, hO⟩ := id hL
  obtain ⟨hz, hmt, hhs, hTr, hlen⟩ := id hO
  obtain ⟨hN, hn6⟩ := hI.hN
  have hne := hM.ne
  refine g_aload_n dL_law_2076 rfl rfl ?_
  refine g_callV0 (i := 9) rfl (gK0 hI.1.1) (g_at9 hI.1.1) (k_A_firstError Y hI hlen hTr) u_X12_firstError mw_414 dL_law_2077 rfl rfl ⟨Nat.le_of_ble_eq_true rfl, Nat.le_of_ble_eq_true rfl⟩ ⟨by show _ ≤ (668115 : Nat); dsimp only; omega, by show _ ≤ (7091759 : Nat); dsimp only; omega⟩ (Nat.le_of_ble_eq_true rfl) (fun E K9 N9 I9 A9 R9 Q9 hp => hp.1 rfl) (fun v1 K1 N1 I1 A1 R1 Q1 hp => ?_)
  have e1 := hp.2.1
  subst e1
  have h1 := lwP.of0 (G := G) (out := out) (W := A w) (n := I 204 xm) (SV := A sv) (T := A tx) (len := I 205 xm) (Or.inr (Or.inr (Or.inr (Or.inr (Or.inr rfl))))) hp
  obtain ⟨m1, w1, w2, w3, w4, w5⟩ := lInv.mid hL h1
  refine g_aload_n dL_law_2080 rfl rfl ?_
  refine g_callVw (i := 10) rfl (gK0 m1.1) (g_at10 m1.1) (k_M_firstError Y m1 (fun j p q => by rw [w3]; exact hTr j p q) (by rw [w5]; exact hlen)) u_X13_firstError mw_1475 dL_law_2081 rfl rfl ⟨Nat.le_of_ble_eq_true rfl, Nat.le_of_ble_eq_true rfl⟩ ⟨by show _ ≤ (668115 : Nat); dsimp only; omega, by show _ ≤ (7091759 : Nat); dsimp only; omega⟩ (Nat.le_of_ble_eq_true rfl) (fun v2 I2 A2 h2 => ?_)
  rw [w3, w5] at h2
  obtain ⟨r1, r2⟩ := first_res hne.2.2.1 hne.2.2.2.1 hne.2.2.2.2 h2 w1 w2 w3 w4 w5
  subst r2
  obtain ⟨hL2, hout, h206⟩ := lInv.fin hL h1 r1 (fun _ => hO)
  refine g_icmp_eqr (tgt := 2133) dL_law_2084 (by decide) ?_
  exact g_widen (by dsimp only; omega) (by dsimp only; omega) (kk _ _ _ _ _ _ hL2)
set_option maxHeartbeats 4000000 in
set_option maxRecDepth 100000 in
theorem lc_29 {Y : gEnv} {X : gCtx} {b : Nat} {i : Int} {x s h hq sc sg ar xm w sv tx ag out : Nat} {k n : Nat} {Ln : Nat} {xs : Nat → Int32} {K N : Nat → Nat} {I : Nat → Nat → Int} {A : Nat → Int → Int} {R : Nat → Nat → Option Nat} {Q : Nat → Int → Option Nat} (hsc : lScr X Y b Ln xs) (hi : 0 ≤ i ∧ i + 6 ≤ Ln) (hL : lInv x s h hq sc sg ar xm w sv tx ag out K N I A R Q) (hk : k + 400 ≤ 668115) (hn : n + 2000 ≤ 7091759) (kk : ∀ (K' N' : Nat → Nat) (I' : Nat → Nat → Int) (A' : Nat → Int → Int) (R' : Nat → Nat → Option Nat) (Q' : Nat → Int → Option Nat), lInv x s h hq sc sg ar xm w sv tx ag out K' N' I' A' R' Q' → gJ Y X yL_law cL_law 8 (some .boolean) room_1 lPo gno (k + 400) (n + 2000) 2133 [(4, vi i), (0, .ref b), (1, .ref x), (2, .ref xm), (3, .ref out)] [] K' N' I' A' R' Q') : gJ Y X yL_law cL_law 8 (some .boolean) room_1 lPo gno k n 2089 [(4, vi i), (0, .ref b), (1, .ref x), (2, .ref xm), (3, .ref out)] [] K N I A R Q := by
  obtain ⟨⟨G, hI⟩, hM, ⟨o1, o2, o3, o4, o5⟩, hO⟩ := id hL
  obtain ⟨hz, hmt, hhs, hTr, hlen⟩ := id hO
  obtain ⟨hN, hn6⟩ := hI.hN
  have hne := hM.ne
  refine g_aload_n dL_law_2089 rfl rfl ?_
  refine g_aload_n dL_law_2090 rfl rfl ?_
  refine g_callH (k_L_execute Y hI ⟨Or.inr (Or.inr (Or.inr (Or.inr (Or.inr rfl)))), o1, o2⟩  (cd1q _) (k_A_execute Y hI hlen hTr hz hmt)) u_L_execute mw_1110 dL_law_2091 rfl rfl ⟨Nat.le_of_ble_eq_true rfl, Nat.le_of_ble_eq_true rfl⟩ ⟨by show _ ≤ (668115 : Nat); dsimp only; omega, by show _ ≤ (7091759 : Nat); dsimp only; omega⟩ (Nat.le_of_ble_eq_true rfl) (fun v1 K1 N1 I1 A1 R1 Q1 h1 => ?_)
  have e1 := h1.1
  subst e1
  obtain ⟨m1, w1, w2, w3, w4, w5⟩ := lInv.mid hL h1
  refine g_istore dL_law_2094 (by decide) ?_
  refine g_aload_n dL_law_2096 rfl rfl ?_
  refine g_callVw (i := 10) rfl (gK0 m1.1) (g_at10 m1.1) (k_M_execute Y m1 (fun j p q => by rw [w3]; exact hTr j p q) (by rw [w5]; exact hlen) (by rw [w4]; exact hn6) (by rw [w1]; exact hN) (by rw [w1]; exact hmt) (by rw [w1]; exact hz)) u_X13_execute mw_1505 dL_law_2097 rfl rfl ⟨Nat.le_of_ble_eq_true rfl, Nat.le_of_ble_eq_true rfl⟩ ⟨by show _ ≤ (668115 : Nat); dsimp only; omega, by show _ ≤ (7091759 : Nat); dsimp only; omega⟩ (Nat.le_of_ble_eq_true rfl) (fun v2 I2 A2 h2 => ?_)
  skip
  obtain ⟨r1, r2⟩ := exec_res o5 hne.1 hne.2.1 hne.2.2.1 hne.2.2.2.1 hne.2.2.2.2 h2 w1 w2 w3 w4 w5
  subst r2
  obtain ⟨hL2, hout, h206⟩ := lInv.fin hL h1 r1 (fun hc => (by
      have he : sErr (A tx) (I 205 xm) 101 0 0 = -1 := by
        by_cases z : sErr (A tx) (I 205 xm) 101 0 0 = -1
        · exact z
        · rw [if_neg z] at hc; cases hc
      have hk := lk_exe hlen 101 0 0 (A w) (Int.le_refl _) hN hz hmt (Int.le_refl _) he
      exact (hO.op hN hn6 hk.2.1 hk.2.2).clr))
  exact g_locs (by exact ⟨rfl, rfl, rfl, rfl, rfl, rfl, trivial⟩) (lt_int (pc := 2100) dL_law_2100 dL_law_2102 dL_law_2103 dL_law_2106 dL_law_2108 dL_law_2113 dL_law_2115 dL_law_2118 dL_law_2119 dL_law_2120 dL_law_2121 dL_law_2123 dL_law_2124 dL_law_2125 dL_law_2130 (by decide) ⟨((cd1q _)).1, Int.le_trans ((cd1q _)).2 (by decide)⟩ hL2 hout h206 (by dsimp only; omega) (by omega) (by dsimp only; omega) (by omega) (kk _ _ _ _ _ _ hL2))
