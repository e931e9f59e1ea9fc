set_option maxHeartbeats 4000000 in
set_option maxRecDepth 100000 in
theorem lc_8 {Y : gEnv} {X : gCtx} {b : Nat} {i : Int} {x s h hq sc sg ar xm w sv tx ag out : Nat} {k n : Nat} {Ln : Nat} {xs : Nat → Int32} {K N : Nat → Nat} {I : Nat → Nat → Int} {A : Nat → Int → Int} {R : Nat → Nat → Option Nat} {Q : Nat → Int → Option Nat} (hsc : lScr X Y b Ln xs) (hi : 0 ≤ i ∧ i + 6 ≤ Ln) (hL : lInv x s h hq sc sg ar xm w sv tx ag out K N I A R Q) (hk : k + 400 ≤ 668115) (hn : n + 2000 ≤ 7091759) (kk : ∀ (K' N' : Nat → Nat) (I' : Nat → Nat → Int) (A' : Nat → Int → Int) (R' : Nat → Nat → Option Nat) (Q' : Nat → Int → Option Nat), lInv x s h hq sc sg ar xm w sv tx ag out K' N' I' A' R' Q' → gJ Y X yL_law cL_law 8 (some .boolean) room_1 lPo gno (k + 400) (n + 2000) 2133 [(4, vi i), (0, .ref b), (1, .ref x), (2, .ref xm), (3, .ref out)] [] K' N' I' A' R' Q') : gJ Y X yL_law cL_law 8 (some .boolean) room_1 lPo gno k n 701 [(4, vi i), (0, .ref b), (1, .ref x), (2, .ref xm), (3, .ref out)] [] K N I A R Q := by
  obtain ⟨⟨G, hI⟩, hM, ⟨o1, o2, o3, o4, o5⟩, hO⟩ := id hL
  obtain ⟨hz, hmt, hhs, hTr, hlen⟩ := id hO
  obtain ⟨hN, hn6⟩ := hI.hN
  have hne := hM.ne
  refine g_aload_n dL_law_701 rfl rfl ?_
  refine g_aload_n dL_law_702 rfl rfl ?_
  refine g_iload dL_law_703 rfl ?_
  refine g_iconst dL_law_705 ?_
  refine g_iadd dL_law_706 ?_
  refine g_sld hsc (by omega) dL_law_707 ?_
  refine g_aload_n dL_law_708 rfl rfl ?_
  refine g_iload dL_law_709 rfl ?_
  refine g_iconst dL_law_711 ?_
  refine g_iadd dL_law_712 ?_
  refine g_sld hsc (by omega) dL_law_713 ?_
  refine g_aload_n dL_law_714 rfl rfl ?_
  refine g_iload dL_law_715 rfl ?_
  refine g_iconst dL_law_717 ?_
  refine g_iadd dL_law_718 ?_
  refine g_sld hsc (by omega) dL_law_719 ?_
  refine g_aload_n dL_law_720 rfl rfl ?_
  refine g_callH (k_L_deliver Y hI ⟨Or.inr (Or.inr (Or.inr (Or.inr (Or.inr rfl)))), o1, o2⟩ (xsI xs (i + 1)) (xsI xs (i + 2)) (xsI xs (i + 3)) (rg_deliver _ _ _ _) (k_A_deliver Y hI (xsI xs (i + 1)) (xsI_range xs (i + 1)) (xsI xs (i + 2)) (xsI_range xs (i + 2)) (xsI xs (i + 3)) (xsI_range xs (i + 3)) (fun hc => (lk_deliver hN hz hmt hc).1))) u_L_deliver mw_802 dL_law_721 rfl rfl ⟨Nat.le_of_ble_eq_true rfl, Nat.le_of_ble_eq_true rfl⟩ ⟨by show _ ≤ (668115 : Nat); dsimp only; omega, by show _ ≤ (7091759 : Nat); dsimp only; omega⟩ (Nat.le_of_ble_eq_true rfl) (fun v1 K1 N1 I1 A1 R1 Q1 h1 => ?_)
  have e1 := h1.1
  subst e1
  obtain ⟨m1, w1, w2, w3, w4, w5⟩ := lInv.mid hL h1
  refine g_istore dL_law_724 (by decide) ?_
  refine g_aload_n dL_law_726 rfl rfl ?_
  refine g_aload_n dL_law_727 rfl rfl ?_
  refine g_iload dL_law_728 rfl ?_
  refine g_iconst dL_law_730 ?_
  refine g_iadd dL_law_731 ?_
  refine g_sld hsc (by omega) dL_law_732 ?_
  refine g_aload_n dL_law_733 rfl rfl ?_
  refine g_iload dL_law_734 rfl ?_
  refine g_iconst dL_law_736 ?_
  refine g_iadd dL_law_737 ?_
  refine g_sld hsc (by omega) dL_law_738 ?_
  refine g_aload_n dL_law_739 rfl rfl ?_
  refine g_iload dL_law_740 rfl ?_
  refine g_iconst dL_law_742 ?_
  refine g_iadd dL_law_743 ?_
  refine g_sld hsc (by omega) dL_law_744 ?_
  refine g_callVw (i := 10) rfl (gK0 m1.1) (g_at10 m1.1) (k_M_deliver Y m1 (by rw [w1]; exact hN) (by rw [w1]; exact hmt) (by rw [w4]; exact hn6) (xsI xs (i + 1)) (xsI xs (i + 2)) (xsI xs (i + 3)) (xsI_range xs (i + 1)) (xsI_range xs (i + 2)) (xsI_range xs (i + 3))) u_X13_deliver mw_1312 dL_law_745 rfl rfl ⟨Nat.le_of_ble_eq_true rfl, Nat.le_of_ble_eq_true rfl⟩ ⟨by show _ ≤ (668115 : Nat); dsimp only; omega, by show _ ≤ (7091759 : Nat); dsimp only; omega⟩ (Nat.le_of_ble_eq_true rfl) (fun v2 I2 A2 h2 => ?_)
  rw [w1] at h2
  obtain ⟨r1, r2⟩ := mOpP.res o5 hne.1 hne.2.1 h2 w1 w2 w3 w4 w5
  subst r2
  obtain ⟨hL2, hout, h206⟩ := lInv.fin hL h1 r1 (fun hc => hO.op hN hn6 (lk_deliver hN hz hmt hc).2.1 (lk_deliver hN hz hmt hc).2.2)
  exact g_locs (by exact ⟨rfl, rfl, rfl, rfl, rfl, rfl, trivial⟩) (lt_int (pc := 748) dL_law_748 dL_law_750 dL_law_751 dL_law_754 dL_law_756 dL_law_761 dL_law_763 dL_law_766 dL_law_767 dL_law_768 dL_law_769 dL_law_771 dL_law_772 dL_law_773 dL_law_778 (by decide) ⟨((rg_deliver _ _ _ _)).1, Int.le_trans ((rg_deliver _ _ _ _)).2 (by decide)⟩ hL2 hout h206 (by dsimp only; omega) (by omega) (by dsimp only; omega) (by omega) (kk _ _ _ _ _ _ hL2))
set_option maxHeartbeats 4000000 in
set_option maxRecDepth 100000 in
theorem lc_9 {Y : gEnv} {X : gCtx} {b : Nat} {i : Int} {x s h hq sc sg ar xm w sv tx ag out : Nat} {k n : Nat} {Ln : Nat} {xs : Nat → Int32} {K N : Nat → Nat} {I : Nat → Nat → Int} {A : Nat → Int → Int} {R : Nat → Nat → Option Nat} {Q : Nat → Int → Option Nat} (hsc : lScr X Y b Ln xs) (hi : 0 ≤ i ∧ i + 6 ≤ Ln) (hL : lInv x s h hq sc sg ar xm w sv tx ag out K N I A R Q) (hk : k + 400 ≤ 668115) (hn : n + 2000 ≤ 7091759) (kk : ∀ (K' N' : Nat → Nat) (I' : Nat → Nat → Int) (A' : Nat → Int → Int) (R' : Nat → Nat → Option Nat) (Q' : Nat → Int → Option Nat), lInv x s h hq sc sg ar xm w sv tx ag out K' N' I' A' R' Q' → gJ Y X yL_law cL_law 8 (some .boolean) room_1 lPo gno (k + 400) (n + 2000) 2133 [(4, vi i), (0, .ref b), (1, .ref x), (2, .ref xm), (3, .ref out)] [] K' N' I' A' R' Q') : gJ Y X yL_law cL_law 8 (some .boolean) room_1 lPo gno k n 781 [(4, vi i), (0, .ref b), (1, .ref x), (2, .ref xm), (3, .ref out)] [] K N I A R Q := by
  obtain ⟨⟨G, hI⟩, hM, ⟨o1, o2, o3, o4, o5⟩, hO⟩ := id hL
  obtain ⟨hz, hmt, hhs, hTr, hlen⟩ := id hO
  obtain ⟨hN, hn6⟩ := hI.hN
  have hne := hM.ne
  refine g_aload_n dL_law_781 rfl rfl ?_
  refine g_aload_n dL_law_782 rfl rfl ?_
  refine g_iload dL_law_783 rfl ?_
  refine g_iconst dL_law_785 ?_
  refine g_iadd dL_law_786 ?_
  refine g_sld hsc (by omega) dL_law_787 ?_
  refine g_aload_n dL_law_788 rfl rfl ?_
  refine g_iload dL_law_789 rfl ?_
  refine g_iconst dL_law_791 ?_
  refine g_iadd dL_law_792 ?_
  refine g_sld hsc (by omega) dL_law_793 ?_
  refine g_aload_n dL_law_794 rfl rfl ?_
  refine g_iload dL_law_795 rfl ?_
  refine g_iconst dL_law_797 ?_
  refine g_iadd dL_law_798 ?_
  refine g_sld hsc (by omega) dL_law_799 ?_
  refine g_aload_n dL_law_800 rfl rfl ?_
  refine g_iload dL_law_801 rfl ?_
  refine g_iconst dL_law_803 ?_
  refine g_iadd dL_law_804 ?_
  refine g_sld hsc (by omega) dL_law_805 ?_
  refine g_aload_n dL_law_806 rfl rfl ?_
  refine g_callH (k_L_drop Y hI ⟨Or.inr (Or.inr (Or.inr (Or.inr (Or.inr rfl)))), o1, o2⟩ (xsI xs (i + 1)) (xsI xs (i + 2)) (xsI xs (i + 3)) (xsI xs (i + 4)) (rg_drop _ _ _ _ _) (k_A_drop Y hI (xsI xs (i + 1)) (xsI_range xs (i + 1)) (xsI xs (i + 2)) (xsI_range xs (i + 2)) (xsI xs (i + 3)) (xsI_range xs (i + 3)) (xsI xs (i + 4)) (xsI_range xs (i + 4)) (fun hc => (lk_drop hN hz hmt hc).1))) u_L_drop mw_848 dL_law_807 rfl rfl ⟨Nat.le_of_ble_eq_true rfl, Nat.le_of_ble_eq_true rfl⟩ ⟨by show _ ≤ (668115 : Nat); dsimp only; omega, by show _ ≤ (7091759 : Nat); dsimp only; omega⟩ (Nat.le_of_ble_eq_true rfl) (fun v1 K1 N1 I1 A1 R1 Q1 h1 => ?_)
  have e1 := h1.1
  subst e1
  obtain ⟨m1, w1, w2, w3, w4, w5⟩ := lInv.mid hL h1
  refine g_istore dL_law_810 (by decide) ?_
  refine g_aload_n dL_law_812 rfl rfl ?_
  refine g_aload_n dL_law_813 rfl rfl ?_
  refine g_iload dL_law_814 rfl ?_
  refine g_iconst dL_law_816 ?_
  refine g_iadd dL_law_817 ?_
  refine g_sld hsc (by omega) dL_law_818 ?_
  refine g_aload_n dL_law_819 rfl rfl ?_
  refine g_iload dL_law_820 rfl ?_
  refine g_iconst dL_law_822 ?_
  refine g_iadd dL_law_823 ?_
  refine g_sld hsc (by omega) dL_law_824 ?_
  refine g_aload_n dL_law_825 rfl rfl ?_
  refine g_iload dL_law_826 rfl ?_
  refine g_iconst dL_law_828 ?_
  refine g_iadd dL_law_829 ?_
  refine g_sld hsc (by omega) dL_law_830 ?_
  refine g_aload_n dL_law_831 rfl rfl ?_
  refine g_iload dL_law_832 rfl ?_
  refine g_iconst dL_law_834 ?_
  refine g_iadd dL_law_835 ?_
  refine g_sld hsc (by omega) dL_law_836 ?_
  refine g_callVw (i := 10) rfl (gK0 m1.1) (g_at10 m1.1) (k_M_drop Y m1 (by rw [w1]; exact hN) (by rw [w1]; exact hmt) (by rw [w4]; exact hn6) (xsI xs (i + 1)) (xsI xs (i + 2)) (xsI xs (i + 3)) (xsI xs (i + 4)) (xsI_range xs (i + 1)) (xsI_range xs (i + 2)) (xsI_range xs (i + 3)) (xsI_range xs (i + 4))) u_X13_drop mw_1347 dL_law_837 rfl rfl ⟨Nat.le_of_ble_eq_true rfl, Nat.le_of_ble_eq_true rfl⟩ ⟨by show _ ≤ (668115 : Nat); dsimp only; omega, by show _ ≤ (7091759 : Nat); dsimp only; omega⟩ (Nat.le_of_ble_eq_true rfl) (fun v2 I2 A2 h2 => ?_)
  rw [w1] at h2
  obtain ⟨r1, r2⟩ := mOpP.res o5 hne.1 hne.2.1 h2 w1 w2 w3 w4 w5
  subst r2
  obtain ⟨hL2, hout, h206⟩ := lInv.fin hL h1 r1 (fun hc => hO.op hN hn6 (lk_drop hN hz hmt hc).2.1 (lk_drop hN hz hmt hc).2.2)
  exact g_locs (by exact ⟨rfl, rfl, rfl, rfl, rfl, rfl, trivial⟩) (lt_int (pc := 840) dL_law_840 dL_law_842 dL_law_843 dL_law_846 dL_law_848 dL_law_853 dL_law_855 dL_law_858 dL_law_859 dL_law_860 dL_law_861 dL_law_863 dL_law_864 dL_law_865 dL_law_870 (by decide) ⟨((rg_drop _ _ _ _ _)).1, Int.le_trans ((rg_drop _ _ _ _ _)).2 (by decide)⟩ hL2 hout h206 (by dsimp only; omega) (by omega) (by dsimp only; omega) (by omega) (kk _ _ _ _ _ _ hL2))
set_option maxHeartbeats 4000000 in
set_option maxRecDepth 100000 in
theorem lc_10 {Y : gEnv} {X : gCtx} {b : Nat} {i : Int} {x s h hq sc sg ar xm w sv tx ag out : Nat} {k n : Nat} {Ln : Nat} {xs : Nat → Int32} {K N : Nat → Nat} {I : Nat → Nat → Int} {A : Nat → Int → Int} {R : Nat → Nat → Option Nat} {Q : Nat → Int → Option Nat} (hsc : lScr X Y b Ln xs) (hi : 0 ≤ i ∧ i + 6 ≤ Ln) (hL : lInv x s h hq sc sg ar xm w sv tx ag out K N I A R Q) (hk : k + 400 ≤ 668115) (hn : n + 2000 ≤ 7091759) (kk : ∀ (K' N' : Nat → Nat) (I' : Nat → Nat → Int) (A' : Nat → Int → Int) (R' : Nat → Nat → Option Nat) (Q' : Nat → Int → Option Nat), lInv x s h hq sc sg ar xm w sv tx ag out K' N' I' A' R' Q' → gJ Y X yL_law cL_law 8 (some .boolean) room_1 lPo gno (k + 400) (n + 2000) 2133 [(4, vi i), (0, .ref b), (1, .ref x), (2, .ref xm), (3, .ref out)] [] K' N' I' A' R' Q') : gJ Y X yL_law cL_law 8 (some .boolean) room_1 lPo gno k n 873 [(4, vi i), (0, .ref b), (1, .ref x), (2, .ref xm), (3, .ref out)] [] K N I A R Q := by
  obtain ⟨⟨G, hI⟩, hM, ⟨o1, o2, o3, o4, o5⟩, hO⟩ := id hL
  obtain ⟨hz, hmt, hhs, hTr, hlen⟩ := id hO
  obtain ⟨hN, hn6⟩ := hI.hN
  have hne := hM.ne
  refine g_aload_n dL_law_873 rfl rfl ?_
  refine g_aload_n dL_law_874 rfl rfl ?_
  refine g_iload dL_law_875 rfl ?_
  refine g_iconst dL_law_877 ?_
  refine g_iadd dL_law_878 ?_
  refine g_sld hsc (by omega) dL_law_879 ?_
  refine g_aload_n dL_law_880 rfl rfl ?_
  refine g_iload dL_law_881 rfl ?_
  refine g_iconst dL_law_883 ?_
  refine g_iadd dL_law_884 ?_
  refine g_sld hsc (by omega) dL_law_885 ?_
  refine g_aload_n dL_law_886 rfl rfl ?_
  refine g_iload dL_law_887 rfl ?_
  refine g_iconst dL_law_889 ?_
  refine g_iadd dL_law_890 ?_
  refine g_sld hsc (by omega) dL_law_891 ?_
  refine g_aload_n dL_law_892 rfl rfl ?_
  refine g_callH (k_L_takeBack Y hI ⟨Or.inr (Or.inr (Or.inr (Or.inr (Or.inr rfl)))), o1, o2⟩ (xsI xs (i + 1)) (xsI xs (i + 2)) (xsI xs (i + 3)) (rg_takeBack _ _ _ _) (k_A_takeBack Y hI (xsI xs (i + 1)) (xsI_range xs (i + 1)) (xsI xs (i + 2)) (xsI_range xs (i + 2)) (xsI xs (i + 3)) (xsI_range xs (i + 3)) (fun hc => (lk_takeBack hN hz hmt hc).1))) u_L_takeBack mw_868 dL_law_893 rfl rfl ⟨Nat.le_of_ble_eq_true rfl, Nat.le_of_ble_eq_true rfl⟩ ⟨by show _ ≤ (668115 : Nat); dsimp only; omega, by show _ ≤ (7091759 : Nat); dsimp only; omega⟩ (Nat.le_of_ble_eq_true rfl) (fun v1 K1 N1 I1 A1 R1 Q1 h1 => ?_)
  have e1 := h1.1
  subst e1
  obtain ⟨m1, w1, w2, w3, w4, w5⟩ := lInv.mid hL h1
  refine g_istore dL_law_896 (by decide) ?_
  refine g_aload_n dL_law_898 rfl rfl ?_
  refine g_aload_n dL_law_899 rfl rfl ?_
  refine g_iload dL_law_900 rfl ?_
  refine g_iconst dL_law_902 ?_
  refine g_iadd dL_law_903 ?_
  refine g_sld hsc (by omega) dL_law_904 ?_
  refine g_aload_n dL_law_905 rfl rfl ?_
  refine g_iload dL_law_906 rfl ?_
  refine g_iconst dL_law_908 ?_
  refine g_iadd dL_law_909 ?_
  refine g_sld hsc (by omega) dL_law_910 ?_
  refine g_aload_n dL_law_911 rfl rfl ?_
  refine g_iload dL_law_912 rfl ?_
  refine g_iconst dL_law_914 ?_
  refine g_iadd dL_law_915 ?_
  refine g_sld hsc (by omega) dL_law_916 ?_
  refine g_callVw (i := 10) rfl (gK0 m1.1) (g_at10 m1.1) (k_M_takeBack Y m1 (by rw [w1]; exact hN) (by rw [w1]; exact hmt) (by rw [w4]; exact hn6) (xsI xs (i + 1)) (xsI xs (i + 2)) (xsI xs (i + 3)) (xsI_range xs (i + 1)) (xsI_range xs (i + 2)) (xsI_range xs (i + 3))) u_X13_takeBack mw_1363 dL_law_917 rfl rfl ⟨Nat.le_of_ble_eq_true rfl, Nat.le_of_ble_eq_true rfl⟩ ⟨by show _ ≤ (668115 : Nat); dsimp only; omega, by show _ ≤ (7091759 : Nat); dsimp only; omega⟩ (Nat.le_of_ble_eq_true rfl) (fun v2 I2 A2 h2 => ?_)
  rw [w1] at h2
  change mOpP I1 A1 xm w sv (sTakeT (A w) (xsI xs (i + 1)) (xsI xs (i + 2)) (xsI xs (i + 3))) _ _ v2 I2 A2 at h2
  obtain ⟨r1, r2⟩ := mOpP.res o5 hne.1 hne.2.1 h2 w1 w2 w3 w4 w5
  subst r2
  obtain ⟨hL2, hout, h206⟩ := lInv.fin hL h1 r1 (fun hc => hO.op hN hn6 (lk_takeBack hN hz hmt hc).2.1 (lk_takeBack hN hz hmt hc).2.2)
  exact g_locs (by exact ⟨rfl, rfl, rfl, rfl, rfl, rfl, trivial⟩) (lt_int (pc := 920) dL_law_920 dL_law_922 dL_law_923 dL_law_926 dL_law_928 dL_law_933 dL_law_935 dL_law_938 dL_law_939 dL_law_940 dL_law_941 dL_law_943 dL_law_944 dL_law_945 dL_law_950 (by decide) ⟨((rg_takeBack _ _ _ _)).1, Int.le_trans ((rg_takeBack _ _ _ _)).2 (by decide)⟩ hL2 hout h206 (by dsimp only; omega) (by omega) (by dsimp only; omega) (by omega) (kk _ _ _ _ _ _ hL2))
set_option maxHeartbeats 4000000 in
set_option maxRecDepth 100000 in
theorem lc_11 {Y : gEnv} {X : gCtx} {b : Nat} {i : Int} {x s h hq sc sg ar xm w sv tx ag out : Nat} {k n : Nat} {Ln : Nat} {xs : Nat → Int32} {K N : Nat → Nat} {I : Nat → Nat → Int} {A : Nat → Int → Int} {R : Nat → Nat → Option Nat} {Q : Nat → Int → Option Nat} (hsc : lScr X Y b Ln xs) (hi : 0 ≤ i ∧ i + 6 ≤ Ln) (hL : lInv x s h hq sc sg ar xm w sv tx ag out K N I A R Q) (hk : k + 400 ≤ 668115) (hn : n + 2000 ≤ 7091759) (kk : ∀ (K' N' : Nat → Nat) (I' : Nat → Nat → Int) (A' : Nat → Int → Int) (R' : Nat → Nat → Option Nat) (Q' : Nat → Int → Option Nat), lInv x s h hq sc sg ar xm w sv tx ag out K' N' I' A' R' Q' → gJ Y X yL_law cL_law 8 (some .boolean) room_1 lPo gno (k + 400) (n + 2000) 2133 [(4, vi i), (0, .ref b), (1, .ref x), (2, .ref xm), (3, .ref out)] [] K' N' I' A' R' Q') : gJ Y X yL_law cL_law 8 (some .boolean) room_1 lPo gno k n 953 [(4, vi i), (0, .ref b), (1, .ref x), (2, .ref xm), (3, .ref out)] [] K N I A R Q := by
  obtain ⟨⟨G, hI⟩, hM, ⟨o1, o2, o3, o4, o5⟩, hO⟩ := id hL
  obtain ⟨hz, hmt, hhs, hTr, hlen⟩ := id hO
  obtain ⟨hN, hn6⟩ := hI.hN
  have hne := hM.ne
  refine g_aload_n dL_law_953 rfl rfl ?_
  refine g_aload_n dL_law_954 rfl rfl ?_
  refine g_iload dL_law_955 rfl ?_
  refine g_iconst dL_law_957 ?_
  refine g_iadd dL_law_958 ?_
  refine g_sld hsc (by omega) dL_law_959 ?_
  refine g_aload_n dL_law_960 rfl rfl ?_
  refine g_callH (k_L_replace Y hI ⟨Or.inr (Or.inr (Or.inr (Or.inr (Or.inr rfl)))), o1, o2⟩ (xsI xs (i + 1)) (rg_replace _ _) (k_A_replace Y hI (xsI xs (i + 1)) (xsI_range xs (i + 1)) (fun hc => (lk_replace hN hz hmt hc).1))) u_L_replace mw_887 dL_law_961 rfl rfl ⟨Nat.le_of_ble_eq_true rfl, Nat.le_of_ble_eq_true rfl⟩ ⟨by show _ ≤ (668115 : Nat); dsimp only; omega, by show _ ≤ (7091759 : Nat); dsimp only; omega⟩ (Nat.le_of_ble_eq_true rfl) (fun v1 K1 N1 I1 A1 R1 Q1 h1 => ?_)
  have e1 := h1.1
  subst e1
  obtain ⟨m1, w1, w2, w3, w4, w5⟩ := lInv.mid hL h1
  refine g_istore dL_law_964 (by decide) ?_
  refine g_aload_n dL_law_966 rfl rfl ?_
  refine g_aload_n dL_law_967 rfl rfl ?_
  refine g_iload dL_law_968 rfl ?_
  refine g_iconst dL_law_970 ?_
  refine g_iadd dL_law_971 ?_
  refine g_sld hsc (by omega) dL_law_972 ?_
  refine g_callVw (i := 10) rfl (gK0 m1.1) (g_at10 m1.1) (k_M_replace Y m1 (by rw [w1]; exact hN) (by rw [w1]; exact hmt) (by rw [w4]; exact hn6) (xsI xs (i + 1)) (xsI_range xs (i + 1))) u_X13_replace mw_1371 dL_law_973 rfl rfl ⟨Nat.le_of_ble_eq_true rfl, Nat.le_of_ble_eq_true rfl⟩ ⟨by show _ ≤ (668115 : Nat); dsimp only; omega, by show _ ≤ (7091759 : Nat); dsimp only; omega⟩ (Nat.le_of_ble_eq_true rfl) (fun v2 I2 A2 h2 => ?_)
  rw [w1] at h2
  change mOpP I1 A1 xm w sv (sReplT (A w) (xsI xs (i + 1))) _ _ v2 I2 A2 at h2
  obtain ⟨r1, r2⟩ := mOpP.res o5 hne.1 hne.2.1 h2 w1 w2 w3 w4 w5
  subst r2
  obtain ⟨hL2, hout, h206⟩ := lInv.fin hL h1 r1 (fun hc => hO.op hN hn6 (lk_replace hN hz hmt hc).2.1 (lk_replace hN hz hmt hc).2.2)
  exact g_locs (by exact ⟨rfl, rfl, rfl, rfl, rfl, rfl, trivial⟩) (lt_int (pc := 976) dL_law_976 dL_law_978 dL_law_979 dL_law_982 dL_law_984 dL_law_989 dL_law_991 dL_law_994 dL_law_995 dL_law_996 dL_law_997 dL_law_999 dL_law_1000 dL_law_1001 dL_law_1006 (by decide) ⟨((rg_replace _ _)).1, Int.le_trans ((rg_replace _ _)).2 (by decide)⟩ hL2 hout h206 (by dsimp only; omega) (by omega) (by dsimp only; omega) (by omega) (kk _ _ _ _ _ _ hL2))
set_option maxHeartbeats 4000000 in
set_option maxRecDepth 100000 in
theorem lc_12 {Y : gEnv} {X : gCtx} {b : Nat} {i : Int} {x s h hq sc sg ar xm w sv tx ag out : Nat} {k n : Nat} {Ln : Nat} {xs : Nat → Int32} {K N : Nat → Nat} {I : Nat → Nat → Int} {A : Nat → Int → Int} {R : Nat → Nat → Option Nat} {Q : Nat → Int → Option Nat} (hsc : lScr X Y b Ln xs) (hi : 0 ≤ i ∧ i + 6 ≤ Ln) (hL : lInv x s h hq sc sg ar xm w sv tx ag out K N I A R Q) (hk : k + 400 ≤ 668115) (hn : n + 2000 ≤ 7091759) (kk : ∀ (K' N' : Nat → Nat) (I' : Nat → Nat → Int) (A' : Nat → Int → Int) (R' : Nat → Nat → Option Nat) (Q' : Nat → Int → Option Nat), lInv x s h hq sc sg ar xm w sv tx ag out K' N' I' A' R' Q' → gJ Y X yL_law cL_law 8 (some .boolean) room_1 lPo gno (k + 400) (n + 2000) 2133 [(4, vi i), (0, .ref b), (1, .ref x), (2, .ref xm), (3, .ref out)] [] K' N' I' A' R' Q') : gJ Y X yL_law cL_law 8 (some .boolean) room_1 lPo gno k n 1009 [(4, vi i), (0, .ref b), (1, .ref x), (2, .ref xm), (3, .ref out)] [] K N I A R Q := by
  obtain ⟨⟨G, hI⟩, hM, ⟨o1, o2, o3, o4, o5⟩, hO⟩ := id hL
  obtain ⟨hz, hmt, hhs, hTr, hlen⟩ := id hO
  obtain ⟨hN, hn6⟩ := hI.hN
  have hne := hM.ne
  refine g_aload_n dL_law_1009 rfl rfl ?_
  refine g_aload_n dL_law_1010 rfl rfl ?_
  refine g_callH (k_L_undo Y hI ⟨Or.inr (Or.inr (Or.inr (Or.inr (Or.inr rfl)))), o1, o2⟩  (cd1p _) (k_A_undo Y hI)) u_L_undo mw_902 dL_law_1011 rfl rfl ⟨Nat.le_of_ble_eq_true rfl, Nat.le_of_ble_eq_true rfl⟩ ⟨by show _ ≤ (668115 : Nat); dsimp only; omega, by show _ ≤ (7091759 : Nat); dsimp only; omega⟩ (Nat.le_of_ble_eq_true rfl) (fun v1 K1 N1 I1 A1 R1 Q1 h1 => ?_)
  have e1 := h1.1
  subst e1
  obtain ⟨m1, w1, w2, w3, w4, w5⟩ := lInv.mid hL h1
  refine g_istore dL_law_1014 (by decide) ?_
  refine g_aload_n dL_law_1016 rfl rfl ?_
  refine g_callVw (i := 10) rfl (gK0 m1.1) (g_at10 m1.1) (k_M_undo Y m1 (by rw [w4]; exact hn6)) u_X13_undo mw_1375 dL_law_1017 rfl rfl ⟨Nat.le_of_ble_eq_true rfl, Nat.le_of_ble_eq_true rfl⟩ ⟨by show _ ≤ (668115 : Nat); dsimp only; omega, by show _ ≤ (7091759 : Nat); dsimp only; omega⟩ (Nat.le_of_ble_eq_true rfl) (fun v2 I2 A2 h2 => ?_)
  skip
  obtain ⟨r1, r2⟩ := undo_res o5 hne.1 hn6.1 h2 w1 w2 w3 w4 w5
  subst r2
  obtain ⟨hL2, hout, h206⟩ := lInv.fin hL h1 r1 (fun hc => hO.undo (by
      by_cases z : I 204 xm = 0
      · rw [if_pos z] at hc; cases hc
      · have := hn6.1; omega))
  exact g_locs (by exact ⟨rfl, rfl, rfl, rfl, rfl, rfl, trivial⟩) (lt_int (pc := 1020) dL_law_1020 dL_law_1022 dL_law_1023 dL_law_1026 dL_law_1028 dL_law_1033 dL_law_1035 dL_law_1038 dL_law_1039 dL_law_1040 dL_law_1041 dL_law_1043 dL_law_1044 dL_law_1045 dL_law_1050 (by decide) ⟨((cd1p _)).1, Int.le_trans ((cd1p _)).2 (by decide)⟩ hL2 hout h206 (by dsimp only; omega) (by omega) (by dsimp only; omega) (by omega) (kk _ _ _ _ _ _ hL2))
set_option maxHeartbeats 4000000 in
set_option maxRecDepth 100000 in
theorem lc_13 {Y : gEnv} {X : gCtx} {b : Nat} {i : Int} {x s h hq sc sg ar xm w sv tx ag out : Nat} {k n : Nat} {Ln : Nat} {xs : Nat → Int32} {K N : Nat → Nat} {I : Nat → Nat → Int} {A : Nat → Int → Int} {R : Nat → Nat → Option Nat} {Q : Nat → Int → Option Nat} (hsc : lScr X Y b Ln xs) (hi : 0 ≤ i ∧ i + 6 ≤ Ln) (hL : lInv x s h hq sc sg ar xm w sv tx ag out K N I A R Q) (hk : k + 400 ≤ 668115) (hn : n + 2000 ≤ 7091759) (kk : ∀ (K' N' : Nat → Nat) (I' : Nat → Nat → Int) (A' : Nat → Int → Int) (R' : Nat → Nat → Option Nat) (Q' : Nat → Int → Option Nat), lInv x s h hq sc sg ar xm w sv tx ag out K' N' I' A' R' Q' → gJ Y X yL_law cL_law 8 (some .boolean) room_1 lPo gno (k + 400) (n + 2000) 2133 [(4, vi i), (0, .ref b), (1, .ref x), (2, .ref xm), (3, .ref out)] [] K' N' I' A' R' Q') : gJ Y X yL_law cL_law 8 (some .boolean) room_1 lPo gno k n 1053 [(4, vi i), (0, .ref b), (1, .ref x), (2, .ref xm), (3, .ref out)] [] K N I A R Q := by
  obtain ⟨⟨G, hI⟩, hM, ⟨o1, o2, o3, o4, o5⟩, hO⟩ := id hL
  obtain ⟨hz, hmt, hhs, hTr, hlen⟩ := id hO
  obtain ⟨hN, hn6⟩ := hI.hN
  have hne := hM.ne
  refine g_aload_n dL_law_1053 rfl rfl ?_
  refine g_aload_n dL_law_1054 rfl rfl ?_
  refine g_iload dL_law_1055 rfl ?_
  refine g_iconst dL_law_1057 ?_
  refine g_iadd dL_law_1058 ?_
  refine g_sld hsc (by omega) dL_law_1059 ?_
  refine g_aload_n dL_law_1060 rfl rfl ?_
  refine g_iload dL_law_1061 rfl ?_
  refine g_iconst dL_law_1063 ?_
  refine g_iadd dL_law_1064 ?_
  refine g_sld hsc (by omega) dL_law_1065 ?_
  refine g_aload_n dL_law_1066 rfl rfl ?_
  refine g_callH (k_L_glaze Y hI ⟨Or.inr (Or.inr (Or.inr (Or.inr (Or.inr rfl)))), o1, o2⟩ (xsI xs (i + 1)) (xsI xs (i + 2)) (cd2r _ _) (k_A_glaze Y hI (xsI xs (i + 1)) (xsI_range xs (i + 1)) (xsI xs (i + 2)) (xsI_range xs (i + 2)))) u_L_glaze mw_913 dL_law_1067 rfl rfl ⟨Nat.le_of_ble_eq_true rfl, Nat.le_of_ble_eq_true rfl⟩ ⟨by show _ ≤ (668115 : Nat); dsimp only; omega, by show _ ≤ (7091759 : Nat); dsimp only; omega⟩ (Nat.le_of_ble_eq_true rfl) (fun v1 K1 N1 I1 A1 R1 Q1 h1 => ?_)
  have e1 := h1.1
  subst e1
  obtain ⟨m1, w1, w2, w3, w4, w5⟩ := lInv.mid hL h1
  refine g_istore dL_law_1070 (by decide) ?_
  refine g_aload_n dL_law_1072 rfl rfl ?_
  refine g_aload_n dL_law_1073 rfl rfl ?_
  refine g_iload dL_law_1074 rfl ?_
  refine g_iconst dL_law_1076 ?_
  refine g_iadd dL_law_1077 ?_
  refine g_sld hsc (by omega) dL_law_1078 ?_
  refine g_aload_n dL_law_1079 rfl rfl ?_
  refine g_iload dL_law_1080 rfl ?_
  refine g_iconst dL_law_1082 ?_
  refine g_iadd dL_law_1083 ?_
  refine g_sld hsc (by omega) dL_law_1084 ?_
  refine g_callVw (i := 10) rfl (gK0 m1.1) (g_at10 m1.1) (k_M_glaze Y m1 (by rw [w1]; exact hN) (by rw [w1]; exact hmt) (xsI xs (i + 1)) (xsI xs (i + 2)) (xsI_range xs (i + 1)) (xsI_range xs (i + 2))) u_X13_glaze mw_1379 dL_law_1085 rfl rfl ⟨Nat.le_of_ble_eq_true rfl, Nat.le_of_ble_eq_true rfl⟩ ⟨by show _ ≤ (668115 : Nat); dsimp only; omega, by show _ ≤ (7091759 : Nat); dsimp only; omega⟩ (Nat.le_of_ble_eq_true rfl) (fun v2 I2 A2 h2 => ?_)
  rw [w1] at h2
  obtain ⟨r1, r2⟩ := mRdP.res h2 w1 w2 w3 w4 w5
  subst r2
  obtain ⟨hL2, hout, h206⟩ := lInv.fin hL h1 r1 (fun _ => hO)
  exact g_locs (by exact ⟨rfl, rfl, rfl, rfl, rfl, rfl, trivial⟩) (lt_int (pc := 1088) dL_law_1088 dL_law_1090 dL_law_1091 dL_law_1094 dL_law_1096 dL_law_1101 dL_law_1103 dL_law_1106 dL_law_1107 dL_law_1108 dL_law_1109 dL_law_1111 dL_law_1112 dL_law_1113 dL_law_1118 (by decide) ⟨((cd2r _ _)).1, Int.le_trans ((cd2r _ _)).2 (by decide)⟩ hL2 hout h206 (by dsimp only; omega) (by omega) (by dsimp only; omega) (by omega) (kk _ _ _ _ _ _ hL2))
set_option maxHeartbeats 4000000 in
set_option maxRecDepth 100000 in
theorem lc_14 {Y : gEnv} {X : gCtx} {b : Nat} {i : Int} {x s h hq sc sg ar xm w sv tx ag out : Nat} {k n : Nat} {Ln : Nat} {xs : Nat → Int32} {K N : Nat → Nat} {I : Nat → Nat → Int} {A : Nat → Int → Int} {R : Nat → Nat → Option Nat} {Q : Nat → Int → Option Nat} (hsc : lScr X Y b Ln xs) (hi : 0 ≤ i ∧ i + 6 ≤ Ln) (hL : lInv x s h hq sc sg ar xm w sv tx ag out K N I A R Q) (hk : k + 400 ≤ 668115) (hn : n + 2000 ≤ 7091759) (kk : ∀ (K' N' : Nat → Nat) (I' : Nat → Nat → Int) (A' : Nat → Int → Int) (R' : Nat → Nat → Option Nat) (Q' : Nat → Int → Option Nat), lInv x s h hq sc sg ar xm w sv tx ag out K' N' I' A' R' Q' → gJ Y X yL_law cL_law 8 (some .boolean) room_1 lPo gno (k + 400) (n + 2000) 2133 [(4, vi i), (0, .ref b), (1, .ref x), (2, .ref xm), (3, .ref out)] [] K' N' I' A' R' Q') : gJ Y X yL_law cL_law 8 (some .boolean) room_1 lPo gno k n 1121 [(4, vi i), (0, .ref b), (1, .ref x), (2, .ref xm), (3, .ref out)] [] K N I A R Q := by
  obtain ⟨⟨G, hI⟩, hM, ⟨o1, o2, o3, o4, o5⟩, hO⟩ := id hL
  obtain ⟨hz, hmt, hhs, hTr, hlen⟩ := id hO
  obtain ⟨hN, hn6⟩ := hI.hN
  have hne := hM.ne
  refine g_aload_n dL_law_1121 rfl rfl ?_
  refine g_aload_n dL_law_1122 rfl rfl ?_
  refine g_iload dL_law_1123 rfl ?_
  refine g_iconst dL_law_1125 ?_
  refine g_iadd dL_law_1126 ?_
  refine g_sld hsc (by omega) dL_law_1127 ?_
  refine g_aload_n dL_law_1128 rfl rfl ?_
  refine g_iload dL_law_1129 rfl ?_
  refine g_iconst dL_law_1131 ?_
  refine g_iadd dL_law_1132 ?_
  refine g_sld hsc (by omega) dL_law_1133 ?_
  refine g_aload_n dL_law_1134 rfl rfl ?_
  refine g_iload dL_law_1135 rfl ?_
  refine g_iconst dL_law_1137 ?_
  refine g_iadd dL_law_1138 ?_
  refine g_sld hsc (by omega) dL_law_1139 ?_
  refine g_aload_n dL_law_1140 rfl rfl ?_
  refine g_callH (k_L_position Y hI ⟨Or.inr (Or.inr (Or.inr (Or.inr (Or.inr rfl)))), o1, o2⟩ (xsI xs (i + 1)) (xsI xs (i + 2)) (xsI xs (i + 3)) (cd2r _ _) (k_A_position Y hI (xsI xs (i + 1)) (xsI_range xs (i + 1)) (xsI xs (i + 2)) (xsI_range xs (i + 2)) (xsI xs (i + 3)) (xsI_range xs (i + 3)))) u_L_position mw_933 dL_law_1141 rfl rfl ⟨Nat.le_of_ble_eq_true rfl, Nat.le_of_ble_eq_true rfl⟩ ⟨by show _ ≤ (668115 : Nat); dsimp only; omega, by show _ ≤ (7091759 : Nat); dsimp only; omega⟩ (Nat.le_of_ble_eq_true rfl) (fun v1 K1 N1 I1 A1 R1 Q1 h1 => ?_)
  have e1 := h1.1
  subst e1
  obtain ⟨m1, w1, w2, w3, w4, w5⟩ := lInv.mid hL h1
  refine g_istore dL_law_1144 (by decide) ?_
  refine g_aload_n dL_law_1146 rfl rfl ?_
  refine g_aload_n dL_law_1147 rfl rfl ?_
  refine g_iload dL_law_1148 rfl ?_
  refine g_iconst dL_law_1150 ?_
  refine g_iadd dL_law_1151 ?_
  refine g_sld hsc (by omega) dL_law_1152 ?_
  refine g_aload_n dL_law_1153 rfl rfl ?_
  refine g_iload dL_law_1154 rfl ?_
  refine g_iconst dL_law_1156 ?_
  refine g_iadd dL_law_1157 ?_
  refine g_sld hsc (by omega) dL_law_1158 ?_
  refine g_aload_n dL_law_1159 rfl rfl ?_
  refine g_iload dL_law_1160 rfl ?_
  refine g_iconst dL_law_1162 ?_
  refine g_iadd dL_law_1163 ?_
  refine g_sld hsc (by omega) dL_law_1164 ?_
  refine g_callVw (i := 10) rfl (gK0 m1.1) (g_at10 m1.1) (k_M_position Y m1 (by rw [w1]; exact hN) (by rw [w1]; exact hmt) (xsI xs (i + 1)) (xsI xs (i + 2)) (xsI xs (i + 3)) (xsI_range xs (i + 1)) (xsI_range xs (i + 2)) (xsI_range xs (i + 3))) u_X13_position mw_1391 dL_law_1165 rfl rfl ⟨Nat.le_of_ble_eq_true rfl, Nat.le_of_ble_eq_true rfl⟩ ⟨by show _ ≤ (668115 : Nat); dsimp only; omega, by show _ ≤ (7091759 : Nat); dsimp only; omega⟩ (Nat.le_of_ble_eq_true rfl) (fun v2 I2 A2 h2 => ?_)
  rw [w1] at h2
  obtain ⟨r1, r2⟩ := mRdP.res h2 w1 w2 w3 w4 w5
  subst r2
  obtain ⟨hL2, hout, h206⟩ := lInv.fin hL h1 r1 (fun _ => hO)
  exact g_locs (by exact ⟨rfl, rfl, rfl, rfl, rfl, rfl, trivial⟩) (lt_int (pc := 1168) dL_law_1168 dL_law_1170 dL_law_1171 dL_law_1174 dL_law_1176 dL_law_1181 dL_law_1183 dL_law_1186 dL_law_1187 dL_law_1188 dL_law_1189 dL_law_1191 dL_law_1192 dL_law_1193 dL_law_1198 (by decide) ⟨((cd2r _ _)).1, Int.le_trans ((cd2r _ _)).2 (by decide)⟩ hL2 hout h206 (by dsimp only; omega) (by omega) (by dsimp only; omega) (by omega) (kk _ _ _ _ _ _ hL2))
set_option maxHeartbeats 4000000 in
set_option maxRecDepth 100000 in
theorem lc_15 {Y : gEnv} {X : gCtx} {b : Nat} {i : Int} {x s h hq sc sg ar xm w sv tx ag out : Nat} {k n : Nat} {Ln : Nat} {xs : Nat → Int32} {K N : Nat → Nat} {I : Nat → Nat → Int} {A : Nat → Int → Int} {R : Nat → Nat → Option Nat} {Q : Nat → Int → Option Nat} (hsc : lScr X Y b Ln xs) (hi : 0 ≤ i ∧ i + 6 ≤ Ln) (hL : lInv x s h hq sc sg ar xm w sv tx ag out K N I A R Q) (hk : k + 400 ≤ 668115) (hn : n + 2000 ≤ 7091759) (kk : ∀ (K' N' : Nat → Nat) (I' : Nat → Nat → Int) (A' : Nat → Int → Int) (R' : Nat → Nat → Option Nat) (Q' : Nat → Int → Option Nat), lInv x s h hq sc sg ar xm w sv tx ag out K' N' I' A' R' Q' → gJ Y X yL_law cL_law 8 (some .boolean) room_1 lPo gno (k + 400) (n + 2000) 2133 [(4, vi i), (0, .ref b), (1, .ref x), (2, .ref xm), (3, .ref out)] [] K' N' I' A' R' Q') : gJ Y X yL_law cL_law 8 (some .boolean) room_1 lPo gno k n 1201 [(4, vi i), (0, .ref b), (1, .ref x), (2, .ref xm), (3, .ref out)] [] K N I A R Q := by
  obtain ⟨⟨G, hI⟩, hM, ⟨o1, o2, o3, o4, o5⟩, hO⟩ := id hL
  obtain ⟨hz, hmt, hhs, hTr, hlen⟩ := id hO
  obtain ⟨hN, hn6⟩ := hI.hN
  have hne := hM.ne
  refine g_aload_n dL_law_1201 rfl rfl ?_
  refine g_aload_n dL_law_1202 rfl rfl ?_
  refine g_iload dL_law_1203 rfl ?_
  refine g_iconst dL_law_1205 ?_
  refine g_iadd dL_law_1206 ?_
  refine g_sld hsc (by omega) dL_law_1207 ?_
  refine g_aload_n dL_law_1208 rfl rfl ?_
  refine g_iload dL_law_1209 rfl ?_
  refine g_iconst dL_law_1211 ?_
  refine g_iadd dL_law_1212 ?_
  refine g_sld hsc (by omega) dL_law_1213 ?_
  refine g_aload_n dL_law_1214 rfl rfl ?_
  refine g_callH (k_L_pile Y hI ⟨Or.inr (Or.inr (Or.inr (Or.inr (Or.inr rfl)))), o1, o2⟩ (xsI xs (i + 1)) (xsI xs (i + 2)) (cd2r _ _) (k_A_pile Y hI (xsI xs (i + 1)) (xsI_range xs (i + 1)) (xsI xs (i + 2)) (xsI_range xs (i + 2)))) u_L_pile mw_944 dL_law_1215 rfl rfl ⟨Nat.le_of_ble_eq_true rfl, Nat.le_of_ble_eq_true rfl⟩ ⟨by show _ ≤ (668115 : Nat); dsimp only; omega, by show _ ≤ (7091759 : Nat); dsimp only; omega⟩ (Nat.le_of_ble_eq_true rfl) (fun v1 K1 N1 I1 A1 R1 Q1 h1 => ?_)
  have e1 := h1.1
  subst e1
  obtain ⟨m1, w1, w2, w3, w4, w5⟩ := lInv.mid hL h1
  refine g_istore dL_law_1218 (by decide) ?_
  refine g_aload_n dL_law_1220 rfl rfl ?_
  refine g_aload_n dL_law_1221 rfl rfl ?_
  refine g_iload dL_law_1222 rfl ?_
  refine g_iconst dL_law_1224 ?_
  refine g_iadd dL_law_1225 ?_
  refine g_sld hsc (by omega) dL_law_1226 ?_
  refine g_aload_n dL_law_1227 rfl rfl ?_
  refine g_iload dL_law_1228 rfl ?_
  refine g_iconst dL_law_1230 ?_
  refine g_iadd dL_law_1231 ?_
  refine g_sld hsc (by omega) dL_law_1232 ?_
  refine g_callVw (i := 10) rfl (gK0 m1.1) (g_at10 m1.1) (k_M_pile Y m1 (by rw [w1]; exact hN) (by rw [w1]; exact hmt) (xsI xs (i + 1)) (xsI xs (i + 2)) (xsI_range xs (i + 1)) (xsI_range xs (i + 2))) u_X13_pile mw_1395 dL_law_1233 rfl rfl ⟨Nat.le_of_ble_eq_true rfl, Nat.le_of_ble_eq_true rfl⟩ ⟨by show _ ≤ (668115 : Nat); dsimp only; omega, by show _ ≤ (7091759 : Nat); dsimp only; omega⟩ (Nat.le_of_ble_eq_true rfl) (fun v2 I2 A2 h2 => ?_)
  rw [w1] at h2
  obtain ⟨r1, r2⟩ := mRdP.res h2 w1 w2 w3 w4 w5
  subst r2
  obtain ⟨hL2, hout, h206⟩ := lInv.fin hL h1 r1 (fun _ => hO)
  exact g_locs (by exact ⟨rfl, rfl, rfl, rfl, rfl, rfl, trivial⟩) (lt_int (pc := 1236) dL_law_1236 dL_law_1238 dL_law_1239 dL_law_1242 dL_law_1244 dL_law_1249 dL_law_1251 dL_law_1254 dL_law_1255 dL_law_1256 dL_law_1257 dL_law_1259 dL_law_1260 dL_law_1261 dL_law_1266 (by decide) ⟨((cd2r _ _)).1, Int.le_trans ((cd2r _ _)).2 (by decide)⟩ hL2 hout h206 (by dsimp only; omega) (by omega) (by dsimp only; omega) (by omega) (kk _ _ _ _ _ _ hL2))
