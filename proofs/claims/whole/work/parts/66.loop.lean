set_option maxHeartbeats 4000000 in
set_option maxRecDepth 100000 in
theorem law_loop {Y : gEnv} {X : gCtx} {b : Nat} {x s h hq sc sg ar xm w sv tx ag out : Nat} {Ln : Nat} {xs : Nat → Int32} (hsc : lScr X Y b Ln xs) : ∀ (f m : Nat) (i : Int) (k n : Nat) (K N : Nat → Nat) (I : Nat → Nat → Int) (A : Nat → Int → Int) (R : Nat → Nat → Option Nat) (Q : Nat → Int → Option Nat), m < f → 0 ≤ i → i ≤ 3072 → (Ln : Int) - i ≤ 6 * m + 5 → lInv x s h hq sc sg ar xm w sv tx ag out K N I A R Q → k + 400 * m ≤ 668115 → n + 2000 * m ≤ 7091759 → gJ Y X yL_law cL_law 8 (some .boolean) room_1 lPo gno k n 23 [(4, vi i), (0, .ref b), (1, .ref x), (2, .ref xm), (3, .ref out)] [] K N I A R Q := by
  intro f
  induction f with
  | zero => intro m i k n K N I A R Q h; omega
  | succ f ih =>
  intro m i k n K N I A R Q hf hi hi2 hm hL hk hn
  have hln := hsc.2.2.2
  refine g_iload dL_law_23 rfl ?_
  refine g_aload_n dL_law_25 rfl rfl ?_
  refine g_slen hsc dL_law_26 ?_
  refine g_bipush dL_law_27 (by decide) ?_
  refine g_isub dL_law_29 ?_
  refine g_icmp_gt (tgt := 2139) dL_law_30 (by decide) (by omega) (by omega) (fun c_30 => ?_) (fun c_30 => ?_)
  · refine g_iconst dL_law_2139 ?_
    exact g_zret dL_law_2140 rfl (Or.inr rfl) (by show k ≤ (668115 : Nat); omega) (by show n ≤ (7091759 : Nat); omega) rfl
  · have KK : ∀ (K' N' : Nat → Nat) (I' : Nat → Nat → Int) (A' : Nat → Int → Int) (R' : Nat → Nat → Option Nat) (Q' : Nat → Int → Option Nat), lInv x s h hq sc sg ar xm w sv tx ag out K' N' I' A' R' Q' → gJ Y X yL_law cL_law 8 (some .boolean) room_1 lPo gno (k + 400) (n + 2000) 2133 [(4, vi i), (0, .ref b), (1, .ref x), (2, .ref xm), (3, .ref out)] [] K' N' I' A' R' Q' := fun K' N' I' A' R' Q' hL' => by
      refine g_iinc dL_law_2133 rfl (by decide) ?_
      refine g_goto (tgt := 23) dL_law_2136 (by decide) ?_
      exact g_locs (by exact ⟨rfl, rfl, rfl, rfl, rfl, trivial⟩) (ih (m - 1) (i + 6) (k + 400) (n + 2000) K' N' I' A' R' Q' (by omega) (by omega) (by omega) (by omega) hL' (by omega) (by omega))
    refine g_aload_n dL_law_33 rfl rfl ?_
    refine g_iload dL_law_34 rfl ?_
    refine g_sld hsc (by omega) dL_law_36 ?_
    refine g_bipush dL_law_37 (by decide) ?_
    refine g_and31 dL_law_39 (fun z hz0 hz1 => ?_)
    rcases (show z = 0 ∨ z = 1 ∨ z = 2 ∨ z = 3 ∨ z = 4 ∨ z = 5 ∨ z = 6 ∨ z = 7 ∨ z = 8 ∨ z = 9 ∨ z = 10 ∨ z = 11 ∨ z = 12 ∨ z = 13 ∨ z = 14 ∨ z = 15 ∨ z = 16 ∨ z = 17 ∨ z = 18 ∨ z = 19 ∨ z = 20 ∨ z = 21 ∨ z = 22 ∨ z = 23 ∨ z = 24 ∨ z = 25 ∨ z = 26 ∨ z = 27 ∨ z = 28 ∨ z = 29 ∨ 29 < z by omega) with t | t | t | t | t | t | t | t | t | t | t | t | t | t | t | t | t | t | t | t | t | t | t | t | t | t | t | t | t | t | t
    · exact g_tswIn (off := 136) (tgt := 176) dL_law_40 (by omega) 0 (by omega) (by omega) rfl (by decide) (lc_0 hsc (by omega) hL (by omega) (by omega) KK)
    · exact g_tswIn (off := 216) (tgt := 256) dL_law_40 (by omega) 1 (by omega) (by omega) rfl (by decide) (lc_1 hsc (by omega) hL (by omega) (by omega) KK)
    · exact g_tswIn (off := 296) (tgt := 336) dL_law_40 (by omega) 2 (by omega) (by omega) rfl (by decide) (lc_2 hsc (by omega) hL (by omega) (by omega) KK)
    · exact g_tswIn (off := 388) (tgt := 428) dL_law_40 (by omega) 3 (by omega) (by omega) rfl (by decide) (lc_3 hsc (by omega) hL (by omega) (by omega) KK)
    · exact g_tswIn (off := 444) (tgt := 484) dL_law_40 (by omega) 4 (by omega) (by omega) rfl (by decide) (lc_4 hsc (by omega) hL (by omega) (by omega) KK)
    · exact g_tswIn (off := 500) (tgt := 540) dL_law_40 (by omega) 5 (by omega) (by omega) rfl (by decide) (lc_5 hsc (by omega) hL (by omega) (by omega) KK)
    · exact g_tswIn (off := 592) (tgt := 632) dL_law_40 (by omega) 6 (by omega) (by omega) rfl (by decide) (lc_6 hsc (by omega) hL (by omega) (by omega) KK)
    · exact g_tswIn (off := 648) (tgt := 688) dL_law_40 (by omega) 7 (by omega) (by omega) rfl (by decide) (lc_7 hsc (by omega) hL (by omega) (by omega) KK)
    · exact g_tswIn (off := 661) (tgt := 701) dL_law_40 (by omega) 8 (by omega) (by omega) rfl (by decide) (lc_8 hsc (by omega) hL (by omega) (by omega) KK)
    · exact g_tswIn (off := 741) (tgt := 781) dL_law_40 (by omega) 9 (by omega) (by omega) rfl (by decide) (lc_9 hsc (by omega) hL (by omega) (by omega) KK)
    · exact g_tswIn (off := 833) (tgt := 873) dL_law_40 (by omega) 10 (by omega) (by omega) rfl (by decide) (lc_10 hsc (by omega) hL (by omega) (by omega) KK)
    · exact g_tswIn (off := 913) (tgt := 953) dL_law_40 (by omega) 11 (by omega) (by omega) rfl (by decide) (lc_11 hsc (by omega) hL (by omega) (by omega) KK)
    · exact g_tswIn (off := 969) (tgt := 1009) dL_law_40 (by omega) 12 (by omega) (by omega) rfl (by decide) (lc_12 hsc (by omega) hL (by omega) (by omega) KK)
    · exact g_tswIn (off := 1013) (tgt := 1053) dL_law_40 (by omega) 13 (by omega) (by omega) rfl (by decide) (lc_13 hsc (by omega) hL (by omega) (by omega) KK)
    · exact g_tswIn (off := 1081) (tgt := 1121) dL_law_40 (by omega) 14 (by omega) (by omega) rfl (by decide) (lc_14 hsc (by omega) hL (by omega) (by omega) KK)
    · exact g_tswIn (off := 1161) (tgt := 1201) dL_law_40 (by omega) 15 (by omega) (by omega) rfl (by decide) (lc_15 hsc (by omega) hL (by omega) (by omega) KK)
    · exact g_tswIn (off := 1229) (tgt := 1269) dL_law_40 (by omega) 16 (by omega) (by omega) rfl (by decide) (lc_16 hsc (by omega) hL (by omega) (by omega) KK)
    · exact g_tswIn (off := 1297) (tgt := 1337) dL_law_40 (by omega) 17 (by omega) (by omega) rfl (by decide) (lc_17 hsc (by omega) hL (by omega) (by omega) KK)
    · exact g_tswIn (off := 1377) (tgt := 1417) dL_law_40 (by omega) 18 (by omega) (by omega) rfl (by decide) (lc_18 hsc (by omega) hL (by omega) (by omega) KK)
    · exact g_tswIn (off := 1444) (tgt := 1484) dL_law_40 (by omega) 19 (by omega) (by omega) rfl (by decide) (lc_19 hsc (by omega) hL (by omega) (by omega) KK)
    · exact g_tswIn (off := 1512) (tgt := 1552) dL_law_40 (by omega) 20 (by omega) (by omega) rfl (by decide) (lc_20 hsc (by omega) hL (by omega) (by omega) KK)
    · exact g_tswIn (off := 1567) (tgt := 1607) dL_law_40 (by omega) 21 (by omega) (by omega) rfl (by decide) (lc_21 hsc (by omega) hL (by omega) (by omega) KK)
    · exact g_tswIn (off := 1659) (tgt := 1699) dL_law_40 (by omega) 22 (by omega) (by omega) rfl (by decide) (lc_22 hsc (by omega) hL (by omega) (by omega) KK)
    · exact g_tswIn (off := 1739) (tgt := 1779) dL_law_40 (by omega) 23 (by omega) (by omega) rfl (by decide) (lc_23 hsc (by omega) hL (by omega) (by omega) KK)
    · exact g_tswIn (off := 1807) (tgt := 1847) dL_law_40 (by omega) 24 (by omega) (by omega) rfl (by decide) (lc_24 hsc (by omega) hL (by omega) (by omega) KK)
    · exact g_tswIn (off := 1911) (tgt := 1951) dL_law_40 (by omega) 25 (by omega) (by omega) rfl (by decide) (lc_25 hsc (by omega) hL (by omega) (by omega) KK)
    · exact g_tswIn (off := 1967) (tgt := 2007) dL_law_40 (by omega) 26 (by omega) (by omega) rfl (by decide) (lc_26 hsc (by omega) hL (by omega) (by omega) KK)
    · exact g_tswIn (off := 2023) (tgt := 2063) dL_law_40 (by omega) 27 (by omega) (by omega) rfl (by decide) (lc_27 hsc (by omega) hL (by omega) (by omega) KK)
    · exact g_tswIn (off := 2036) (tgt := 2076) dL_law_40 (by omega) 28 (by omega) (by omega) rfl (by decide) (lc_28 hsc (by omega) hL (by omega) (by omega) KK)
    · exact g_tswIn (off := 2049) (tgt := 2089) dL_law_40 (by omega) 29 (by omega) (by omega) rfl (by decide) (lc_29 hsc (by omega) hL (by omega) (by omega) KK)
    · refine g_tswOut (tgt := 2133) dL_law_40 (by omega) (Or.inr t) (by decide) ?_
      exact g_widen (by omega) (by omega) (KK _ _ _ _ _ _ hL)
