theorem cTakeT_range (W : Int → Int) (a b c : Int) : 0 ≤ sTakeT W a b c ∧ sTakeT W a b c ≤ 3 ∧ (sTakeT W a b c = 0 → 0 ≤ a ∧ a < W 1615 ∧ 1 ≤ b ∧ b ≤ W (1450 + a) ∧ 0 ≤ c ∧ c ≤ b * W 89) := by
  unfold sTakeT
  repeat (first | omega | split)
theorem cReplT_range (W : Int → Int) (a : Int) : 0 ≤ sReplT W a ∧ sReplT W a ≤ 2 ∧ (sReplT W a = 0 → 0 ≤ a ∧ a < W 1615 ∧ W (1490 + a) ≤ W (890 + W (1370 + a)) ∧ W (1490 + a) ≠ 0) := by
  unfold sReplT
  repeat (first | omega | split)
theorem cGradeT_range (W : Int → Int) (a : Int) : 0 ≤ sGradeT W a ∧ sGradeT W a ≤ 2 ∧ (sGradeT W a = 0 → 1 ≤ a ∧ a ≤ 10 ∧ W 1613 ≠ 0) := by
  unfold sGradeT
  repeat (first | omega | split)
theorem cGradeF_zero {c : Int} (h : 0 ≤ c) (e : cGradeF c = 0) : c = 0 := by unfold cGradeF at e; split at e <;> omega
theorem cReplF_zero {c : Int} (e : cReplF c = 0) : c = 0 := by unfold cReplF at e; split at e <;> omega
theorem sPack_ev (W : Int → Int) (h : W 1614 ≤ 160) {j : Int} (hj : 1570 ≤ j) : sPack W j = W j := by
  simp only [sPack, sPackK]
  rw [if_neg (by omega), if_neg (by omega)]
set_option maxHeartbeats 1000000 in
set_option maxRecDepth 100000 in
theorem k_A_setSharpness (Y : gEnv) {K N : Nat → Nat} {I : Nat → Nat → Int} {A : Nat → Int → Int} {R : Nat → Nat → Option Nat} {Q : Nat → Int → Option Nat} {G : Nat → Nat × Int} {M : Nat → Prop} {x s h hq sc sg ar : Nat} {W SV T : Int → Int} {n len : Int} (hI : cI K N I A R Q G M x s h hq sc sg ar W n SV T len) (a : Int) (ha : (-2147483648 ≤ a ∧ a ≤ 2147483647)) (hW : ((if ¬ (0 ≤ a ∧ a ≤ 100) then 1 else 0) : Int) = 0 → iN (sU W 88 a)) : gC Y yX12_setSharpness cX12_setSharpness 3 (some .int) ({ frames := 7, cells := 318, slots := 1963, locals := 184 } : Room) [.ref x, vi a] K N I A R Q (cOpP K N I A R Q M x s h hq sc sg ar (if ¬ (0 ≤ a ∧ a ≤ 100) then 1 else 0) (vi (W 88)) (sU W 88 a) (sCnt n) (sSvd SV W n) (T) (len)) (cOpX K N I A R Q (if ¬ (0 ≤ a ∧ a ≤ 100) then 1 else 0) [xAr, xSt]) := by
  refine gC_of (by decide) (Nat.le_of_ble_eq_true rfl) (fun X => ?_)
  obtain ⟨⟨x1, x2, x3, x4⟩, ⟨h1, h2, h3, h4, h5, h6, h7⟩, ⟨c1, c2, c3⟩, st, sv, hs, gg, hM⟩ := id hI
  obtain ⟨h0, hag, ev, kq, nq, hev, hE⟩ := id sv
  have hsh := st.1
  refine g_iload_n dX12_setSharpness_0 rfl rfl ?_
  refine g_callSp (k_isPercentage Y _ (by omega)) u_X12_isPercentage mw_475 rfl dX12_setSharpness_1 rfl rfl ⟨Nat.le_of_ble_eq_true rfl, Nat.le_of_ble_eq_true rfl⟩ ⟨Nat.le_of_ble_eq_true rfl, Nat.le_of_ble_eq_true rfl⟩ (Nat.le_of_ble_eq_true rfl) ?_
  refine g_callSXc (k_K_Argument Y _ (by first | omega | (split <;> omega))) u_X12_checkArgument mw_407 rfl dX12_setSharpness_4 rfl rfl ⟨Nat.le_of_ble_eq_true rfl, Nat.le_of_ble_eq_true rfl⟩ ⟨Nat.le_of_ble_eq_true rfl, Nat.le_of_ble_eq_true rfl⟩ (Nat.le_of_ble_eq_true rfl) (by decide) (fun E hh => by
    obtain ⟨q1, q2⟩ := hh
    have hc : ((if ¬ (0 ≤ a ∧ a ≤ 100) then 1 else 0) : Int) = 1 := by repeat (first | omega | split)
    exact ⟨by rw [hc]; decide, by rw [hc, q2]; rfl, cSame.rfl⟩) (fun h4 => ?_)
  refine g_aload_n dX12_setSharpness_7 rfl rfl ?_
  refine g_get_TileFactory_history dX12_setSharpness_8 mw_301 (by assumption) x3 ?_
  refine g_aload_n dX12_setSharpness_11 rfl rfl ?_
  refine g_get_TileFactory_state dX12_setSharpness_12 mw_300 (by assumption) x2 ?_
  refine g_callV (i := 3) rfl (gK0 h1) (g_at3 h1) (k_H_save Y hI) u_X5_save mw_426 dX12_setSharpness_15 rfl rfl ⟨Nat.le_of_ble_eq_true rfl, Nat.le_of_ble_eq_true rfl⟩ ⟨Nat.le_of_ble_eq_true rfl, Nat.le_of_ble_eq_true rfl⟩ (Nat.le_of_ble_eq_true rfl) (fun v15 K15 N15 I15 A15 R15 Q15 h15 => ?_)
  obtain ⟨rfl, G15, hI15, hf15⟩ := h15
  obtain ⟨⟨x1p, x2p, x3p, x4p⟩, ⟨h1p, h2p, h3p, h4p, h5p, h6p, h7p⟩, ⟨c1p, c2p, c3p⟩, stp, svp, hsp, ggp, hMp⟩ := id hI15
  obtain ⟨h0p, hagp, evp, kqp, nqp, hevp, hEp⟩ := id svp
  have hshp := stp.1
  refine g_aload_n dX12_setSharpness_18 rfl rfl ?_
  refine g_get_TileFactory_state dX12_setSharpness_19 mw_300 (by assumption) x2p ?_
  refine g_get_State_sharpness dX12_setSharpness_22 mw_216 hshp.1 ?_
  refine g_istore_n dX12_setSharpness_25 rfl (by decide) ?_
  refine g_aload_n dX12_setSharpness_26 rfl rfl ?_
  refine g_get_TileFactory_state dX12_setSharpness_27 mw_300 (by assumption) x2p ?_
  refine g_iload_n dX12_setSharpness_30 rfl rfl ?_
  refine g_put_State_sharpness dX12_setSharpness_31 mw_216 hshp.1 (fun I31 hI31 => ?_)
  refine g_iload_n dX12_setSharpness_34 rfl rfl ?_
  exact g_iret dX12_setSharpness_35 rfl (by decide) (by decide) (by
      have hc0 : ((if ¬ (0 ≤ a ∧ a ≤ 100) then 1 else 0) : Int) = 0 := by repeat (first | omega | split)
      have hcf : cFr G15 s I15 I31 A15 A15 := cFr.up (by rw [hshp.2.1]) (by decide) hI31
      obtain ⟨r1, r2⟩ := hI15.st hcf (W' := sU W 88 a) ⟨hW hc0, by rw [cu_166 hshp hI31]; exact ag.put hagp (by omega), evp, kqp, nqp, hevp, cE.of hEp h0p.2.2.2.2.2.2.2.2 (by rw [hI31, g_up_ne1 _ _ (by decide)]) (fun j a b => by rw [sU_ne _ _ (by omega)])⟩
      exact ⟨hc0, by rw [ar_166 hagp], G15, r1, hf15.trans r2⟩)
set_option maxHeartbeats 1000000 in
set_option maxRecDepth 100000 in
theorem jp_A_setBoxSize_35 {Y : gEnv} {X : gCtx} {K N : Nat → Nat} {I : Nat → Nat → Int} {A : Nat → Int → Int} {R : Nat → Nat → Option Nat} {Q : Nat → Int → Option Nat} {G : Nat → Nat × Int} {M : Nat → Prop} {x s h hq sc sg ar : Nat} {W SV T : Int → Int} {n len : Int} (hI : cI K N I A R Q G M x s h hq sc sg ar W n SV T len) (a : Int) (ha : (-2147483648 ≤ a ∧ a ≤ 2147483647)) (hW : ((if ¬ (1 ≤ a ∧ a ≤ 50) then 1 else if 0 < sSum (fun l => W (1050 + l)) (W 1614).toNat 0 ∨ 0 < sumO W then 2 else 0) : Int) = 0 → iN (sU W 89 a)) (f0 : 1 ≤ a ∧ a ≤ 50) (z : Int) (hz : z = if ¬ (0 < sSum (fun l => W (1050 + l)) (W 1614).toNat 0 ∨ 0 < sumO W) then 1 else 0) : gJ Y X yX12_setBoxSize cX12_setBoxSize 3 (some .int) ({ frames := 7, cells := 319, slots := 1969, locals := 184 } : Room) (cOpP K N I A R Q M x s h hq sc sg ar (if ¬ (1 ≤ a ∧ a ≤ 50) then 1 else if 0 < sSum (fun l => W (1050 + l)) (W 1614).toNat 0 ∨ 0 < sumO W then 2 else 0) (vi (W 89)) (sU W 89 a) (sCnt n) (sSvd SV W n) (T) (len)) (cOpX K N I A R Q (if ¬ (1 ≤ a ∧ a ≤ 50) then 1 else if 0 < sSum (fun l => W (1050 + l)) (W 1614).toNat 0 ∨ 0 < sumO W then 2 else 0) [xAr, xSt]) 1 6 35 [(0, .ref x), (1, vi a)] [vi z] K N I A R Q := by
  obtain ⟨⟨x1, x2, x3, x4⟩, ⟨h1, h2, h3, h4, h5, h6, h7⟩, ⟨c1, c2, c3⟩, st, sv, hs, gg, hM⟩ := id hI
  obtain ⟨h0, hag, ev, kq, nq, hev, hE⟩ := id sv
  have hsh := st.1
  have hso : sSum (fun l => W (1450 + l)) (W 1615).toNat 0 = sumO W := rfl
  have hsb : 0 ≤ sSum (fun l => W (1050 + l)) (W 1614).toNat 0 := sSum_nnI (fun j a b => (h0.2.2.2.2.1.2.2.1 j a b).2.2.2.2.2.2.2.1)
  have hsu := h0.sums
  have hsb2 : sSum (fun l => W (1050 + l)) (W 1614).toNat 0 ≤ 1600000 := by
    have hle : sSum (fun l => W (1050 + l)) (W 1614).toNat 0 ≤ sumL W := sSum_leq _ _ (fun j a b => by
      obtain ⟨q1, q2, q3, q4, q5, q6, q7⟩ := h0.lot (l := j) a (by have := h0.2.2.2.2.1.1; omega)
      omega)
    have h12 := h0.2.2.2.2.2.2.1.2.2.2.2.2.2.1
    omega
  have h12 := h0.2.2.2.2.2.2.1.2.2.2.2.2.2.1
  refine g_callSXc (k_K_State Y _ (by first | omega | (split <;> omega))) u_X12_checkState mw_514 rfl dX12_setBoxSize_35 rfl rfl ⟨Nat.le_of_ble_eq_true rfl, Nat.le_of_ble_eq_true rfl⟩ ⟨Nat.le_of_ble_eq_true rfl, Nat.le_of_ble_eq_true rfl⟩ (Nat.le_of_ble_eq_true rfl) (by decide) (fun E hh => by
    obtain ⟨q1, q2⟩ := hh
    have hc : ((if ¬ (1 ≤ a ∧ a ≤ 50) then 1 else if 0 < sSum (fun l => W (1050 + l)) (W 1614).toNat 0 ∨ 0 < sumO W then 2 else 0) : Int) = 2 := by repeat (first | omega | split)
    exact ⟨by rw [hc]; decide, by rw [hc, q2]; rfl, cSame.rfl⟩) (fun h35 => ?_)
  refine g_aload_n dX12_setBoxSize_38 rfl rfl ?_
  refine g_get_TileFactory_history dX12_setBoxSize_39 mw_301 (by assumption) x3 ?_
  refine g_aload_n dX12_setBoxSize_42 rfl rfl ?_
  refine g_get_TileFactory_state dX12_setBoxSize_43 mw_300 (by assumption) x2 ?_
  refine g_callV (i := 3) rfl (gK0 h1) (g_at3 h1) (k_H_save Y hI) u_X5_save mw_426 dX12_setBoxSize_46 rfl rfl ⟨Nat.le_of_ble_eq_true rfl, Nat.le_of_ble_eq_true rfl⟩ ⟨Nat.le_of_ble_eq_true rfl, Nat.le_of_ble_eq_true rfl⟩ (Nat.le_of_ble_eq_true rfl) (fun v46 K46 N46 I46 A46 R46 Q46 h46 => ?_)
  obtain ⟨rfl, G46, hI46, hf46⟩ := h46
  obtain ⟨⟨x1p, x2p, x3p, x4p⟩, ⟨h1p, h2p, h3p, h4p, h5p, h6p, h7p⟩, ⟨c1p, c2p, c3p⟩, stp, svp, hsp, ggp, hMp⟩ := id hI46
  obtain ⟨h0p, hagp, evp, kqp, nqp, hevp, hEp⟩ := id svp
  have hshp := stp.1
  refine g_aload_n dX12_setBoxSize_49 rfl rfl ?_
  refine g_get_TileFactory_state dX12_setBoxSize_50 mw_300 (by assumption) x2p ?_
  refine g_get_State_boxSize dX12_setBoxSize_53 mw_218 hshp.1 ?_
  refine g_istore_n dX12_setBoxSize_56 rfl (by decide) ?_
  refine g_aload_n dX12_setBoxSize_57 rfl rfl ?_
  refine g_get_TileFactory_state dX12_setBoxSize_58 mw_300 (by assumption) x2p ?_
  refine g_iload_n dX12_setBoxSize_61 rfl rfl ?_
  refine g_put_State_boxSize dX12_setBoxSize_62 mw_218 hshp.1 (fun I62 hI62 => ?_)
  refine g_iload_n dX12_setBoxSize_65 rfl rfl ?_
  exact g_iret dX12_setBoxSize_66 rfl (by decide) (by decide) (by
      have hc0 : ((if ¬ (1 ≤ a ∧ a ≤ 50) then 1 else if 0 < sSum (fun l => W (1050 + l)) (W 1614).toNat 0 ∨ 0 < sumO W then 2 else 0) : Int) = 0 := by repeat (first | omega | split)
      have hcf : cFr G46 s I46 I62 A46 A46 := cFr.up (by rw [hshp.2.1]) (by decide) hI62
      obtain ⟨r1, r2⟩ := hI46.st hcf (W' := sU W 89 a) ⟨hW hc0, by rw [cu_167 hshp hI62]; exact ag.put hagp (by omega), evp, kqp, nqp, hevp, cE.of hEp h0p.2.2.2.2.2.2.2.2 (by rw [hI62, g_up_ne1 _ _ (by decide)]) (fun j a b => by rw [sU_ne _ _ (by omega)])⟩
      exact ⟨hc0, by rw [ar_167 hagp], G46, r1, hf46.trans r2⟩)
set_option maxHeartbeats 1000000 in
set_option maxRecDepth 100000 in
theorem k_A_setBoxSize (Y : gEnv) {K N : Nat → Nat} {I : Nat → Nat → Int} {A : Nat → Int → Int} {R : Nat → Nat → Option Nat} {Q : Nat → Int → Option Nat} {G : Nat → Nat × Int} {M : Nat → Prop} {x s h hq sc sg ar : Nat} {W SV T : Int → Int} {n len : Int} (hI : cI K N I A R Q G M x s h hq sc sg ar W n SV T len) (a : Int) (ha : (-2147483648 ≤ a ∧ a ≤ 2147483647)) (hW : ((if ¬ (1 ≤ a ∧ a ≤ 50) then 1 else if 0 < sSum (fun l => W (1050 + l)) (W 1614).toNat 0 ∨ 0 < sumO W then 2 else 0) : Int) = 0 → iN (sU W 89 a)) : gC Y yX12_setBoxSize cX12_setBoxSize 3 (some .int) ({ frames := 7, cells := 319, slots := 1969, locals := 184 } : Room) [.ref x, vi a] K N I A R Q (cOpP K N I A R Q M x s h hq sc sg ar (if ¬ (1 ≤ a ∧ a ≤ 50) then 1 else if 0 < sSum (fun l => W (1050 + l)) (W 1614).toNat 0 ∨ 0 < sumO W then 2 else 0) (vi (W 89)) (sU W 89 a) (sCnt n) (sSvd SV W n) (T) (len)) (cOpX K N I A R Q (if ¬ (1 ≤ a ∧ a ≤ 50) then 1 else if 0 < sSum (fun l => W (1050 + l)) (W 1614).toNat 0 ∨ 0 < sumO W then 2 else 0) [xAr, xSt]) := by
  refine gC_of (by decide) (Nat.le_of_ble_eq_true rfl) (fun X => ?_)
  obtain ⟨⟨x1, x2, x3, x4⟩, ⟨h1, h2, h3, h4, h5, h6, h7⟩, ⟨c1, c2, c3⟩, st, sv, hs, gg, hM⟩ := id hI
  obtain ⟨h0, hag, ev, kq, nq, hev, hE⟩ := id sv
  have hsh := st.1
  have hso : sSum (fun l => W (1450 + l)) (W 1615).toNat 0 = sumO W := rfl
  have hsb : 0 ≤ sSum (fun l => W (1050 + l)) (W 1614).toNat 0 := sSum_nnI (fun j a b => (h0.2.2.2.2.1.2.2.1 j a b).2.2.2.2.2.2.2.1)
  have hsu := h0.sums
  have hsb2 : sSum (fun l => W (1050 + l)) (W 1614).toNat 0 ≤ 1600000 := by
    have hle : sSum (fun l => W (1050 + l)) (W 1614).toNat 0 ≤ sumL W := sSum_leq _ _ (fun j a b => by
      obtain ⟨q1, q2, q3, q4, q5, q6, q7⟩ := h0.lot (l := j) a (by have := h0.2.2.2.2.1.1; omega)
      omega)
    have h12 := h0.2.2.2.2.2.2.1.2.2.2.2.2.2.1
    omega
  have h12 := h0.2.2.2.2.2.2.1.2.2.2.2.2.2.1
  refine g_iload_n dX12_setBoxSize_0 rfl rfl ?_
  refine g_iconst dX12_setBoxSize_1 ?_
  refine g_bipush dX12_setBoxSize_2 (by decide) ?_
  refine g_callSp (k_isWithin Y _ _ _ (by omega) (by omega) (by omega)) u_X12_isWithin mw_333 rfl dX12_setBoxSize_4 rfl rfl ⟨Nat.le_of_ble_eq_true rfl, Nat.le_of_ble_eq_true rfl⟩ ⟨Nat.le_of_ble_eq_true rfl, Nat.le_of_ble_eq_true rfl⟩ (Nat.le_of_ble_eq_true rfl) ?_
  refine g_callSXc (k_K_Argument Y _ (by first | omega | (split <;> omega))) u_X12_checkArgument mw_407 rfl dX12_setBoxSize_7 rfl rfl ⟨Nat.le_of_ble_eq_true rfl, Nat.le_of_ble_eq_true rfl⟩ ⟨Nat.le_of_ble_eq_true rfl, Nat.le_of_ble_eq_true rfl⟩ (Nat.le_of_ble_eq_true rfl) (by decide) (fun E hh => by
    obtain ⟨q1, q2⟩ := hh
    have hc : ((if ¬ (1 ≤ a ∧ a ≤ 50) then 1 else if 0 < sSum (fun l => W (1050 + l)) (W 1614).toNat 0 ∨ 0 < sumO W then 2 else 0) : Int) = 1 := by repeat (first | omega | split)
    exact ⟨by rw [hc]; decide, by rw [hc, q2]; rfl, cSame.rfl⟩) (fun h7 => ?_)
  refine g_aload_n dX12_setBoxSize_10 rfl rfl ?_
  refine g_get_TileFactory_state dX12_setBoxSize_11 mw_300 (by assumption) x2 ?_
  refine g_callVp (i := 8) rfl (gK0 hsh.1) (g_at8 hsh.1) (k_S_boxesInLots Y hsh hag h0) u_X10_boxesInLots mw_506 dX12_setBoxSize_14 rfl rfl ⟨Nat.le_of_ble_eq_true rfl, Nat.le_of_ble_eq_true rfl⟩ ⟨Nat.le_of_ble_eq_true rfl, Nat.le_of_ble_eq_true rfl⟩ (Nat.le_of_ble_eq_true rfl) ?_
  refine g_if_ne (tgt := 34) dX12_setBoxSize_17 (by decide) (by omega) (fun c_17 => ?_) (fun c_17 => ?_)
  · refine g_iconst dX12_setBoxSize_34 ?_
    exact jp_A_setBoxSize_35 hI a ha hW (by omega) _ (by repeat (first | omega | split))
  · refine g_aload_n dX12_setBoxSize_20 rfl rfl ?_
    refine g_get_TileFactory_state dX12_setBoxSize_21 mw_300 (by assumption) x2 ?_
    refine g_callVp (i := 8) rfl (gK0 hsh.1) (g_at8 hsh.1) (k_S_boxesOut Y hsh hag h0) u_X10_boxesOut mw_510 dX12_setBoxSize_24 rfl rfl ⟨Nat.le_of_ble_eq_true rfl, Nat.le_of_ble_eq_true rfl⟩ ⟨Nat.le_of_ble_eq_true rfl, Nat.le_of_ble_eq_true rfl⟩ (Nat.le_of_ble_eq_true rfl) ?_
    refine g_if_ne (tgt := 34) dX12_setBoxSize_27 (by decide) (by omega) (fun c_27 => ?_) (fun c_27 => ?_)
    · refine g_iconst dX12_setBoxSize_34 ?_
      exact jp_A_setBoxSize_35 hI a ha hW (by omega) _ (by repeat (first | omega | split))
    · refine g_iconst dX12_setBoxSize_30 ?_
      refine g_goto (tgt := 35) dX12_setBoxSize_31 (by decide) ?_
      exact jp_A_setBoxSize_35 hI a ha hW (by omega) _ (by repeat (first | omega | split))
set_option maxHeartbeats 1000000 in
set_option maxRecDepth 100000 in
theorem k_A_fire (Y : gEnv) {K N : Nat → Nat} {I : Nat → Nat → Int} {A : Nat → Int → Int} {R : Nat → Nat → Option Nat} {Q : Nat → Int → Option Nat} {G : Nat → Nat × Int} {M : Nat → Prop} {x s h hq sc sg ar : Nat} {W SV T : Int → Int} {n len : Int} (hI : cI K N I A R Q G M x s h hq sc sg ar W n SV T len) (a : Int) (ha : (-2147483648 ≤ a ∧ a ≤ 2147483647)) (b : Int) (hb : (-2147483648 ≤ b ∧ b ≤ 2147483647)) (c : Int) (hc : (-2147483648 ≤ c ∧ c ≤ 2147483647)) (d : Int) (hd : (-2147483648 ≤ d ∧ d ≤ 2147483647)) (hW : sFireT W a b c d = 0 → iN (sFire W a b c d)) : gC Y yX12_fire cX12_fire 5 (some .int) ({ frames := 8, cells := 320, slots := 1975, locals := 184 } : Room) [.ref x, vi a, vi b, vi c, vi d] K N I A R Q (cOpP K N I A R Q M x s h hq sc sg ar (sFireT W a b c d) (vi (sFireV W a d 8 0)) (sFire W a b c d) (sCnt n) (sSvd SV W n) (T) (len)) (cOpX K N I A R Q (sFireT W a b c d) [xIx, xAr, xSt]) := by
  refine gC_of (by decide) (Nat.le_of_ble_eq_true rfl) (fun X => ?_)
  obtain ⟨⟨x1, x2, x3, x4⟩, ⟨h1, h2, h3, h4, h5, h6, h7⟩, ⟨c1, c2, c3⟩, st, sv, hs, gg, hM⟩ := id hI
  obtain ⟨h0, hag, ev, kq, nq, hev, hE⟩ := id sv
  have hsh := st.1
  have rg := sFireT_range W a b c d
  refine g_aload_n dX12_fire_0 rfl rfl ?_
  refine g_get_TileFactory_state dX12_fire_1 mw_300 (by assumption) x2 ?_
  refine g_iload_n dX12_fire_4 rfl rfl ?_
  refine g_iload_n dX12_fire_5 rfl rfl ?_
  refine g_iload_n dX12_fire_6 rfl rfl ?_
  refine g_iload dX12_fire_7 rfl ?_
  refine g_callVp (i := 8) rfl (gK0 hsh.1) (g_at8 hsh.1) (k_S_fFire Y hsh hag h0 a b c d ha hb hc hd) u_X10_faultOfFiring mw_541 dX12_fire_9 rfl rfl ⟨Nat.le_of_ble_eq_true rfl, Nat.le_of_ble_eq_true rfl⟩ ⟨Nat.le_of_ble_eq_true rfl, Nat.le_of_ble_eq_true rfl⟩ (Nat.le_of_ble_eq_true rfl) ?_
  refine g_callSXc (k_K_refuse Y ((sFireT W a b c d)) (by have := rg; omega)) u_X12_refuse mw_559 rfl dX12_fire_12 rfl rfl ⟨Nat.le_of_ble_eq_true rfl, Nat.le_of_ble_eq_true rfl⟩ ⟨Nat.le_of_ble_eq_true rfl, Nat.le_of_ble_eq_true rfl⟩ (Nat.le_of_ble_eq_true rfl) (by decide) (fun E hh => by
    have hT : (sFireT W a b c d) = 0 ∨ (sFireT W a b c d) = 1 ∨ (sFireT W a b c d) = 2 ∨ (sFireT W a b c d) = 3 := by omega
    obtain ⟨q, qs⟩ : ∃ q : Int, q = (sFireT W a b c d) := ⟨_, rfl⟩
    rw [← qs] at hh hT ⊢
    rcases hT with e | e | e | e <;> subst e <;> rcases hh with ⟨q1, q2⟩ | ⟨q1, q2⟩ | ⟨q1, q2⟩ <;> first | exact absurd q1 (by decide) | (exfalso; omega) | exact ⟨by decide, q2, cSame.rfl⟩) (fun h12 => ?_)
  have hc0 : sFireT W a b c d = 0 := h12
  have hok := rg.2.2 hc0
  refine g_aload_n dX12_fire_15 rfl rfl ?_
  refine g_get_TileFactory_history dX12_fire_16 mw_301 (by assumption) x3 ?_
  refine g_aload_n dX12_fire_19 rfl rfl ?_
  refine g_get_TileFactory_state dX12_fire_20 mw_300 (by assumption) x2 ?_
  refine g_callV (i := 3) rfl (gK0 h1) (g_at3 h1) (k_H_save Y hI) u_X5_save mw_426 dX12_fire_23 rfl rfl ⟨Nat.le_of_ble_eq_true rfl, Nat.le_of_ble_eq_true rfl⟩ ⟨Nat.le_of_ble_eq_true rfl, Nat.le_of_ble_eq_true rfl⟩ (Nat.le_of_ble_eq_true rfl) (fun v23 K23 N23 I23 A23 R23 Q23 h23 => ?_)
  obtain ⟨rfl, G23, hI23, hf23⟩ := h23
  obtain ⟨⟨x1p, x2p, x3p, x4p⟩, ⟨h1p, h2p, h3p, h4p, h5p, h6p, h7p⟩, ⟨c1p, c2p, c3p⟩, stp, svp, hsp, ggp, hMp⟩ := id hI23
  obtain ⟨h0p, hagp, evp, kqp, nqp, hevp, hEp⟩ := id svp
  have hshp := stp.1
  refine g_aload_n dX12_fire_26 rfl rfl ?_
  refine g_get_TileFactory_state dX12_fire_27 mw_300 (by assumption) x2p ?_
  refine g_iload_n dX12_fire_30 rfl rfl ?_
  refine g_iload_n dX12_fire_31 rfl rfl ?_
  refine g_iload_n dX12_fire_32 rfl rfl ?_
  refine g_iload dX12_fire_33 rfl ?_
  refine g_callVw (i := 8) rfl (gK0 hshp.1) (g_at8 hshp.1) (k_S_makeFiring Y hshp hagp hevp hEp stp.2.1 h0p a b c d (by omega) (by omega) (by omega) (by omega) (by have := h0p.2.2.2.2.2.2.1.2.2.2.2.2.1; omega)) u_X10_makeFiring mw_565 dX12_fire_35 rfl rfl ⟨Nat.le_of_ble_eq_true rfl, Nat.le_of_ble_eq_true rfl⟩ ⟨Nat.le_of_ble_eq_true rfl, Nat.le_of_ble_eq_true rfl⟩ (Nat.le_of_ble_eq_true rfl) (fun v35 I35 A35 h35 => ?_)
  obtain ⟨rfl, p1, p2, p3⟩ := h35
  exact g_iret dX12_fire_38 rfl (by decide) (by decide) (by
      obtain ⟨r1, r2⟩ := hI23.st p1 (W' := sFire W a b c d) ⟨hW hc0, p2, evp, kqp, nqp, hevp, p3⟩
      exact ⟨hc0, rfl, G23, r1, hf23.trans r2⟩)
set_option maxHeartbeats 1000000 in
set_option maxRecDepth 100000 in
theorem k_A_grade (Y : gEnv) {K N : Nat → Nat} {I : Nat → Nat → Int} {A : Nat → Int → Int} {R : Nat → Nat → Option Nat} {Q : Nat → Int → Option Nat} {G : Nat → Nat × Int} {M : Nat → Prop} {x s h hq sc sg ar : Nat} {W SV T : Int → Int} {n len : Int} (hI : cI K N I A R Q G M x s h hq sc sg ar W n SV T len) (a : Int) (ha : (-2147483648 ≤ a ∧ a ≤ 2147483647)) (hz : iZ W) (hW : sGradeT W a = 0 → iN (sGrade W a)) : gC Y yX12_grade cX12_grade 2 (some .int) ({ frames := 8, cells := 320, slots := 1975, locals := 184 } : Room) [.ref x, vi a] K N I A R Q (cOpP K N I A R Q M x s h hq sc sg ar (sGradeT W a) (vi (sGrV W a (W 1613).toNat 0)) (sGrade W a) (sCnt n) (sSvd SV W n) (T) (len)) (cOpX K N I A R Q (sGradeT W a) [xAr, xSt]) := by
  refine gC_of (by decide) (Nat.le_of_ble_eq_true rfl) (fun X => ?_)
  obtain ⟨⟨x1, x2, x3, x4⟩, ⟨h1, h2, h3, h4, h5, h6, h7⟩, ⟨c1, c2, c3⟩, st, sv, hs, gg, hM⟩ := id hI
  obtain ⟨h0, hag, ev, kq, nq, hev, hE⟩ := id sv
  have hsh := st.1
  have rg := cGradeT_range W a
  refine g_aload_n dX12_grade_0 rfl rfl ?_
  refine g_get_TileFactory_state dX12_grade_1 mw_300 (by assumption) x2 ?_
  refine g_iload_n dX12_grade_4 rfl rfl ?_
  refine g_callVp (i := 8) rfl (gK0 hsh.1) (g_at8 hsh.1) (k_S_fGrade Y hsh hag h0.2.2.2.1 a ha) u_X10_faultOfGrading mw_622 dX12_grade_5 rfl rfl ⟨Nat.le_of_ble_eq_true rfl, Nat.le_of_ble_eq_true rfl⟩ ⟨Nat.le_of_ble_eq_true rfl, Nat.le_of_ble_eq_true rfl⟩ (Nat.le_of_ble_eq_true rfl) ?_
  refine g_callSXc (k_K_refuse Y (cGradeF (sGradeT W a)) (by have := rg; unfold cGradeF; split <;> omega)) u_X12_refuse mw_559 rfl dX12_grade_8 rfl rfl ⟨Nat.le_of_ble_eq_true rfl, Nat.le_of_ble_eq_true rfl⟩ ⟨Nat.le_of_ble_eq_true rfl, Nat.le_of_ble_eq_true rfl⟩ (Nat.le_of_ble_eq_true rfl) (by decide) (fun E hh => by
    have hT : (sGradeT W a) = 0 ∨ (sGradeT W a) = 1 ∨ (sGradeT W a) = 2 ∨ (sGradeT W a) = 3 := by omega
    obtain ⟨q, qs⟩ : ∃ q : Int, q = (sGradeT W a) := ⟨_, rfl⟩
    rw [← qs] at hh hT ⊢
    rcases hT with e | e | e | e <;> subst e <;> rcases hh with ⟨q1, q2⟩ | ⟨q1, q2⟩ | ⟨q1, q2⟩ <;> first | exact absurd q1 (by decide) | (exfalso; omega) | exact ⟨by decide, q2, cSame.rfl⟩) (fun h8 => ?_)
  have hc0 : sGradeT W a = 0 := cGradeF_zero rg.1 h8
  have hok := rg.2.2 hc0
  refine g_aload_n dX12_grade_11 rfl rfl ?_
  refine g_get_TileFactory_history dX12_grade_12 mw_301 (by assumption) x3 ?_
  refine g_aload_n dX12_grade_15 rfl rfl ?_
  refine g_get_TileFactory_state dX12_grade_16 mw_300 (by assumption) x2 ?_
  refine g_callV (i := 3) rfl (gK0 h1) (g_at3 h1) (k_H_save Y hI) u_X5_save mw_426 dX12_grade_19 rfl rfl ⟨Nat.le_of_ble_eq_true rfl, Nat.le_of_ble_eq_true rfl⟩ ⟨Nat.le_of_ble_eq_true rfl, Nat.le_of_ble_eq_true rfl⟩ (Nat.le_of_ble_eq_true rfl) (fun v19 K19 N19 I19 A19 R19 Q19 h19 => ?_)
  obtain ⟨rfl, G19, hI19, hf19⟩ := h19
  obtain ⟨⟨x1p, x2p, x3p, x4p⟩, ⟨h1p, h2p, h3p, h4p, h5p, h6p, h7p⟩, ⟨c1p, c2p, c3p⟩, stp, svp, hsp, ggp, hMp⟩ := id hI19
  obtain ⟨h0p, hagp, evp, kqp, nqp, hevp, hEp⟩ := id svp
  have hshp := stp.1
  refine g_aload_n dX12_grade_22 rfl rfl ?_
  refine g_get_TileFactory_state dX12_grade_23 mw_300 (by assumption) x2p ?_
  refine g_iload_n dX12_grade_26 rfl rfl ?_
  refine g_callVw (i := 8) rfl (gK0 hshp.1) (g_at8 hshp.1) (k_S_gradeBench Y hshp hagp hevp hEp h0p a (by omega) hz) u_X10_gradeBench mw_626 dX12_grade_27 rfl rfl ⟨Nat.le_of_ble_eq_true rfl, Nat.le_of_ble_eq_true rfl⟩ ⟨Nat.le_of_ble_eq_true rfl, Nat.le_of_ble_eq_true rfl⟩ (Nat.le_of_ble_eq_true rfl) (fun v27 I27 A27 h27 => ?_)
  obtain ⟨rfl, p1, p2, p3⟩ := h27
  exact g_iret dX12_grade_30 rfl (by decide) (by decide) (by
      obtain ⟨r1, r2⟩ := hI19.st p1 (W' := sGrade W a) ⟨hW hc0, p2, evp, kqp, nqp, hevp, p3⟩
      exact ⟨hc0, rfl, G19, r1, hf19.trans r2⟩)
set_option maxHeartbeats 1000000 in
set_option maxRecDepth 100000 in
theorem k_A_deliver (Y : gEnv) {K N : Nat → Nat} {I : Nat → Nat → Int} {A : Nat → Int → Int} {R : Nat → Nat → Option Nat} {Q : Nat → Int → Option Nat} {G : Nat → Nat × Int} {M : Nat → Prop} {x s h hq sc sg ar : Nat} {W SV T : Int → Int} {n len : Int} (hI : cI K N I A R Q G M x s h hq sc sg ar W n SV T len) (a : Int) (ha : (-2147483648 ≤ a ∧ a ≤ 2147483647)) (b : Int) (hb : (-2147483648 ≤ b ∧ b ≤ 2147483647)) (c : Int) (hc : (-2147483648 ≤ c ∧ c ≤ 2147483647)) (hW : sDeliverT W a b c = 0 → iN (sDel W a b c)) : gC Y yX12_deliver cX12_deliver 4 (some .int) ({ frames := 8, cells := 320, slots := 1975, locals := 184 } : Room) [.ref x, vi a, vi b, vi c] K N I A R Q (cOpP K N I A R Q M x s h hq sc sg ar (sDeliverT W a b c) (vi (W 1615)) (sDel W a b c) (sCnt n) (sSvd SV W n) (T) (len)) (cOpX K N I A R Q (sDeliverT W a b c) [xIx, xAr, xSt]) := by
  refine gC_of (by decide) (Nat.le_of_ble_eq_true rfl) (fun X => ?_)
  obtain ⟨⟨x1, x2, x3, x4⟩, ⟨h1, h2, h3, h4, h5, h6, h7⟩, ⟨c1, c2, c3⟩, st, sv, hs, gg, hM⟩ := id hI
  obtain ⟨h0, hag, ev, kq, nq, hev, hE⟩ := id sv
  have hsh := st.1
  have rg := sDeliverT_range W a b c
  refine g_aload_n dX12_deliver_0 rfl rfl ?_
  refine g_get_TileFactory_state dX12_deliver_1 mw_300 (by assumption) x2 ?_
  refine g_iload_n dX12_deliver_4 rfl rfl ?_
  refine g_iload_n dX12_deliver_5 rfl rfl ?_
  refine g_iload_n dX12_deliver_6 rfl rfl ?_
  refine g_callVp (i := 8) rfl (gK0 hsh.1) (g_at8 hsh.1) (k_S_fDeliver Y hsh hag h0 a b c ha hb hc) u_X10_faultOfDelivery mw_673 dX12_deliver_7 rfl rfl ⟨Nat.le_of_ble_eq_true rfl, Nat.le_of_ble_eq_true rfl⟩ ⟨Nat.le_of_ble_eq_true rfl, Nat.le_of_ble_eq_true rfl⟩ (Nat.le_of_ble_eq_true rfl) ?_
  refine g_callSXc (k_K_refuse Y ((sDeliverT W a b c)) (by have := rg; omega)) u_X12_refuse mw_559 rfl dX12_deliver_10 rfl rfl ⟨Nat.le_of_ble_eq_true rfl, Nat.le_of_ble_eq_true rfl⟩ ⟨Nat.le_of_ble_eq_true rfl, Nat.le_of_ble_eq_true rfl⟩ (Nat.le_of_ble_eq_true rfl) (by decide) (fun E hh => by
    have hT : (sDeliverT W a b c) = 0 ∨ (sDeliverT W a b c) = 1 ∨ (sDeliverT W a b c) = 2 ∨ (sDeliverT W a b c) = 3 := by omega
    obtain ⟨q, qs⟩ : ∃ q : Int, q = (sDeliverT W a b c) := ⟨_, rfl⟩
    rw [← qs] at hh hT ⊢
    rcases hT with e | e | e | e <;> subst e <;> rcases hh with ⟨q1, q2⟩ | ⟨q1, q2⟩ | ⟨q1, q2⟩ <;> first | exact absurd q1 (by decide) | (exfalso; omega) | exact ⟨by decide, q2, cSame.rfl⟩) (fun h10 => ?_)
  have hc0 : sDeliverT W a b c = 0 := h10
  have hok := rg.2.2 hc0
  have hlf := (sLotFor_range h0.2.2.2.2.1.1 a b c).resolve_left (by omega)
  refine g_aload_n dX12_deliver_13 rfl rfl ?_
  refine g_get_TileFactory_history dX12_deliver_14 mw_301 (by assumption) x3 ?_
  refine g_aload_n dX12_deliver_17 rfl rfl ?_
  refine g_get_TileFactory_state dX12_deliver_18 mw_300 (by assumption) x2 ?_
  refine g_callV (i := 3) rfl (gK0 h1) (g_at3 h1) (k_H_save Y hI) u_X5_save mw_426 dX12_deliver_21 rfl rfl ⟨Nat.le_of_ble_eq_true rfl, Nat.le_of_ble_eq_true rfl⟩ ⟨Nat.le_of_ble_eq_true rfl, Nat.le_of_ble_eq_true rfl⟩ (Nat.le_of_ble_eq_true rfl) (fun v21 K21 N21 I21 A21 R21 Q21 h21 => ?_)
  obtain ⟨rfl, G21, hI21, hf21⟩ := h21
  obtain ⟨⟨x1p, x2p, x3p, x4p⟩, ⟨h1p, h2p, h3p, h4p, h5p, h6p, h7p⟩, ⟨c1p, c2p, c3p⟩, stp, svp, hsp, ggp, hMp⟩ := id hI21
  obtain ⟨h0p, hagp, evp, kqp, nqp, hevp, hEp⟩ := id svp
  have hshp := stp.1
  refine g_aload_n dX12_deliver_24 rfl rfl ?_
  refine g_get_TileFactory_state dX12_deliver_25 mw_300 (by assumption) x2p ?_
  refine g_iload_n dX12_deliver_28 rfl rfl ?_
  refine g_iload_n dX12_deliver_29 rfl rfl ?_
  refine g_iload_n dX12_deliver_30 rfl rfl ?_
  refine g_callVw (i := 8) rfl (gK0 hshp.1) (g_at8 hshp.1) (k_S_makeDelivery Y hshp hagp hevp hEp h0p a b c (by omega) (by omega) (by omega) (by have := h0p.2.2.2.2.2.1.2.1; omega) hlf) u_X10_makeDelivery mw_691 dX12_deliver_31 rfl rfl ⟨Nat.le_of_ble_eq_true rfl, Nat.le_of_ble_eq_true rfl⟩ ⟨Nat.le_of_ble_eq_true rfl, Nat.le_of_ble_eq_true rfl⟩ (Nat.le_of_ble_eq_true rfl) (fun v31 I31 A31 h31 => ?_)
  obtain ⟨rfl, p1, p2, p3⟩ := h31
  exact g_iret dX12_deliver_34 rfl (by decide) (by decide) (by
      obtain ⟨r1, r2⟩ := hI21.st p1 (W' := sDel W a b c) ⟨hW hc0, p2, evp, kqp, nqp, hevp, p3⟩
      exact ⟨hc0, rfl, G21, r1, hf21.trans r2⟩)
set_option maxHeartbeats 1000000 in
set_option maxRecDepth 100000 in
theorem k_A_drop (Y : gEnv) {K N : Nat → Nat} {I : Nat → Nat → Int} {A : Nat → Int → Int} {R : Nat → Nat → Option Nat} {Q : Nat → Int → Option Nat} {G : Nat → Nat × Int} {M : Nat → Prop} {x s h hq sc sg ar : Nat} {W SV T : Int → Int} {n len : Int} (hI : cI K N I A R Q G M x s h hq sc sg ar W n SV T len) (a : Int) (ha : (-2147483648 ≤ a ∧ a ≤ 2147483647)) (b : Int) (hb : (-2147483648 ≤ b ∧ b ≤ 2147483647)) (c : Int) (hc : (-2147483648 ≤ c ∧ c ≤ 2147483647)) (d : Int) (hd : (-2147483648 ≤ d ∧ d ≤ 2147483647)) (hW : sDropT W a b c d = 0 → iN (sDrop W a b c d)) : gC Y yX12_drop cX12_drop 5 (some .int) ({ frames := 8, cells := 320, slots := 1975, locals := 189 } : Room) [.ref x, vi a, vi b, vi c, vi d] K N I A R Q (cOpP K N I A R Q M x s h hq sc sg ar (sDropT W a b c d) (vi (W (1050 + sFind W a b c) - 1)) (sDrop W a b c d) (sCnt n) (sSvd SV W n) (T) (len)) (cOpX K N I A R Q (sDropT W a b c d) [xIx, xAr, xSt]) := by
  refine gC_of (by decide) (Nat.le_of_ble_eq_true rfl) (fun X => ?_)
  obtain ⟨⟨x1, x2, x3, x4⟩, ⟨h1, h2, h3, h4, h5, h6, h7⟩, ⟨c1, c2, c3⟩, st, sv, hs, gg, hM⟩ := id hI
  obtain ⟨h0, hag, ev, kq, nq, hev, hE⟩ := id sv
  have hsh := st.1
  have rg := sDropT_range W a b c d
  refine g_aload_n dX12_drop_0 rfl rfl ?_
  refine g_get_TileFactory_state dX12_drop_1 mw_300 (by assumption) x2 ?_
  refine g_iload_n dX12_drop_4 rfl rfl ?_
  refine g_iload_n dX12_drop_5 rfl rfl ?_
  refine g_iload_n dX12_drop_6 rfl rfl ?_
  refine g_iload dX12_drop_7 rfl ?_
  refine g_callVp (i := 8) rfl (gK0 hsh.1) (g_at8 hsh.1) (k_S_fDrop Y hsh hag h0 a b c d ha hb hc hd) u_X10_faultOfDropping mw_731 dX12_drop_9 rfl rfl ⟨Nat.le_of_ble_eq_true rfl, Nat.le_of_ble_eq_true rfl⟩ ⟨Nat.le_of_ble_eq_true rfl, Nat.le_of_ble_eq_true rfl⟩ (Nat.le_of_ble_eq_true rfl) ?_
  refine g_callSXc (k_K_refuse Y ((sDropT W a b c d)) (by have := rg; omega)) u_X12_refuse mw_559 rfl dX12_drop_12 rfl rfl ⟨Nat.le_of_ble_eq_true rfl, Nat.le_of_ble_eq_true rfl⟩ ⟨Nat.le_of_ble_eq_true rfl, Nat.le_of_ble_eq_true rfl⟩ (Nat.le_of_ble_eq_true rfl) (by decide) (fun E hh => by
    have hT : (sDropT W a b c d) = 0 ∨ (sDropT W a b c d) = 1 ∨ (sDropT W a b c d) = 2 ∨ (sDropT W a b c d) = 3 := by omega
    obtain ⟨q, qs⟩ : ∃ q : Int, q = (sDropT W a b c d) := ⟨_, rfl⟩
    rw [← qs] at hh hT ⊢
    rcases hT with e | e | e | e <;> subst e <;> rcases hh with ⟨q1, q2⟩ | ⟨q1, q2⟩ | ⟨q1, q2⟩ <;> first | exact absurd q1 (by decide) | (exfalso; omega) | exact ⟨by decide, q2, cSame.rfl⟩) (fun h12 => ?_)
  have hc0 : sDropT W a b c d = 0 := h12
  have hok := rg.2.2 hc0
  have hlf := (sFind_range h0.2.2.2.2.1.1 a b c).resolve_left (by omega)
  refine g_aload_n dX12_drop_15 rfl rfl ?_
  refine g_get_TileFactory_history dX12_drop_16 mw_301 (by assumption) x3 ?_
  refine g_aload_n dX12_drop_19 rfl rfl ?_
  refine g_get_TileFactory_state dX12_drop_20 mw_300 (by assumption) x2 ?_
  refine g_callV (i := 3) rfl (gK0 h1) (g_at3 h1) (k_H_save Y hI) u_X5_save mw_426 dX12_drop_23 rfl rfl ⟨Nat.le_of_ble_eq_true rfl, Nat.le_of_ble_eq_true rfl⟩ ⟨Nat.le_of_ble_eq_true rfl, Nat.le_of_ble_eq_true rfl⟩ (Nat.le_of_ble_eq_true rfl) (fun v23 K23 N23 I23 A23 R23 Q23 h23 => ?_)
  obtain ⟨rfl, G23, hI23, hf23⟩ := h23
  obtain ⟨⟨x1p, x2p, x3p, x4p⟩, ⟨h1p, h2p, h3p, h4p, h5p, h6p, h7p⟩, ⟨c1p, c2p, c3p⟩, stp, svp, hsp, ggp, hMp⟩ := id hI23
  obtain ⟨h0p, hagp, evp, kqp, nqp, hevp, hEp⟩ := id svp
  have hshp := stp.1
  refine g_aload_n dX12_drop_26 rfl rfl ?_
  refine g_get_TileFactory_state dX12_drop_27 mw_300 (by assumption) x2p ?_
  refine g_iload_n dX12_drop_30 rfl rfl ?_
  refine g_iload_n dX12_drop_31 rfl rfl ?_
  refine g_iload_n dX12_drop_32 rfl rfl ?_
  refine g_iload dX12_drop_33 rfl ?_
  refine g_callVw (i := 8) rfl (gK0 hshp.1) (g_at8 hshp.1) (k_S_dropBox Y hshp hagp hevp hEp h0p a b c d ha hb hc (by omega) ⟨hlf.1, hlf.2.1⟩ (by omega)) u_X10_dropBox mw_735 dX12_drop_35 rfl rfl ⟨Nat.le_of_ble_eq_true rfl, Nat.le_of_ble_eq_true rfl⟩ ⟨Nat.le_of_ble_eq_true rfl, Nat.le_of_ble_eq_true rfl⟩ (Nat.le_of_ble_eq_true rfl) (fun v35 I35 A35 h35 => ?_)
  obtain ⟨rfl, p1, p2, p3⟩ := h35
  exact g_iret dX12_drop_38 rfl (by decide) (by decide) (by
      obtain ⟨r1, r2⟩ := hI23.st p1 (W' := sDrop W a b c d) ⟨hW hc0, p2, evp, kqp, nqp, hevp, p3⟩
      exact ⟨hc0, rfl, G23, r1, hf23.trans r2⟩)
set_option maxHeartbeats 1000000 in
set_option maxRecDepth 100000 in
theorem k_A_takeBack (Y : gEnv) {K N : Nat → Nat} {I : Nat → Nat → Int} {A : Nat → Int → Int} {R : Nat → Nat → Option Nat} {Q : Nat → Int → Option Nat} {G : Nat → Nat × Int} {M : Nat → Prop} {x s h hq sc sg ar : Nat} {W SV T : Int → Int} {n len : Int} (hI : cI K N I A R Q G M x s h hq sc sg ar W n SV T len) (a : Int) (ha : (-2147483648 ≤ a ∧ a ≤ 2147483647)) (b : Int) (hb : (-2147483648 ≤ b ∧ b ≤ 2147483647)) (c : Int) (hc : (-2147483648 ≤ c ∧ c ≤ 2147483647)) (hW : sTakeT W a b c = 0 → iN (sTake W a b c)) : gC Y yX12_takeBack cX12_takeBack 4 (some .int) ({ frames := 8, cells := 320, slots := 1975, locals := 187 } : Room) [.ref x, vi a, vi b, vi c] K N I A R Q (cOpP K N I A R Q M x s h hq sc sg ar (sTakeT W a b c) (vi (W (1450 + a) - b)) (sTake W a b c) (sCnt n) (sSvd SV W n) (T) (len)) (cOpX K N I A R Q (sTakeT W a b c) [xIx, xAr, xSt]) := by
  refine gC_of (by decide) (Nat.le_of_ble_eq_true rfl) (fun X => ?_)
  obtain ⟨⟨x1, x2, x3, x4⟩, ⟨h1, h2, h3, h4, h5, h6, h7⟩, ⟨c1, c2, c3⟩, st, sv, hs, gg, hM⟩ := id hI
  obtain ⟨h0, hag, ev, kq, nq, hev, hE⟩ := id sv
  have hsh := st.1
  have rg := cTakeT_range W a b c
  refine g_aload_n dX12_takeBack_0 rfl rfl ?_
  refine g_get_TileFactory_state dX12_takeBack_1 mw_300 (by assumption) x2 ?_
  refine g_iload_n dX12_takeBack_4 rfl rfl ?_
  refine g_iload_n dX12_takeBack_5 rfl rfl ?_
  refine g_iload_n dX12_takeBack_6 rfl rfl ?_
  refine g_callVp (i := 8) rfl (gK0 hsh.1) (g_at8 hsh.1) (k_S_fTake Y hsh hag h0 a b c ha hb hc) u_X10_faultOfReturn mw_751 dX12_takeBack_7 rfl rfl ⟨Nat.le_of_ble_eq_true rfl, Nat.le_of_ble_eq_true rfl⟩ ⟨Nat.le_of_ble_eq_true rfl, Nat.le_of_ble_eq_true rfl⟩ (Nat.le_of_ble_eq_true rfl) ?_
  refine g_callSXc (k_K_refuse Y ((sTakeT W a b c)) (by have := rg; omega)) u_X12_refuse mw_559 rfl dX12_takeBack_10 rfl rfl ⟨Nat.le_of_ble_eq_true rfl, Nat.le_of_ble_eq_true rfl⟩ ⟨Nat.le_of_ble_eq_true rfl, Nat.le_of_ble_eq_true rfl⟩ (Nat.le_of_ble_eq_true rfl) (by decide) (fun E hh => by
    have hT : (sTakeT W a b c) = 0 ∨ (sTakeT W a b c) = 1 ∨ (sTakeT W a b c) = 2 ∨ (sTakeT W a b c) = 3 := by omega
    obtain ⟨q, qs⟩ : ∃ q : Int, q = (sTakeT W a b c) := ⟨_, rfl⟩
    rw [← qs] at hh hT ⊢
    rcases hT with e | e | e | e <;> subst e <;> rcases hh with ⟨q1, q2⟩ | ⟨q1, q2⟩ | ⟨q1, q2⟩ <;> first | exact absurd q1 (by decide) | (exfalso; omega) | exact ⟨by decide, q2, cSame.rfl⟩) (fun h10 => ?_)
  have hc0 : sTakeT W a b c = 0 := h10
  have hok := rg.2.2 hc0
  refine g_aload_n dX12_takeBack_13 rfl rfl ?_
  refine g_get_TileFactory_history dX12_takeBack_14 mw_301 (by assumption) x3 ?_
  refine g_aload_n dX12_takeBack_17 rfl rfl ?_
  refine g_get_TileFactory_state dX12_takeBack_18 mw_300 (by assumption) x2 ?_
  refine g_callV (i := 3) rfl (gK0 h1) (g_at3 h1) (k_H_save Y hI) u_X5_save mw_426 dX12_takeBack_21 rfl rfl ⟨Nat.le_of_ble_eq_true rfl, Nat.le_of_ble_eq_true rfl⟩ ⟨Nat.le_of_ble_eq_true rfl, Nat.le_of_ble_eq_true rfl⟩ (Nat.le_of_ble_eq_true rfl) (fun v21 K21 N21 I21 A21 R21 Q21 h21 => ?_)
  obtain ⟨rfl, G21, hI21, hf21⟩ := h21
  obtain ⟨⟨x1p, x2p, x3p, x4p⟩, ⟨h1p, h2p, h3p, h4p, h5p, h6p, h7p⟩, ⟨c1p, c2p, c3p⟩, stp, svp, hsp, ggp, hMp⟩ := id hI21
  obtain ⟨h0p, hagp, evp, kqp, nqp, hevp, hEp⟩ := id svp
  have hshp := stp.1
  refine g_aload_n dX12_takeBack_24 rfl rfl ?_
  refine g_get_TileFactory_state dX12_takeBack_25 mw_300 (by assumption) x2p ?_
  refine g_iload_n dX12_takeBack_28 rfl rfl ?_
  refine g_iload_n dX12_takeBack_29 rfl rfl ?_
  refine g_iload_n dX12_takeBack_30 rfl rfl ?_
  refine g_callVw (i := 8) rfl (gK0 hshp.1) (g_at8 hshp.1) (k_S_openReturned Y hshp hagp hevp hEp h0p a b c (by omega) (by omega) (by omega)) u_X10_openReturned mw_759 dX12_takeBack_31 rfl rfl ⟨Nat.le_of_ble_eq_true rfl, Nat.le_of_ble_eq_true rfl⟩ ⟨Nat.le_of_ble_eq_true rfl, Nat.le_of_ble_eq_true rfl⟩ (Nat.le_of_ble_eq_true rfl) (fun v31 I31 A31 h31 => ?_)
  obtain ⟨rfl, p1, p2, p3⟩ := h31
  exact g_iret dX12_takeBack_34 rfl (by decide) (by decide) (by
      obtain ⟨r1, r2⟩ := hI21.st p1 (W' := sTake W a b c) ⟨hW hc0, p2, evp, kqp, nqp, hevp, p3⟩
      exact ⟨hc0, rfl, G21, r1, hf21.trans r2⟩)
set_option maxHeartbeats 1000000 in
set_option maxRecDepth 100000 in
theorem k_A_replace (Y : gEnv) {K N : Nat → Nat} {I : Nat → Nat → Int} {A : Nat → Int → Int} {R : Nat → Nat → Option Nat} {Q : Nat → Int → Option Nat} {G : Nat → Nat × Int} {M : Nat → Prop} {x s h hq sc sg ar : Nat} {W SV T : Int → Int} {n len : Int} (hI : cI K N I A R Q G M x s h hq sc sg ar W n SV T len) (a : Int) (ha : (-2147483648 ≤ a ∧ a ≤ 2147483647)) (hW : sReplT W a = 0 → iN (sRepl W a)) : gC Y yX12_replace cX12_replace 2 (some .int) ({ frames := 8, cells := 320, slots := 1975, locals := 187 } : Room) [.ref x, vi a] K N I A R Q (cOpP K N I A R Q M x s h hq sc sg ar (sReplT W a) (vi (W (1490 + a))) (sRepl W a) (sCnt n) (sSvd SV W n) (T) (len)) (cOpX K N I A R Q (sReplT W a) [xIx, xSt]) := by
  refine gC_of (by decide) (Nat.le_of_ble_eq_true rfl) (fun X => ?_)
  obtain ⟨⟨x1, x2, x3, x4⟩, ⟨h1, h2, h3, h4, h5, h6, h7⟩, ⟨c1, c2, c3⟩, st, sv, hs, gg, hM⟩ := id hI
  obtain ⟨h0, hag, ev, kq, nq, hev, hE⟩ := id sv
  have hsh := st.1
  have rg := cReplT_range W a
  refine g_aload_n dX12_replace_0 rfl rfl ?_
  refine g_get_TileFactory_state dX12_replace_1 mw_300 (by assumption) x2 ?_
  refine g_iload_n dX12_replace_4 rfl rfl ?_
  refine g_callVp (i := 8) rfl (gK0 hsh.1) (g_at8 hsh.1) (k_S_fRepl Y hsh hag h0 a ha) u_X10_faultOfReplacing mw_770 dX12_replace_5 rfl rfl ⟨Nat.le_of_ble_eq_true rfl, Nat.le_of_ble_eq_true rfl⟩ ⟨Nat.le_of_ble_eq_true rfl, Nat.le_of_ble_eq_true rfl⟩ (Nat.le_of_ble_eq_true rfl) ?_
  refine g_callSXc (k_K_refuse Y (cReplF (sReplT W a)) (by have := rg; unfold cReplF; split <;> omega)) u_X12_refuse mw_559 rfl dX12_replace_8 rfl rfl ⟨Nat.le_of_ble_eq_true rfl, Nat.le_of_ble_eq_true rfl⟩ ⟨Nat.le_of_ble_eq_true rfl, Nat.le_of_ble_eq_true rfl⟩ (Nat.le_of_ble_eq_true rfl) (by decide) (fun E hh => by
    have hT : (sReplT W a) = 0 ∨ (sReplT W a) = 1 ∨ (sReplT W a) = 2 ∨ (sReplT W a) = 3 := by omega
    obtain ⟨q, qs⟩ : ∃ q : Int, q = (sReplT W a) := ⟨_, rfl⟩
    rw [← qs] at hh hT ⊢
    rcases hT with e | e | e | e <;> subst e <;> rcases hh with ⟨q1, q2⟩ | ⟨q1, q2⟩ | ⟨q1, q2⟩ <;> first | exact absurd q1 (by decide) | (exfalso; omega) | exact ⟨by decide, q2, cSame.rfl⟩) (fun h8 => ?_)
  have hc0 : sReplT W a = 0 := cReplF_zero h8
  have hok := rg.2.2 hc0
  refine g_aload_n dX12_replace_11 rfl rfl ?_
  refine g_get_TileFactory_history dX12_replace_12 mw_301 (by assumption) x3 ?_
  refine g_aload_n dX12_replace_15 rfl rfl ?_
  refine g_get_TileFactory_state dX12_replace_16 mw_300 (by assumption) x2 ?_
  refine g_callV (i := 3) rfl (gK0 h1) (g_at3 h1) (k_H_save Y hI) u_X5_save mw_426 dX12_replace_19 rfl rfl ⟨Nat.le_of_ble_eq_true rfl, Nat.le_of_ble_eq_true rfl⟩ ⟨Nat.le_of_ble_eq_true rfl, Nat.le_of_ble_eq_true rfl⟩ (Nat.le_of_ble_eq_true rfl) (fun v19 K19 N19 I19 A19 R19 Q19 h19 => ?_)
  obtain ⟨rfl, G19, hI19, hf19⟩ := h19
  obtain ⟨⟨x1p, x2p, x3p, x4p⟩, ⟨h1p, h2p, h3p, h4p, h5p, h6p, h7p⟩, ⟨c1p, c2p, c3p⟩, stp, svp, hsp, ggp, hMp⟩ := id hI19
  obtain ⟨h0p, hagp, evp, kqp, nqp, hevp, hEp⟩ := id svp
  have hshp := stp.1
  refine g_aload_n dX12_replace_22 rfl rfl ?_
  refine g_get_TileFactory_state dX12_replace_23 mw_300 (by assumption) x2p ?_
  refine g_iload_n dX12_replace_26 rfl rfl ?_
  refine g_callVw (i := 8) rfl (gK0 hshp.1) (g_at8 hshp.1) (k_S_replaceC Y hshp hagp hevp hEp h0p a (by omega) (by omega)) u_X10_replaceComplaints mw_774 dX12_replace_27 rfl rfl ⟨Nat.le_of_ble_eq_true rfl, Nat.le_of_ble_eq_true rfl⟩ ⟨Nat.le_of_ble_eq_true rfl, Nat.le_of_ble_eq_true rfl⟩ (Nat.le_of_ble_eq_true rfl) (fun v27 I27 A27 h27 => ?_)
  obtain ⟨rfl, p1, p2, p3⟩ := h27
  exact g_iret dX12_replace_30 rfl (by decide) (by decide) (by
      obtain ⟨r1, r2⟩ := hI19.st p1 (W' := sRepl W a) ⟨hW hc0, p2, evp, kqp, nqp, hevp, p3⟩
      exact ⟨hc0, rfl, G19, r1, hf19.trans r2⟩)
set_option maxHeartbeats 1000000 in
set_option maxRecDepth 100000 in
theorem k_A_pack (Y : gEnv) {K N : Nat → Nat} {I : Nat → Nat → Int} {A : Nat → Int → Int} {R : Nat → Nat → Option Nat} {Q : Nat → Int → Option Nat} {G : Nat → Nat × Int} {M : Nat → Prop} {x s h hq sc sg ar : Nat} {W SV T : Int → Int} {n len : Int} (hI : cI K N I A R Q G M x s h hq sc sg ar W n SV T len)   : gC Y yX12_pack cX12_pack 1 (some .int) ({ frames := 4, cells := 317, slots := 1957, locals := 184 } : Room) [.ref x] K N I A R Q (cOpP K N I A R Q M x s h hq sc sg ar (0) (vi (sSum (fun l => (W (890 + l)).tdiv (W 89)) (W 1614).toNat 0)) (sPack W) (sCnt n) (sSvd SV W n) (T) (len)) (cOpX K N I A R Q (0) ([] : List String)) := by
  refine gC_of (by decide) (Nat.le_of_ble_eq_true rfl) (fun X => ?_)
  obtain ⟨⟨x1, x2, x3, x4⟩, ⟨h1, h2, h3, h4, h5, h6, h7⟩, ⟨c1, c2, c3⟩, st, sv, hs, gg, hM⟩ := id hI
  obtain ⟨h0, hag, ev, kq, nq, hev, hE⟩ := id sv
  have hsh := st.1
  refine g_aload_n dX12_pack_0 rfl rfl ?_
  refine g_get_TileFactory_history dX12_pack_1 mw_301 (by assumption) x3 ?_
  refine g_aload_n dX12_pack_4 rfl rfl ?_
  refine g_get_TileFactory_state dX12_pack_5 mw_300 (by assumption) x2 ?_
  refine g_callV (i := 3) rfl (gK0 h1) (g_at3 h1) (k_H_save Y hI) u_X5_save mw_426 dX12_pack_8 rfl rfl ⟨Nat.le_of_ble_eq_true rfl, Nat.le_of_ble_eq_true rfl⟩ ⟨Nat.le_of_ble_eq_true rfl, Nat.le_of_ble_eq_true rfl⟩ (Nat.le_of_ble_eq_true rfl) (fun v8 K8 N8 I8 A8 R8 Q8 h8 => ?_)
  obtain ⟨rfl, G8, hI8, hf8⟩ := h8
  obtain ⟨⟨x1p, x2p, x3p, x4p⟩, ⟨h1p, h2p, h3p, h4p, h5p, h6p, h7p⟩, ⟨c1p, c2p, c3p⟩, stp, svp, hsp, ggp, hMp⟩ := id hI8
  obtain ⟨h0p, hagp, evp, kqp, nqp, hevp, hEp⟩ := id svp
  have hshp := stp.1
  refine g_aload_n dX12_pack_11 rfl rfl ?_
  refine g_get_TileFactory_state dX12_pack_12 mw_300 (by assumption) x2p ?_
  refine g_callVw (i := 8) rfl (gK0 hshp.1) (g_at8 hshp.1) (k_S_packLots Y hshp hagp h0p) u_X10_packLots mw_658 dX12_pack_15 rfl rfl ⟨Nat.le_of_ble_eq_true rfl, Nat.le_of_ble_eq_true rfl⟩ ⟨Nat.le_of_ble_eq_true rfl, Nat.le_of_ble_eq_true rfl⟩ (Nat.le_of_ble_eq_true rfl) (fun v15 I15 A15 h15 => ?_)
  obtain ⟨rfl, p0, p1, p2, p3⟩ := h15
  obtain rfl := p0.symm
  exact g_iret dX12_pack_18 rfl (by decide) (by decide) (by
      have hw := h0p.2.2.2.2.1.2.1
      obtain ⟨r1, r2⟩ := hI8.st p2 (W' := sPack W) ⟨h0p.pack, p3, evp, kqp, nqp, hevp, cE.of hEp h0p.2.2.2.2.2.2.2.2 (p1 evp) (fun j a b => sPack_ev W hw (by omega))⟩
      exact ⟨rfl, rfl, G8, r1, hf8.trans r2⟩)
set_option maxHeartbeats 1000000 in
set_option maxRecDepth 100000 in
theorem jp_A_undo_15 {Y : gEnv} {X : gCtx} {K N : Nat → Nat} {I : Nat → Nat → Int} {A : Nat → Int → Int} {R : Nat → Nat → Option Nat} {Q : Nat → Int → Option Nat} {G : Nat → Nat × Int} {M : Nat → Prop} {x s h hq sc sg ar : Nat} {W SV T : Int → Int} {n len : Int} (hI : cI K N I A R Q G M x s h hq sc sg ar W n SV T len)    (z : Int) (hz : z = if 0 < n then 1 else 0) : gJ Y X yX12_undo cX12_undo 1 (some .int) ({ frames := 7, cells := 1, slots := 6, locals := 184 } : Room) (cOpP K N I A R Q M x s h hq sc sg ar (if n = 0 then 1 else 0) (vi (n - 1)) (sBack SV W (n - 1) 1618) (n - 1) (SV) (T) (len)) (cOpX K N I A R Q (if n = 0 then 1 else 0) [xSt]) 0 0 15 [(0, .ref x)] [vi z] K N I A R Q := by
  obtain ⟨⟨x1, x2, x3, x4⟩, ⟨h1, h2, h3, h4, h5, h6, h7⟩, ⟨c1, c2, c3⟩, st, sv, hs, gg, hM⟩ := id hI
  obtain ⟨h0, hag, ev, kq, nq, hev, hE⟩ := id sv
  have hsh := st.1
  refine g_callSXc (k_K_State Y _ (by first | omega | (split <;> omega))) u_X12_checkState mw_514 rfl dX12_undo_15 rfl rfl ⟨Nat.le_of_ble_eq_true rfl, Nat.le_of_ble_eq_true rfl⟩ ⟨Nat.le_of_ble_eq_true rfl, Nat.le_of_ble_eq_true rfl⟩ (Nat.le_of_ble_eq_true rfl) (by decide) (fun E hh => by
    obtain ⟨q1, q2⟩ := hh
    have hc : ((if n = 0 then 1 else 0) : Int) = 1 := by repeat (first | omega | split)
    exact ⟨by rw [hc]; decide, by rw [hc, q2]; rfl, cSame.rfl⟩) (fun h15 => ?_)
  refine g_aload_n dX12_undo_18 rfl rfl ?_
  refine g_get_TileFactory_history dX12_undo_19 mw_301 (by assumption) x3 ?_
  refine g_aload_n dX12_undo_22 rfl rfl ?_
  refine g_get_TileFactory_state dX12_undo_23 mw_300 (by assumption) x2 ?_
  refine g_callV (i := 3) rfl (gK0 h1) (g_at3 h1) (k_H_restore Y hI (by omega)) u_X5_restore mw_785 dX12_undo_26 rfl rfl ⟨Nat.le_of_ble_eq_true rfl, Nat.le_of_ble_eq_true rfl⟩ ⟨Nat.le_of_ble_eq_true rfl, Nat.le_of_ble_eq_true rfl⟩ (Nat.le_of_ble_eq_true rfl) (fun v26 K26 N26 I26 A26 R26 Q26 h26 => ?_)
  obtain ⟨rfl, hI26, hf26⟩ := h26
  obtain ⟨⟨x1p, x2p, x3p, x4p⟩, ⟨h1p, h2p, h3p, h4p, h5p, h6p, h7p⟩, ⟨c1p, c2p, c3p⟩, stp, svp, hsp, ggp, hMp⟩ := id hI26
  obtain ⟨h0p, hagp, evp, kqp, nqp, hevp, hEp⟩ := id svp
  have hshp := stp.1
  refine g_aload_n dX12_undo_29 rfl rfl ?_
  refine g_get_TileFactory_history dX12_undo_30 mw_301 (by assumption) x3p ?_
  refine g_get_History_count dX12_undo_33 mw_264 h1p ?_
  exact g_iret dX12_undo_36 rfl (by decide) (by decide) (by
      have hc0 : ((if n = 0 then 1 else 0 : Int)) = 0 := by repeat (first | omega | split)
      exact ⟨hc0, by rw [h5p], G, hI26, hf26⟩)
set_option maxHeartbeats 1000000 in
set_option maxRecDepth 100000 in
theorem k_A_undo (Y : gEnv) {K N : Nat → Nat} {I : Nat → Nat → Int} {A : Nat → Int → Int} {R : Nat → Nat → Option Nat} {Q : Nat → Int → Option Nat} {G : Nat → Nat × Int} {M : Nat → Prop} {x s h hq sc sg ar : Nat} {W SV T : Int → Int} {n len : Int} (hI : cI K N I A R Q G M x s h hq sc sg ar W n SV T len)   : gC Y yX12_undo cX12_undo 1 (some .int) ({ frames := 7, cells := 1, slots := 6, locals := 184 } : Room) [.ref x] K N I A R Q (cOpP K N I A R Q M x s h hq sc sg ar (if n = 0 then 1 else 0) (vi (n - 1)) (sBack SV W (n - 1) 1618) (n - 1) (SV) (T) (len)) (cOpX K N I A R Q (if n = 0 then 1 else 0) [xSt]) := by
  refine gC_of (by decide) (Nat.le_of_ble_eq_true rfl) (fun X => ?_)
  obtain ⟨⟨x1, x2, x3, x4⟩, ⟨h1, h2, h3, h4, h5, h6, h7⟩, ⟨c1, c2, c3⟩, st, sv, hs, gg, hM⟩ := id hI
  obtain ⟨h0, hag, ev, kq, nq, hev, hE⟩ := id sv
  have hsh := st.1
  refine g_aload_n dX12_undo_0 rfl rfl ?_
  refine g_get_TileFactory_history dX12_undo_1 mw_301 (by assumption) x3 ?_
  refine g_get_History_count dX12_undo_4 mw_264 h1 ?_
  rw [h5]
  refine g_if_le (tgt := 14) dX12_undo_7 (by decide) (by omega) (fun c_7 => ?_) (fun c_7 => ?_)
  · refine g_iconst dX12_undo_14 ?_
    exact jp_A_undo_15 hI   _ (by repeat (first | omega | split))
  · refine g_iconst dX12_undo_10 ?_
    refine g_goto (tgt := 15) dX12_undo_11 (by decide) ?_
    exact jp_A_undo_15 hI   _ (by repeat (first | omega | split))
