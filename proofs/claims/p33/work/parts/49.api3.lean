set_option maxHeartbeats 1000000 in
set_option maxRecDepth 100000 in
theorem k_A_lot (Y : gEnv) {K N : Nat → Nat} {I : Nat → Nat → Int} {A : Nat → Int → Int} {R : Nat → Nat → Option Nat} {Q : Nat → Int → Option Nat} {G : Nat → Nat × Int} {M : Nat → Prop} {x s h hq sc sg ar : Nat} {W SV T : Int → Int} {n len : Int} (hI : cI K N I A R Q G M x s h hq sc sg ar W n SV T len) (i : Int) (hi : (-2147483648 ≤ i ∧ i ≤ 2147483647)) (p : Int) (hp : (-2147483648 ≤ p ∧ p ≤ 2147483647))  : gC Y yX12_lot cX12_lot 3 (some .int) ({ frames := 7, cells := 2, slots := 12, locals := 120 } : Room) [.ref x, vi i, vi p] K N I A R Q (cOpP K N I A R Q M x s h hq sc sg ar (if ¬ (0 ≤ i ∧ i < W 1614) then 1 else if ¬ (0 ≤ p ∧ p ≤ 5) then 2 else 0) (vi (W (410 + 160 * p + i))) (W) (n) (SV) (T) (len)) (cOpX K N I A R Q (if ¬ (0 ≤ i ∧ i < W 1614) then 1 else if ¬ (0 ≤ p ∧ p ≤ 5) then 2 else 0) [xIx, xAr, xSt]) := by
  refine gC_of (by decide) (Nat.le_of_ble_eq_true rfl) (fun X => ?_)
  obtain ⟨⟨x1, x2, x3, x4⟩, ⟨h1, h2, h3, h4, h5, h6, h7⟩, ⟨c1, c2, c3⟩, st, sv, hs, gg, hM⟩ := id hI
  obtain ⟨h0, hag, ev, kq, nq, hev, hE⟩ := id sv
  have hsh := st.1
  have hP := h0.2.2.2.1.2.1
  have hLL := h0.2.2.2.2.1.2.1
  have hDD := h0.2.2.2.2.2.1.2.1
  refine g_aload_n dX12_lot_0 rfl rfl ?_
  refine g_get_TileFactory_state dX12_lot_1 mw_300 (by assumption) x2 ?_
  refine g_iload_n dX12_lot_4 rfl rfl ?_
  refine g_callVp (i := 8) rfl (gK0 hsh.1) (g_at8 hsh.1) (k_S_hasLot Y hsh hag h0.2.2.2.2.1 i hi) u_X10_hasLot mw_719 dX12_lot_5 rfl rfl ⟨Nat.le_of_ble_eq_true rfl, Nat.le_of_ble_eq_true rfl⟩ ⟨Nat.le_of_ble_eq_true rfl, Nat.le_of_ble_eq_true rfl⟩ (Nat.le_of_ble_eq_true rfl) ?_
  refine g_callSXc (k_K_Index Y _ (by first | omega | (split <;> omega))) u_X12_checkIndex mw_336 rfl dX12_lot_8 rfl rfl ⟨Nat.le_of_ble_eq_true rfl, Nat.le_of_ble_eq_true rfl⟩ ⟨Nat.le_of_ble_eq_true rfl, Nat.le_of_ble_eq_true rfl⟩ (Nat.le_of_ble_eq_true rfl) (by decide) (fun E hh => by
    obtain ⟨q1, q2⟩ := hh
    have hc : ((if ¬ (0 ≤ i ∧ i < W 1614) then 1 else if ¬ (0 ≤ p ∧ p ≤ 5) then 2 else 0) : Int) = 1 := by repeat (first | omega | split)
    exact ⟨by rw [hc]; decide, by rw [hc, q2]; rfl, cSame.rfl⟩) (fun h8 => ?_)
  refine g_iload_n dX12_lot_11 rfl rfl ?_
  refine g_iconst dX12_lot_12 ?_
  refine g_iconst dX12_lot_13 ?_
  refine g_callSp (k_isWithin Y _ _ _ (by omega) (by omega) (by omega)) u_X12_isWithin mw_333 rfl dX12_lot_14 rfl rfl ⟨Nat.le_of_ble_eq_true rfl, Nat.le_of_ble_eq_true rfl⟩ ⟨Nat.le_of_ble_eq_true rfl, Nat.le_of_ble_eq_true rfl⟩ (Nat.le_of_ble_eq_true rfl) ?_
  refine g_callSXc (k_K_Argument Y _ (by first | omega | (split <;> omega))) u_X12_checkArgument mw_407 rfl dX12_lot_17 rfl rfl ⟨Nat.le_of_ble_eq_true rfl, Nat.le_of_ble_eq_true rfl⟩ ⟨Nat.le_of_ble_eq_true rfl, Nat.le_of_ble_eq_true rfl⟩ (Nat.le_of_ble_eq_true rfl) (by decide) (fun E hh => by
    obtain ⟨q1, q2⟩ := hh
    have hc : ((if ¬ (0 ≤ i ∧ i < W 1614) then 1 else if ¬ (0 ≤ p ∧ p ≤ 5) then 2 else 0) : Int) = 2 := by repeat (first | omega | split)
    exact ⟨by rw [hc]; decide, by rw [hc, q2]; rfl, cSame.rfl⟩) (fun h17 => ?_)
  have r5 := hsh.2.2.2.2.2.1.2.2.2.2 i (by omega) (by omega)
  refine g_aload_n dX12_lot_20 rfl rfl ?_
  refine g_get_TileFactory_state dX12_lot_21 mw_300 (by assumption) x2 ?_
  refine g_get_State_lots dX12_lot_24 mw_210 hsh.1 hsh.2.2.2.2.2.1.1 ?_
  refine g_iload_n dX12_lot_27 rfl rfl ?_
  refine g_aald_Lot dX12_lot_28 hsh.2.2.2.2.2.1.2.1 (by rw [hsh.2.2.2.2.2.1.2.2.1]; decide) (by rw [hsh.2.2.2.2.2.1.2.2.1]; omega) r5.1 ?_
  refine g_iload_n dX12_lot_29 rfl rfl ?_
  refine g_callVp (i := 4) rfl (gK0 r5.2.1) (g_at4 r5.2.1) (k_L_property Y r5.2.1 p (by omega)) u_X6_property mw_720 dX12_lot_30 rfl rfl ⟨Nat.le_of_ble_eq_true rfl, Nat.le_of_ble_eq_true rfl⟩ ⟨Nat.le_of_ble_eq_true rfl, Nat.le_of_ble_eq_true rfl⟩ (Nat.le_of_ble_eq_true rfl) ?_
  exact g_iret dX12_lot_33 rfl (by decide) (by decide) (by
      have hc0 : ((if ¬ (0 ≤ i ∧ i < W 1614) then 1 else if ¬ (0 ≤ p ∧ p ≤ 5) then 2 else 0) : Int) = 0 := by repeat (first | omega | split)
      exact ⟨hc0, (by
        have hcs : p = 0 ∨ p = 1 ∨ p = 2 ∨ p = 3 ∨ p = 4 ∨ p = 5 := by omega
        rcases hcs with e | e | e | e | e | e
        · rw [if_pos e, ar_80 hag (i := i) (by omega) (by omega) (by omega)]
          exact congrArg (fun z => some (vi (W z))) (by omega)
        · rw [if_neg (by omega), if_pos e, ar_81 hag (i := i) (by omega) (by omega) (by omega)]
          exact congrArg (fun z => some (vi (W z))) (by omega)
        · rw [if_neg (by omega), if_neg (by omega), if_pos e, ar_82 hag (i := i) (by omega) (by omega) (by omega)]
          exact congrArg (fun z => some (vi (W z))) (by omega)
        · rw [if_neg (by omega), if_neg (by omega), if_neg (by omega), if_pos e, ar_83 hag (i := i) (by omega) (by omega) (by omega)]
          exact congrArg (fun z => some (vi (W z))) (by omega)
        · rw [if_neg (by omega), if_neg (by omega), if_neg (by omega), if_neg (by omega), if_pos e, ar_84 hag (i := i) (by omega) (by omega) (by omega)]
          exact congrArg (fun z => some (vi (W z))) (by omega)
        · rw [if_neg (by omega), if_neg (by omega), if_neg (by omega), if_neg (by omega), if_neg (by omega), ar_85 hag (i := i) (by omega) (by omega) (by omega)]
          exact congrArg (fun z => some (vi (W z))) (by omega)
        ), G, hI, gFm.rfl⟩)
set_option maxHeartbeats 1000000 in
set_option maxRecDepth 100000 in
theorem k_A_delivery (Y : gEnv) {K N : Nat → Nat} {I : Nat → Nat → Int} {A : Nat → Int → Int} {R : Nat → Nat → Option Nat} {Q : Nat → Int → Option Nat} {G : Nat → Nat × Int} {M : Nat → Prop} {x s h hq sc sg ar : Nat} {W SV T : Int → Int} {n len : Int} (hI : cI K N I A R Q G M x s h hq sc sg ar W n SV T len) (i : Int) (hi : (-2147483648 ≤ i ∧ i ≤ 2147483647)) (p : Int) (hp : (-2147483648 ≤ p ∧ p ≤ 2147483647))  : gC Y yX12_delivery cX12_delivery 3 (some .long) ({ frames := 7, cells := 2, slots := 12, locals := 120 } : Room) [.ref x, vi i, vi p] K N I A R Q (cOpP K N I A R Q M x s h hq sc sg ar (if ¬ (0 ≤ i ∧ i < W 1615) then 1 else if ¬ (0 ≤ p ∧ p ≤ 4) then 2 else 0) (vl (W (1370 + 40 * p + i))) (W) (n) (SV) (T) (len)) (cOpX K N I A R Q (if ¬ (0 ≤ i ∧ i < W 1615) then 1 else if ¬ (0 ≤ p ∧ p ≤ 4) then 2 else 0) [xIx, xAr, xSt]) := by
  refine gC_of (by decide) (Nat.le_of_ble_eq_true rfl) (fun X => ?_)
  obtain ⟨⟨x1, x2, x3, x4⟩, ⟨h1, h2, h3, h4, h5, h6, h7⟩, ⟨c1, c2, c3⟩, st, sv, hs, gg, hM⟩ := id hI
  obtain ⟨h0, hag, ev, kq, nq, hev, hE⟩ := id sv
  have hsh := st.1
  have hP := h0.2.2.2.1.2.1
  have hLL := h0.2.2.2.2.1.2.1
  have hDD := h0.2.2.2.2.2.1.2.1
  refine g_aload_n dX12_delivery_0 rfl rfl ?_
  refine g_get_TileFactory_state dX12_delivery_1 mw_300 (by assumption) x2 ?_
  refine g_iload_n dX12_delivery_4 rfl rfl ?_
  refine g_callVp (i := 8) rfl (gK0 hsh.1) (g_at8 hsh.1) (k_S_hasDelivery Y hsh hag ⟨h0.2.2.2.2.2.1.1, h0.2.2.2.2.2.1.2.1⟩ i hi) u_X10_hasDelivery mw_1019 dX12_delivery_5 rfl rfl ⟨Nat.le_of_ble_eq_true rfl, Nat.le_of_ble_eq_true rfl⟩ ⟨Nat.le_of_ble_eq_true rfl, Nat.le_of_ble_eq_true rfl⟩ (Nat.le_of_ble_eq_true rfl) ?_
  refine g_callSXc (k_K_Index Y _ (by first | omega | (split <;> omega))) u_X12_checkIndex mw_336 rfl dX12_delivery_8 rfl rfl ⟨Nat.le_of_ble_eq_true rfl, Nat.le_of_ble_eq_true rfl⟩ ⟨Nat.le_of_ble_eq_true rfl, Nat.le_of_ble_eq_true rfl⟩ (Nat.le_of_ble_eq_true rfl) (by decide) (fun E hh => by
    obtain ⟨q1, q2⟩ := hh
    have hc : ((if ¬ (0 ≤ i ∧ i < W 1615) then 1 else if ¬ (0 ≤ p ∧ p ≤ 4) then 2 else 0) : Int) = 1 := by repeat (first | omega | split)
    exact ⟨by rw [hc]; decide, by rw [hc, q2]; rfl, cSame.rfl⟩) (fun h8 => ?_)
  refine g_iload_n dX12_delivery_11 rfl rfl ?_
  refine g_iconst dX12_delivery_12 ?_
  refine g_iconst dX12_delivery_13 ?_
  refine g_callSp (k_isWithin Y _ _ _ (by omega) (by omega) (by omega)) u_X12_isWithin mw_333 rfl dX12_delivery_14 rfl rfl ⟨Nat.le_of_ble_eq_true rfl, Nat.le_of_ble_eq_true rfl⟩ ⟨Nat.le_of_ble_eq_true rfl, Nat.le_of_ble_eq_true rfl⟩ (Nat.le_of_ble_eq_true rfl) ?_
  refine g_callSXc (k_K_Argument Y _ (by first | omega | (split <;> omega))) u_X12_checkArgument mw_407 rfl dX12_delivery_17 rfl rfl ⟨Nat.le_of_ble_eq_true rfl, Nat.le_of_ble_eq_true rfl⟩ ⟨Nat.le_of_ble_eq_true rfl, Nat.le_of_ble_eq_true rfl⟩ (Nat.le_of_ble_eq_true rfl) (by decide) (fun E hh => by
    obtain ⟨q1, q2⟩ := hh
    have hc : ((if ¬ (0 ≤ i ∧ i < W 1615) then 1 else if ¬ (0 ≤ p ∧ p ≤ 4) then 2 else 0) : Int) = 2 := by repeat (first | omega | split)
    exact ⟨by rw [hc]; decide, by rw [hc, q2]; rfl, cSame.rfl⟩) (fun h17 => ?_)
  have r5 := hsh.2.2.2.2.2.2.2.2.2.2 i (by omega) (by omega)
  refine g_aload_n dX12_delivery_20 rfl rfl ?_
  refine g_get_TileFactory_state dX12_delivery_21 mw_300 (by assumption) x2 ?_
  refine g_get_State_deliveries dX12_delivery_24 mw_212 hsh.1 hsh.2.2.2.2.2.2.1 ?_
  refine g_iload_n dX12_delivery_27 rfl rfl ?_
  refine g_aald_Delivery dX12_delivery_28 hsh.2.2.2.2.2.2.2.1 (by rw [hsh.2.2.2.2.2.2.2.2.1]; decide) (by rw [hsh.2.2.2.2.2.2.2.2.1]; omega) r5.1 ?_
  refine g_iload_n dX12_delivery_29 rfl rfl ?_
  refine g_callVp (i := 0) rfl (gK0 r5.2.1) (g_at0 r5.2.1) (k_D_property Y r5.2.1 p (by omega) (fun f hf => by
    have hd := h0.2.2.2.2.2.1.2.2 i (by omega) (by omega)
    have hl := h0.2.2.2.2.1.2.1
    have hc : f = 0 ∨ f = 1 ∨ f = 2 ∨ f = 3 := by omega
    have hu := h0.out (d := i) (by omega) (by omega)
    rcases hc with e | e | e | e <;> subst e
    · rw [ar_0 hag (i := i) (by omega) (by omega) (by omega)]; omega
    · rw [ar_1 hag (i := i) (by omega) (by omega) (by omega)]; omega
    · rw [ar_2 hag (i := i) (by omega) (by omega) (by omega)]; omega
    · rw [ar_3 hag (i := i) (by omega) (by omega) (by omega)]; omega)) u_X1_property mw_1020 dX12_delivery_30 rfl rfl ⟨Nat.le_of_ble_eq_true rfl, Nat.le_of_ble_eq_true rfl⟩ ⟨Nat.le_of_ble_eq_true rfl, Nat.le_of_ble_eq_true rfl⟩ (Nat.le_of_ble_eq_true rfl) ?_
  exact g_lret dX12_delivery_33 rfl (by decide) (by decide) (by
      have hc0 : ((if ¬ (0 ≤ i ∧ i < W 1615) then 1 else if ¬ (0 ≤ p ∧ p ≤ 4) then 2 else 0) : Int) = 0 := by repeat (first | omega | split)
      exact ⟨hc0, (by
        have hcs : p = 0 ∨ p = 1 ∨ p = 2 ∨ p = 3 ∨ p = 4 := by omega
        rcases hcs with e | e | e | e | e
        · rw [if_pos e, ar_0 hag (i := i) (by omega) (by omega) (by omega)]
          exact congrArg (fun z => some (vl (W z))) (by omega)
        · rw [if_neg (by omega), if_pos e, ar_1 hag (i := i) (by omega) (by omega) (by omega)]
          exact congrArg (fun z => some (vl (W z))) (by omega)
        · rw [if_neg (by omega), if_neg (by omega), if_pos e, ar_2 hag (i := i) (by omega) (by omega) (by omega)]
          exact congrArg (fun z => some (vl (W z))) (by omega)
        · rw [if_neg (by omega), if_neg (by omega), if_neg (by omega), if_pos e, ar_3 hag (i := i) (by omega) (by omega) (by omega)]
          exact congrArg (fun z => some (vl (W z))) (by omega)
        · rw [if_neg (by omega), if_neg (by omega), if_neg (by omega), if_neg (by omega), ar_4 hag (i := i) (by omega) (by omega) (by omega)]
          exact congrArg (fun z => some (vl (W z))) (by omega)
        ), G, hI, gFm.rfl⟩)
set_option maxHeartbeats 1000000 in
set_option maxRecDepth 100000 in
theorem k_E_has (Y : gEnv) {K N : Nat → Nat} {I : Nat → Nat → Int} {A : Nat → Int → Int} {R : Nat → Nat → Option Nat} {Q : Nat → Int → Option Nat} {ev : Nat} (hK : K ev = 2) (hr : 0 ≤ I 22 ev ∧ I 22 ev ≤ 20) (i : Int) (hi : (-2147483648 ≤ i ∧ i ≤ 2147483647)) : gC Y yX2_has cX2_has 2 (some .boolean) ({ frames := 0, cells := 0, slots := 0, locals := 0 } : Room) [.ref ev, vi i] K N I A R Q (g_pu (some (vi (if 0 ≤ i ∧ i < I 22 ev then 1 else 0))) K N I A R Q) gno := by
  refine gC_of (by decide) (Nat.le_of_ble_eq_true rfl) (fun X => ?_)
  refine g_iload_n dX2_has_0 rfl rfl ?_
  refine g_if_lt (tgt := 22) dX2_has_1 (by decide) (by omega) (fun c_1 => ?_) (fun c_1 => ?_)
  · refine g_iconst dX2_has_22 ?_
    exact g_zret dX2_has_23 rfl (by omega) (by decide) (by decide) (g_pu_i (by repeat (first | omega | split)) _ _ _ _ _ _)
  · refine g_iload_n dX2_has_4 rfl rfl ?_
    refine g_aload_n dX2_has_5 rfl rfl ?_
    refine g_get_EventLog_count dX2_has_6 mw_76 (by assumption) ?_
    refine g_icmp_ge (tgt := 22) dX2_has_9 (by decide) (by omega) (by omega) (fun c_9 => ?_) (fun c_9 => ?_)
    · refine g_iconst dX2_has_22 ?_
      exact g_zret dX2_has_23 rfl (by omega) (by decide) (by decide) (g_pu_i (by repeat (first | omega | split)) _ _ _ _ _ _)
    · refine g_iload_n dX2_has_12 rfl rfl ?_
      refine g_bipush dX2_has_13 (by decide) ?_
      refine g_icmp_ge (tgt := 22) dX2_has_15 (by decide) (by omega) (by omega) (fun c_15 => ?_) (fun c_15 => ?_)
      · refine g_iconst dX2_has_22 ?_
        exact g_zret dX2_has_23 rfl (by omega) (by decide) (by decide) (g_pu_i (by repeat (first | omega | split)) _ _ _ _ _ _)
      · refine g_iconst dX2_has_18 ?_
        refine g_goto (tgt := 23) dX2_has_19 (by decide) ?_
        exact g_zret dX2_has_23 rfl (by omega) (by decide) (by decide) (g_pu_i (by repeat (first | omega | split)) _ _ _ _ _ _)
set_option maxHeartbeats 1000000 in
set_option maxRecDepth 100000 in
theorem k_E_kindOf (Y : gEnv) {K N : Nat → Nat} {I : Nat → Nat → Int} {A : Nat → Int → Int} {R : Nat → Nat → Option Nat} {Q : Nat → Int → Option Nat} {s ev kq nq : Nat} {G : Nat → Nat × Int} {W : Int → Int} (hev : cEv K N R G s ev kq nq) (hE : cE I A ev kq nq W) (h20 : 0 ≤ W 1616 ∧ W 1616 ≤ 20) (i : Int) (hi : (-2147483648 ≤ i ∧ i ≤ 2147483647)) : gC Y yX2_kindOf cX2_kindOf 2 (some .int) ({ frames := 1, cells := 0, slots := 0, locals := 21 } : Room) [.ref ev, vi i] K N I A R Q (g_pu (some (vi (if 0 ≤ i ∧ i < W 1616 then W (1570 + (W 1616 - 1 - i)) else -1))) K N I A R Q) gno := by
  refine gC_of (by decide) (Nat.le_of_ble_eq_true rfl) (fun X => ?_)
  obtain ⟨h1, h2, h3, h4, h5, h6, h7, h8, h9, -⟩ := id hev
  have hr : 0 ≤ I 22 ev ∧ I 22 ev ≤ 20 := by rw [hE.1]; exact h20
  have e22 := hE.1
  refine g_aload_n dX2_kindOf_0 rfl rfl ?_
  refine g_iload_n dX2_kindOf_1 rfl rfl ?_
  refine g_callVp (i := 1) rfl (gK0 (by assumption)) (g_at1 (by assumption)) (k_E_has Y h2 hr i hi) u_X2_has mw_865 dX2_kindOf_2 rfl rfl ⟨Nat.le_of_ble_eq_true rfl, Nat.le_of_ble_eq_true rfl⟩ ⟨Nat.le_of_ble_eq_true rfl, Nat.le_of_ble_eq_true rfl⟩ (Nat.le_of_ble_eq_true rfl) ?_
  refine g_if_eq (tgt := 17) dX2_kindOf_5 (by decide) (by omega) (fun c_5 => ?_) (fun c_5 => ?_)
  · refine g_iconst dX2_kindOf_17 ?_
    exact g_iret dX2_kindOf_18 rfl (by decide) (by decide) (g_pu_i (by first | (rw [if_pos (by omega)]; exact (hE.2 i (by omega) (by omega)).1) | (rw [if_neg (by omega)])) _ _ _ _ _ _)
  · refine g_aload_n dX2_kindOf_8 rfl rfl ?_
    refine g_get_EventLog_kinds dX2_kindOf_9 mw_74 (by assumption) h3 ?_
    refine g_iload_n dX2_kindOf_12 rfl rfl ?_
    refine g_iaload dX2_kindOf_13 h5 (by rw [h6]; decide) (by rw [h6]; omega) ?_
    refine g_goto (tgt := 18) dX2_kindOf_14 (by decide) ?_
    exact g_iret dX2_kindOf_18 rfl (by decide) (by decide) (g_pu_i (by first | (rw [if_pos (by omega)]; exact (hE.2 i (by omega) (by omega)).1) | (rw [if_neg (by omega)])) _ _ _ _ _ _)
set_option maxHeartbeats 1000000 in
set_option maxRecDepth 100000 in
theorem k_E_numberOf (Y : gEnv) {K N : Nat → Nat} {I : Nat → Nat → Int} {A : Nat → Int → Int} {R : Nat → Nat → Option Nat} {Q : Nat → Int → Option Nat} {s ev kq nq : Nat} {G : Nat → Nat × Int} {W : Int → Int} (hev : cEv K N R G s ev kq nq) (hE : cE I A ev kq nq W) (h20 : 0 ≤ W 1616 ∧ W 1616 ≤ 20) (i : Int) (hi : (-2147483648 ≤ i ∧ i ≤ 2147483647)) : gC Y yX2_numberOf cX2_numberOf 2 (some .int) ({ frames := 1, cells := 0, slots := 0, locals := 21 } : Room) [.ref ev, vi i] K N I A R Q (g_pu (some (vi (if 0 ≤ i ∧ i < W 1616 then W (1590 + (W 1616 - 1 - i)) else -1))) K N I A R Q) gno := by
  refine gC_of (by decide) (Nat.le_of_ble_eq_true rfl) (fun X => ?_)
  obtain ⟨h1, h2, h3, h4, h5, h6, h7, h8, h9, -⟩ := id hev
  have hr : 0 ≤ I 22 ev ∧ I 22 ev ≤ 20 := by rw [hE.1]; exact h20
  have e22 := hE.1
  refine g_aload_n dX2_numberOf_0 rfl rfl ?_
  refine g_iload_n dX2_numberOf_1 rfl rfl ?_
  refine g_callVp (i := 1) rfl (gK0 (by assumption)) (g_at1 (by assumption)) (k_E_has Y h2 hr i hi) u_X2_has mw_865 dX2_numberOf_2 rfl rfl ⟨Nat.le_of_ble_eq_true rfl, Nat.le_of_ble_eq_true rfl⟩ ⟨Nat.le_of_ble_eq_true rfl, Nat.le_of_ble_eq_true rfl⟩ (Nat.le_of_ble_eq_true rfl) ?_
  refine g_if_eq (tgt := 17) dX2_numberOf_5 (by decide) (by omega) (fun c_5 => ?_) (fun c_5 => ?_)
  · refine g_iconst dX2_numberOf_17 ?_
    exact g_iret dX2_numberOf_18 rfl (by decide) (by decide) (g_pu_i (by first | (rw [if_pos (by omega)]; exact (hE.2 i (by omega) (by omega)).2) | (rw [if_neg (by omega)])) _ _ _ _ _ _)
  · refine g_aload_n dX2_numberOf_8 rfl rfl ?_
    refine g_get_EventLog_numbers dX2_numberOf_9 mw_75 (by assumption) h4 ?_
    refine g_iload_n dX2_numberOf_12 rfl rfl ?_
    refine g_iaload dX2_numberOf_13 h7 (by rw [h8]; decide) (by rw [h8]; omega) ?_
    refine g_goto (tgt := 18) dX2_numberOf_14 (by decide) ?_
    exact g_iret dX2_numberOf_18 rfl (by decide) (by decide) (g_pu_i (by first | (rw [if_pos (by omega)]; exact (hE.2 i (by omega) (by omega)).2) | (rw [if_neg (by omega)])) _ _ _ _ _ _)
set_option maxHeartbeats 1000000 in
set_option maxRecDepth 100000 in
theorem jp_A_event_18 {Y : gEnv} {X : gCtx} {K N : Nat → Nat} {I : Nat → Nat → Int} {A : Nat → Int → Int} {R : Nat → Nat → Option Nat} {Q : Nat → Int → Option Nat} {G : Nat → Nat × Int} {M : Nat → Prop} {x s h hq sc sg ar : Nat} {W SV T : Int → Int} {n len : Int} (hI : cI K N I A R Q G M x s h hq sc sg ar W n SV T len) (i : Int) (hi : (-2147483648 ≤ i ∧ i ≤ 2147483647)) (p : Int) (hp : (-2147483648 ≤ p ∧ p ≤ 2147483647))   (z : Int) (hz : z = if 0 ≤ i ∧ (0 ≤ p ∧ p ≤ 1) then 1 else 0) : gJ Y X yX12_event cX12_event 3 (some .int) ({ frames := 7, cells := 1, slots := 6, locals := 120 } : Room) (cOpP K N I A R Q M x s h hq sc sg ar (if ¬ (0 ≤ i ∧ (0 ≤ p ∧ p ≤ 1)) then 1 else 0) (vi (sEvQ W i p)) (W) (n) (SV) (T) (len)) (cOpX K N I A R Q (if ¬ (0 ≤ i ∧ (0 ≤ p ∧ p ≤ 1)) then 1 else 0) [xAr]) 0 0 18 [(0, .ref x), (1, vi i), (2, vi p)] [vi z] K N I A R Q := by
  obtain ⟨⟨x1, x2, x3, x4⟩, ⟨h1, h2, h3, h4, h5, h6, h7⟩, ⟨c1, c2, c3⟩, st, sv, hs, gg, hM⟩ := id hI
  obtain ⟨h0, hag, ev, kq, nq, hev, hE⟩ := id sv
  have hsh := st.1
  refine g_callSXc (k_K_Argument Y _ (by first | omega | (split <;> omega))) u_X12_checkArgument mw_407 rfl dX12_event_18 rfl rfl ⟨Nat.le_of_ble_eq_true rfl, Nat.le_of_ble_eq_true rfl⟩ ⟨Nat.le_of_ble_eq_true rfl, Nat.le_of_ble_eq_true rfl⟩ (Nat.le_of_ble_eq_true rfl) (by decide) (fun E hh => by
    obtain ⟨q1, q2⟩ := hh
    have hc : ((if ¬ (0 ≤ i ∧ (0 ≤ p ∧ p ≤ 1)) then 1 else 0) : Int) = 1 := by repeat (first | omega | split)
    exact ⟨by rw [hc]; decide, by rw [hc, q2]; rfl, cSame.rfl⟩) (fun h18 => ?_)
  refine g_iload_n dX12_event_21 rfl rfl ?_
  refine g_if_ne (tgt := 39) dX12_event_22 (by decide) (by omega) (fun c_22 => ?_) (fun c_22 => ?_)
  · refine g_aload_n dX12_event_39 rfl rfl ?_
    refine g_get_TileFactory_state dX12_event_40 mw_300 (by assumption) x2 ?_
    refine g_get_State_events dX12_event_43 mw_214 hsh.1 hev.1 ?_
    refine g_iload_n dX12_event_46 rfl rfl ?_
    refine g_callVp (i := 1) rfl (gK0 hev.2.1) (g_at1 hev.2.1) (k_E_numberOf Y hev hE h0.2.2.2.2.2.2.2 i hi) u_X2_numberOf mw_869 dX12_event_47 rfl rfl ⟨Nat.le_of_ble_eq_true rfl, Nat.le_of_ble_eq_true rfl⟩ ⟨Nat.le_of_ble_eq_true rfl, Nat.le_of_ble_eq_true rfl⟩ (Nat.le_of_ble_eq_true rfl) ?_
    exact g_iret dX12_event_50 rfl (by decide) (by decide) (by
      have hc0 : ((if ¬ (0 ≤ i ∧ (0 ≤ p ∧ p ≤ 1)) then 1 else 0) : Int) = 0 := by repeat (first | omega | split)
      exact ⟨hc0, (by
        unfold sEvQ
        by_cases q : i < W 1616
        · rw [if_pos ⟨by omega, q⟩, if_pos q]; exact congrArg (fun z => some (vi (W z))) (by omega)
        · rw [if_neg (by omega), if_neg q]), G, hI, gFm.rfl⟩)
  · refine g_aload_n dX12_event_25 rfl rfl ?_
    refine g_get_TileFactory_state dX12_event_26 mw_300 (by assumption) x2 ?_
    refine g_get_State_events dX12_event_29 mw_214 hsh.1 hev.1 ?_
    refine g_iload_n dX12_event_32 rfl rfl ?_
    refine g_callVp (i := 1) rfl (gK0 hev.2.1) (g_at1 hev.2.1) (k_E_kindOf Y hev hE h0.2.2.2.2.2.2.2 i hi) u_X2_kindOf mw_861 dX12_event_33 rfl rfl ⟨Nat.le_of_ble_eq_true rfl, Nat.le_of_ble_eq_true rfl⟩ ⟨Nat.le_of_ble_eq_true rfl, Nat.le_of_ble_eq_true rfl⟩ (Nat.le_of_ble_eq_true rfl) ?_
    refine g_goto (tgt := 50) dX12_event_36 (by decide) ?_
    exact g_iret dX12_event_50 rfl (by decide) (by decide) (by
      have hc0 : ((if ¬ (0 ≤ i ∧ (0 ≤ p ∧ p ≤ 1)) then 1 else 0) : Int) = 0 := by repeat (first | omega | split)
      exact ⟨hc0, (by
        unfold sEvQ
        by_cases q : i < W 1616
        · rw [if_pos ⟨by omega, q⟩, if_pos q]; exact congrArg (fun z => some (vi (W z))) (by omega)
        · rw [if_neg (by omega), if_neg q]), G, hI, gFm.rfl⟩)
set_option maxHeartbeats 1000000 in
set_option maxRecDepth 100000 in
theorem k_A_event (Y : gEnv) {K N : Nat → Nat} {I : Nat → Nat → Int} {A : Nat → Int → Int} {R : Nat → Nat → Option Nat} {Q : Nat → Int → Option Nat} {G : Nat → Nat × Int} {M : Nat → Prop} {x s h hq sc sg ar : Nat} {W SV T : Int → Int} {n len : Int} (hI : cI K N I A R Q G M x s h hq sc sg ar W n SV T len) (i : Int) (hi : (-2147483648 ≤ i ∧ i ≤ 2147483647)) (p : Int) (hp : (-2147483648 ≤ p ∧ p ≤ 2147483647))  : gC Y yX12_event cX12_event 3 (some .int) ({ frames := 7, cells := 1, slots := 6, locals := 120 } : Room) [.ref x, vi i, vi p] K N I A R Q (cOpP K N I A R Q M x s h hq sc sg ar (if ¬ (0 ≤ i ∧ (0 ≤ p ∧ p ≤ 1)) then 1 else 0) (vi (sEvQ W i p)) (W) (n) (SV) (T) (len)) (cOpX K N I A R Q (if ¬ (0 ≤ i ∧ (0 ≤ p ∧ p ≤ 1)) then 1 else 0) [xAr]) := by
  refine gC_of (by decide) (Nat.le_of_ble_eq_true rfl) (fun X => ?_)
  obtain ⟨⟨x1, x2, x3, x4⟩, ⟨h1, h2, h3, h4, h5, h6, h7⟩, ⟨c1, c2, c3⟩, st, sv, hs, gg, hM⟩ := id hI
  obtain ⟨h0, hag, ev, kq, nq, hev, hE⟩ := id sv
  have hsh := st.1
  refine g_iload_n dX12_event_0 rfl rfl ?_
  refine g_if_lt (tgt := 17) dX12_event_1 (by decide) (by omega) (fun c_1 => ?_) (fun c_1 => ?_)
  · refine g_iconst dX12_event_17 ?_
    exact jp_A_event_18 hI i hi p hp   _ (by repeat (first | omega | split))
  · refine g_iload_n dX12_event_4 rfl rfl ?_
    refine g_iconst dX12_event_5 ?_
    refine g_iconst dX12_event_6 ?_
    refine g_callSp (k_isWithin Y _ _ _ (by omega) (by omega) (by omega)) u_X12_isWithin mw_333 rfl dX12_event_7 rfl rfl ⟨Nat.le_of_ble_eq_true rfl, Nat.le_of_ble_eq_true rfl⟩ ⟨Nat.le_of_ble_eq_true rfl, Nat.le_of_ble_eq_true rfl⟩ (Nat.le_of_ble_eq_true rfl) ?_
    refine g_if_eq (tgt := 17) dX12_event_10 (by decide) (by omega) (fun c_10 => ?_) (fun c_10 => ?_)
    · refine g_iconst dX12_event_17 ?_
      exact jp_A_event_18 hI i hi p hp   _ (by repeat (first | omega | split))
    · refine g_iconst dX12_event_13 ?_
      refine g_goto (tgt := 18) dX12_event_14 (by decide) ?_
      exact jp_A_event_18 hI i hi p hp   _ (by repeat (first | omega | split))
set_option maxHeartbeats 1000000 in
set_option maxRecDepth 100000 in
theorem k_A_total (Y : gEnv) {K N : Nat → Nat} {I : Nat → Nat → Int} {A : Nat → Int → Int} {R : Nat → Nat → Option Nat} {Q : Nat → Int → Option Nat} {G : Nat → Nat × Int} {M : Nat → Prop} {x s h hq sc sg ar : Nat} {W SV T : Int → Int} {n len : Int} (hI : cI K N I A R Q G M x s h hq sc sg ar W n SV T len) (p : Int) (hp : (-2147483648 ≤ p ∧ p ≤ 2147483647)) (hlen : 0 ≤ len ∧ len ≤ 100) : gC Y yX12_total cX12_total 2 (some .long) ({ frames := 7, cells := 1, slots := 6, locals := 120 } : Room) [.ref x, vi p] K N I A R Q (cOpP K N I A R Q M x s h hq sc sg ar (if ¬ (0 ≤ p ∧ p ≤ 15) then 1 else 0) (vl (sTotQ W n len p)) (W) (n) (SV) (T) (len)) (cOpX K N I A R Q (if ¬ (0 ≤ p ∧ p ≤ 15) then 1 else 0) [xAr]) := by
  refine gC_of (by decide) (Nat.le_of_ble_eq_true rfl) (fun X => ?_)
  obtain ⟨⟨x1, x2, x3, x4⟩, ⟨h1, h2, h3, h4, h5, h6, h7⟩, ⟨c1, c2, c3⟩, st, sv, hs, gg, hM⟩ := id hI
  obtain ⟨h0, hag, ev, kq, nq, hev, hE⟩ := id sv
  have hsh := st.1
  refine g_iload_n dX12_total_0 rfl rfl ?_
  refine g_iconst dX12_total_1 ?_
  refine g_bipush dX12_total_2 (by decide) ?_
  refine g_callSp (k_isWithin Y _ _ _ (by omega) (by omega) (by omega)) u_X12_isWithin mw_333 rfl dX12_total_4 rfl rfl ⟨Nat.le_of_ble_eq_true rfl, Nat.le_of_ble_eq_true rfl⟩ ⟨Nat.le_of_ble_eq_true rfl, Nat.le_of_ble_eq_true rfl⟩ (Nat.le_of_ble_eq_true rfl) ?_
  refine g_callSXc (k_K_Argument Y _ (by first | omega | (split <;> omega))) u_X12_checkArgument mw_407 rfl dX12_total_7 rfl rfl ⟨Nat.le_of_ble_eq_true rfl, Nat.le_of_ble_eq_true rfl⟩ ⟨Nat.le_of_ble_eq_true rfl, Nat.le_of_ble_eq_true rfl⟩ (Nat.le_of_ble_eq_true rfl) (by decide) (fun E hh => by
    obtain ⟨q1, q2⟩ := hh
    have hc : ((if ¬ (0 ≤ p ∧ p ≤ 15) then 1 else 0) : Int) = 1 := by repeat (first | omega | split)
    exact ⟨by rw [hc]; decide, by rw [hc, q2]; rfl, cSame.rfl⟩) (fun h7 => ?_)
  refine g_iload_n dX12_total_10 rfl rfl ?_
  refine g_bipush dX12_total_11 (by decide) ?_
  refine g_icmp_ne (tgt := 25) dX12_total_13 (by decide) (by omega) (by omega) (fun c_13 => ?_) (fun c_13 => ?_)
  · refine g_iload_n dX12_total_25 rfl rfl ?_
    refine g_bipush dX12_total_26 (by decide) ?_
    refine g_icmp_ne (tgt := 40) dX12_total_28 (by decide) (by omega) (by omega) (fun c_28 => ?_) (fun c_28 => ?_)
    · refine g_aload_n dX12_total_40 rfl rfl ?_
      refine g_get_TileFactory_state dX12_total_41 mw_300 (by assumption) x2 ?_
      refine g_iload_n dX12_total_44 rfl rfl ?_
      refine g_callVp (i := 8) rfl (gK0 hsh.1) (g_at8 hsh.1) (k_S_sum Y hsh hag h0 n len p (by omega)) u_X10_sum mw_981 dX12_total_45 rfl rfl ⟨Nat.le_of_ble_eq_true rfl, Nat.le_of_ble_eq_true rfl⟩ ⟨Nat.le_of_ble_eq_true rfl, Nat.le_of_ble_eq_true rfl⟩ (Nat.le_of_ble_eq_true rfl) ?_
      exact g_lret dX12_total_48 rfl (by decide) (by decide) (by
      have hc0 : ((if ¬ (0 ≤ p ∧ p ≤ 15) then 1 else 0) : Int) = 0 := by repeat (first | omega | split)
      exact ⟨hc0, rfl, G, hI, gFm.rfl⟩)
    · refine g_aload_n dX12_total_31 rfl rfl ?_
      refine g_get_TileFactory_script dX12_total_32 mw_302 (by assumption) x4 ?_
      refine g_get_Script_length dX12_total_35 mw_278 c1.1 ?_
      refine g_i2l dX12_total_38 (by omega) ?_
      exact g_lret dX12_total_39 rfl (by decide) (by decide) (by
      have hc0 : ((if ¬ (0 ≤ p ∧ p ≤ 15) then 1 else 0) : Int) = 0 := by repeat (first | omega | split)
      exact ⟨hc0, (by
        obtain rfl : p = 15 := by omega
        rw [c2]; rfl), G, hI, gFm.rfl⟩)
  · refine g_aload_n dX12_total_16 rfl rfl ?_
    refine g_get_TileFactory_history dX12_total_17 mw_301 (by assumption) x3 ?_
    refine g_get_History_count dX12_total_20 mw_264 h1 ?_
    refine g_i2l dX12_total_23 (by omega) ?_
    exact g_lret dX12_total_24 rfl (by decide) (by decide) (by
      have hc0 : ((if ¬ (0 ≤ p ∧ p ≤ 15) then 1 else 0) : Int) = 0 := by repeat (first | omega | split)
      exact ⟨hc0, (by
        obtain rfl : p = 12 := by omega
        rw [h5]; rfl), G, hI, gFm.rfl⟩)
set_option maxHeartbeats 1000000 in
set_option maxRecDepth 100000 in
theorem jp_A_shadeAt_26 {Y : gEnv} {X : gCtx} {K N : Nat → Nat} {I : Nat → Nat → Int} {A : Nat → Int → Int} {R : Nat → Nat → Option Nat} {Q : Nat → Int → Option Nat} {G : Nat → Nat × Int} {M : Nat → Prop} {x s h hq sc sg ar : Nat} {W SV T : Int → Int} {n len : Int} (hI : cI K N I A R Q G M x s h hq sc sg ar W n SV T len) (k : Int) (hk : (-2147483648 ≤ k ∧ k ≤ 2147483647)) (i : Int) (hi : (-2147483648 ≤ i ∧ i ≤ 2147483647)) (g : Int) (hg : (-2147483648 ≤ g ∧ g ≤ 2147483647)) (p : Int) (hp : (-2147483648 ≤ p ∧ p ≤ 2147483647))   (z : Int) (hz : z = if (0 ≤ k ∧ k ≤ 2) ∧ (0 ≤ i ∧ i ≤ 7) ∧ (0 ≤ g ∧ g ≤ 3) then 1 else 0) : gJ Y X yX12_shadeAt cX12_shadeAt 6 (some .int) ({ frames := 7, cells := 2, slots := 12, locals := 120 } : Room) (cOpP K N I A R Q M x s h hq sc sg ar (if ¬ ((0 ≤ k ∧ k ≤ 2) ∧ (0 ≤ i ∧ i ≤ 7) ∧ (0 ≤ g ∧ g ≤ 3)) then 1 else if ¬ (800 ≤ p ∧ p ≤ 1200) then 2 else 0) (vi (sShade W k i g p)) (W) (n) (SV) (T) (len)) (cOpX K N I A R Q (if ¬ ((0 ≤ k ∧ k ≤ 2) ∧ (0 ≤ i ∧ i ≤ 7) ∧ (0 ≤ g ∧ g ≤ 3)) then 1 else if ¬ (800 ≤ p ∧ p ≤ 1200) then 2 else 0) [xIx, xAr, xSt]) 0 0 26 [(0, .ref x), (1, vi k), (2, vi i), (3, vi g), (4, vi p)] [vi z] K N I A R Q := by
  obtain ⟨⟨x1, x2, x3, x4⟩, ⟨h1, h2, h3, h4, h5, h6, h7⟩, ⟨c1, c2, c3⟩, st, sv, hs, gg, hM⟩ := id hI
  obtain ⟨h0, hag, ev, kq, nq, hev, hE⟩ := id sv
  have hsh := st.1
  refine g_callSXc (k_K_Index Y _ (by first | omega | (split <;> omega))) u_X12_checkIndex mw_336 rfl dX12_shadeAt_26 rfl rfl ⟨Nat.le_of_ble_eq_true rfl, Nat.le_of_ble_eq_true rfl⟩ ⟨Nat.le_of_ble_eq_true rfl, Nat.le_of_ble_eq_true rfl⟩ (Nat.le_of_ble_eq_true rfl) (by decide) (fun E hh => by
    obtain ⟨q1, q2⟩ := hh
    have hc : ((if ¬ ((0 ≤ k ∧ k ≤ 2) ∧ (0 ≤ i ∧ i ≤ 7) ∧ (0 ≤ g ∧ g ≤ 3)) then 1 else if ¬ (800 ≤ p ∧ p ≤ 1200) then 2 else 0) : Int) = 1 := by repeat (first | omega | split)
    exact ⟨by rw [hc]; decide, by rw [hc, q2]; rfl, cSame.rfl⟩) (fun h26 => ?_)
  refine g_iload dX12_shadeAt_29 rfl ?_
  refine g_callSp (k_isPeak Y _ (by omega)) u_X12_isPeak mw_799 rfl dX12_shadeAt_31 rfl rfl ⟨Nat.le_of_ble_eq_true rfl, Nat.le_of_ble_eq_true rfl⟩ ⟨Nat.le_of_ble_eq_true rfl, Nat.le_of_ble_eq_true rfl⟩ (Nat.le_of_ble_eq_true rfl) ?_
  refine g_callSXc (k_K_Argument Y _ (by first | omega | (split <;> omega))) u_X12_checkArgument mw_407 rfl dX12_shadeAt_34 rfl rfl ⟨Nat.le_of_ble_eq_true rfl, Nat.le_of_ble_eq_true rfl⟩ ⟨Nat.le_of_ble_eq_true rfl, Nat.le_of_ble_eq_true rfl⟩ (Nat.le_of_ble_eq_true rfl) (by decide) (fun E hh => by
    obtain ⟨q1, q2⟩ := hh
    have hc : ((if ¬ ((0 ≤ k ∧ k ≤ 2) ∧ (0 ≤ i ∧ i ≤ 7) ∧ (0 ≤ g ∧ g ≤ 3)) then 1 else if ¬ (800 ≤ p ∧ p ≤ 1200) then 2 else 0) : Int) = 2 := by repeat (first | omega | split)
    exact ⟨by rw [hc]; decide, by rw [hc, q2]; rfl, cSame.rfl⟩) (fun h34 => ?_)
  refine g_aload_n dX12_shadeAt_37 rfl rfl ?_
  refine g_get_TileFactory_state dX12_shadeAt_38 mw_300 (by assumption) x2 ?_
  refine g_get_State_positions dX12_shadeAt_41 mw_207 hsh.1 hsh.2.2.2.1.1 ?_
  refine g_iload_n dX12_shadeAt_44 rfl rfl ?_
  refine g_bipush dX12_shadeAt_45 (by decide) ?_
  refine g_imul dX12_shadeAt_47 ?_
  refine g_iload_n dX12_shadeAt_48 rfl rfl ?_
  refine g_iadd dX12_shadeAt_49 ?_
  have r5 := hsh.2.2.2.1.2.2.2.2 (8 * k + i) (by omega) (by omega)
  have r6 := hsh.2.2.1.2.2.2.2 g (by omega) (by omega)
  have e1 := ar_121 hag (i := 8 * k + i) (by omega) (by omega)
  have e2 := st.2.1 (8 * k + i) (by omega) (by omega)
  have e3 := ar_40 hag (i := g) (by omega) (by omega)
  have e4 := ar_41 hag (i := g) (by omega) (by omega)
  have e5 := h0.2.1 (8 * k + i) (by omega) (by omega)
  have e6 := h0.1 g (by omega) (by omega)
  have e7 : p + I 121 (aRow R Q s 161 (8 * k + i)) + I 120 (aRow R Q s 161 (8 * k + i)) = sWarm W k i p := by
    rw [e1, e2]
    unfold sWarm
    rw [show (16 + 8 * k + i : Int) = 16 + (8 * k + i) by omega]
    repeat (first | omega | split)
  have e8 : -2000 ≤ sWarm W k i p ∧ sWarm W k i p ≤ 5000 := by
    rw [← e7, e1, e2]
    repeat (first | omega | split)
  rw [show k * 8 + i = 8 * k + i by omega]
  refine g_aald_Position dX12_shadeAt_50 hsh.2.2.2.1.2.1 (by rw [hsh.2.2.2.1.2.2.1]; decide) (by rw [hsh.2.2.2.1.2.2.1]; omega) r5.1 ?_
  refine g_iload dX12_shadeAt_51 rfl ?_
  refine g_callVp (i := 6) rfl (gK0 r5.2.1) (g_at6 r5.2.1) (k_O_temperature Y r5.2.1 p) u_X8_temperature mw_800 dX12_shadeAt_53 rfl rfl ⟨Nat.le_of_ble_eq_true rfl, Nat.le_of_ble_eq_true rfl⟩ ⟨Nat.le_of_ble_eq_true rfl, Nat.le_of_ble_eq_true rfl⟩ (Nat.le_of_ble_eq_true rfl) ?_
  rw [e7]
  refine g_istore dX12_shadeAt_56 (by decide) ?_
  refine g_aload_n dX12_shadeAt_58 rfl rfl ?_
  refine g_get_TileFactory_state dX12_shadeAt_59 mw_300 (by assumption) x2 ?_
  refine g_get_State_glazes dX12_shadeAt_62 mw_205 hsh.1 hsh.2.2.1.1 ?_
  refine g_iload_n dX12_shadeAt_65 rfl rfl ?_
  refine g_aald_Glaze dX12_shadeAt_66 hsh.2.2.1.2.1 (by rw [hsh.2.2.1.2.2.1]; decide) (by rw [hsh.2.2.1.2.2.1]; omega) r6.1 ?_
  refine g_iload dX12_shadeAt_67 rfl ?_
  refine g_callVp (i := 2) rfl (gK0 r6.2.1) (g_at2 r6.2.1) (k_G_shadeFrom Y r6.2.1 (sWarm W k i p) e8 (by omega) (by omega)) u_X4_shadeFrom mw_801 dX12_shadeAt_69 rfl rfl ⟨Nat.le_of_ble_eq_true rfl, Nat.le_of_ble_eq_true rfl⟩ ⟨Nat.le_of_ble_eq_true rfl, Nat.le_of_ble_eq_true rfl⟩ (Nat.le_of_ble_eq_true rfl) ?_
  exact g_iret dX12_shadeAt_72 rfl (by decide) (by decide) (by
      have hc0 : ((if ¬ ((0 ≤ k ∧ k ≤ 2) ∧ (0 ≤ i ∧ i ≤ 7) ∧ (0 ≤ g ∧ g ≤ 3)) then 1 else if ¬ (800 ≤ p ∧ p ≤ 1200) then 2 else 0) : Int) = 0 := by repeat (first | omega | split)
      exact ⟨hc0, by rw [e3, e4]; rfl, G, hI, gFm.rfl⟩)
set_option maxHeartbeats 1000000 in
set_option maxRecDepth 100000 in
theorem k_A_shadeAt (Y : gEnv) {K N : Nat → Nat} {I : Nat → Nat → Int} {A : Nat → Int → Int} {R : Nat → Nat → Option Nat} {Q : Nat → Int → Option Nat} {G : Nat → Nat × Int} {M : Nat → Prop} {x s h hq sc sg ar : Nat} {W SV T : Int → Int} {n len : Int} (hI : cI K N I A R Q G M x s h hq sc sg ar W n SV T len) (k : Int) (hk : (-2147483648 ≤ k ∧ k ≤ 2147483647)) (i : Int) (hi : (-2147483648 ≤ i ∧ i ≤ 2147483647)) (g : Int) (hg : (-2147483648 ≤ g ∧ g ≤ 2147483647)) (p : Int) (hp : (-2147483648 ≤ p ∧ p ≤ 2147483647))  : gC Y yX12_shadeAt cX12_shadeAt 6 (some .int) ({ frames := 7, cells := 2, slots := 12, locals := 120 } : Room) [.ref x, vi k, vi i, vi g, vi p] K N I A R Q (cOpP K N I A R Q M x s h hq sc sg ar (if ¬ ((0 ≤ k ∧ k ≤ 2) ∧ (0 ≤ i ∧ i ≤ 7) ∧ (0 ≤ g ∧ g ≤ 3)) then 1 else if ¬ (800 ≤ p ∧ p ≤ 1200) then 2 else 0) (vi (sShade W k i g p)) (W) (n) (SV) (T) (len)) (cOpX K N I A R Q (if ¬ ((0 ≤ k ∧ k ≤ 2) ∧ (0 ≤ i ∧ i ≤ 7) ∧ (0 ≤ g ∧ g ≤ 3)) then 1 else if ¬ (800 ≤ p ∧ p ≤ 1200) then 2 else 0) [xIx, xAr, xSt]) := by
  refine gC_of (by decide) (Nat.le_of_ble_eq_true rfl) (fun X => ?_)
  obtain ⟨⟨x1, x2, x3, x4⟩, ⟨h1, h2, h3, h4, h5, h6, h7⟩, ⟨c1, c2, c3⟩, st, sv, hs, gg, hM⟩ := id hI
  obtain ⟨h0, hag, ev, kq, nq, hev, hE⟩ := id sv
  have hsh := st.1
  refine g_iload_n dX12_shadeAt_0 rfl rfl ?_
  refine g_callSp (k_isKiln Y _ (by omega)) u_X12_isKiln mw_485 rfl dX12_shadeAt_1 rfl rfl ⟨Nat.le_of_ble_eq_true rfl, Nat.le_of_ble_eq_true rfl⟩ ⟨Nat.le_of_ble_eq_true rfl, Nat.le_of_ble_eq_true rfl⟩ (Nat.le_of_ble_eq_true rfl) ?_
  refine g_if_eq (tgt := 25) dX12_shadeAt_4 (by decide) (by omega) (fun c_4 => ?_) (fun c_4 => ?_)
  · refine g_iconst dX12_shadeAt_25 ?_
    exact jp_A_shadeAt_26 hI k hk i hi g hg p hp   _ (by repeat (first | omega | split))
  · refine g_iload_n dX12_shadeAt_7 rfl rfl ?_
    refine g_callSp (k_isPosition Y _ (by omega)) u_X12_isPosition mw_488 rfl dX12_shadeAt_8 rfl rfl ⟨Nat.le_of_ble_eq_true rfl, Nat.le_of_ble_eq_true rfl⟩ ⟨Nat.le_of_ble_eq_true rfl, Nat.le_of_ble_eq_true rfl⟩ (Nat.le_of_ble_eq_true rfl) ?_
    refine g_if_eq (tgt := 25) dX12_shadeAt_11 (by decide) (by omega) (fun c_11 => ?_) (fun c_11 => ?_)
    · refine g_iconst dX12_shadeAt_25 ?_
      exact jp_A_shadeAt_26 hI k hk i hi g hg p hp   _ (by repeat (first | omega | split))
    · refine g_iload_n dX12_shadeAt_14 rfl rfl ?_
      refine g_callSp (k_isGlaze Y _ (by omega)) u_X12_isGlaze mw_330 rfl dX12_shadeAt_15 rfl rfl ⟨Nat.le_of_ble_eq_true rfl, Nat.le_of_ble_eq_true rfl⟩ ⟨Nat.le_of_ble_eq_true rfl, Nat.le_of_ble_eq_true rfl⟩ (Nat.le_of_ble_eq_true rfl) ?_
      refine g_if_eq (tgt := 25) dX12_shadeAt_18 (by decide) (by omega) (fun c_18 => ?_) (fun c_18 => ?_)
      · refine g_iconst dX12_shadeAt_25 ?_
        exact jp_A_shadeAt_26 hI k hk i hi g hg p hp   _ (by repeat (first | omega | split))
      · refine g_iconst dX12_shadeAt_21 ?_
        refine g_goto (tgt := 26) dX12_shadeAt_22 (by decide) ?_
        exact jp_A_shadeAt_26 hI k hk i hi g hg p hp   _ (by repeat (first | omega | split))
set_option maxHeartbeats 1000000 in
set_option maxRecDepth 100000 in
theorem lp_A_bestPeak {Y : gEnv} {X : gCtx} {K N : Nat → Nat} {I : Nat → Nat → Int} {A : Nat → Int → Int} {R : Nat → Nat → Option Nat} {Q : Nat → Int → Option Nat} {G : Nat → Nat × Int} {M : Nat → Prop} {x s h hq sc sg ar : Nat} {W SV T : Int → Int} {n len : Int} (hI : cI K N I A R Q G M x s h hq sc sg ar W n SV T len) (k g t : Int) (f0 : 0 ≤ k ∧ k ≤ 2) (f1 : 0 ≤ g ∧ g ≤ 3) (f2 : 0 ≤ t ∧ t ≤ 19) : ∀ (f m : Nat) (pk b mo : Int), m < f → 800 ≤ pk → pk + m = 1201 → (0 ≤ mo ∧ mo ≤ 8) → sBestL W k g t m pk b mo = sBestL W k g t 401 800 (-1) 0 → gJ Y X yX12_bestPeak cX12_bestPeak 8 (some .int) ({ frames := 7, cells := 2, slots := 12, locals := 120 } : Room) (cOpP K N I A R Q M x s h hq sc sg ar (if ¬ ((0 ≤ k ∧ k ≤ 2) ∧ (0 ≤ g ∧ g ≤ 3)) then 1 else if ¬ (0 ≤ t ∧ t ≤ 19) then 2 else 0) (vi (sBestL W k g t 401 800 (-1) 0)) W n SV T len) (cOpX K N I A R Q (if ¬ ((0 ≤ k ∧ k ≤ 2) ∧ (0 ≤ g ∧ g ≤ 3)) then 1 else if ¬ (0 ≤ t ∧ t ≤ 19) then 2 else 0) [xIx, xAr, xSt]) 2 12 40 [(0, .ref x), (1, vi k), (2, vi g), (3, vi t), (4, vi b), (5, vi mo), (6, vi pk)] [] K N I A R Q := by
  obtain ⟨⟨x1, x2, x3, x4⟩, ⟨h1, h2, h3, h4, h5, h6, h7⟩, ⟨c1, c2, c3⟩, st, sv, hs, gg, hM⟩ := id hI
  obtain ⟨h0, hag, ev, kq, nq, hev, hE⟩ := id sv
  have hsh := st.1
  intro f
  induction f with
  | zero => intro m pk b mo h; omega
  | succ f ih =>
  intro m pk b mo hf hp hm hmo he
  have hc8 := sCnt8_range W k g t pk 8 0
  refine g_iload dX12_bestPeak_40 rfl ?_
  refine g_sipush dX12_bestPeak_42 (by decide) ?_
  refine g_icmp_gt (tgt := 83) dX12_bestPeak_45 (by decide) (by omega) (by omega) (fun c_45 => ?_) (fun c_45 => ?_)
  · refine g_iload dX12_bestPeak_83 rfl ?_
    exact g_iret dX12_bestPeak_85 rfl (by decide) (by decide) (by
      have hc0 : ((if ¬ ((0 ≤ k ∧ k ≤ 2) ∧ (0 ≤ g ∧ g ≤ 3)) then 1 else if ¬ (0 ≤ t ∧ t ≤ 19) then 2 else 0) : Int) = 0 := by repeat (first | omega | split)
      exact ⟨hc0, by rw [← he, sBestL_stop (by omega)], G, hI, gFm.rfl⟩)
  · refine g_aload_n dX12_bestPeak_48 rfl rfl ?_
    refine g_get_TileFactory_state dX12_bestPeak_49 mw_300 (by assumption) x2 ?_
    refine g_iload_n dX12_bestPeak_52 rfl rfl ?_
    refine g_iload_n dX12_bestPeak_53 rfl rfl ?_
    refine g_iload dX12_bestPeak_54 rfl ?_
    refine g_iload_n dX12_bestPeak_56 rfl rfl ?_
    refine g_callVp (i := 8) rfl (gK0 hsh.1) (g_at8 hsh.1) (k_S_posShade Y hsh hag st.2.1 h0 k g pk t f0 f1 (by omega) f2) u_X10_positionsWithShade mw_812 dX12_bestPeak_57 rfl rfl ⟨Nat.le_of_ble_eq_true rfl, Nat.le_of_ble_eq_true rfl⟩ ⟨Nat.le_of_ble_eq_true rfl, Nat.le_of_ble_eq_true rfl⟩ (Nat.le_of_ble_eq_true rfl) ?_
    refine g_istore dX12_bestPeak_60 (by decide) ?_
    refine g_iload dX12_bestPeak_62 rfl ?_
    refine g_iload dX12_bestPeak_64 rfl ?_
    refine g_icmp_le (tgt := 77) dX12_bestPeak_66 (by decide) (by omega) (by omega) (fun c_66 => ?_) (fun c_66 => ?_)
    · refine g_iinc dX12_bestPeak_77 rfl (by decide) ?_
      refine g_goto (tgt := 40) dX12_bestPeak_80 (by decide) ?_
      first
      | (rw [sBestL_take (by omega) (by omega)] at he
         exact g_locs (by exact ⟨rfl, rfl, rfl, rfl, rfl, rfl, rfl, trivial⟩) (ih (m - 1) (pk + 1) pk (sCnt8 W k g t pk 8 0) (by omega) (by omega) (by omega) (by omega) he))
      | (rw [sBestL_skip (by omega) (by omega)] at he
         exact g_locs (by exact ⟨rfl, rfl, rfl, rfl, rfl, rfl, rfl, trivial⟩) (ih (m - 1) (pk + 1) b mo (by omega) (by omega) (by omega) (by omega) he))
    · refine g_iload dX12_bestPeak_69 rfl ?_
      refine g_istore dX12_bestPeak_71 (by decide) ?_
      refine g_iload dX12_bestPeak_73 rfl ?_
      refine g_istore dX12_bestPeak_75 (by decide) ?_
      refine g_iinc dX12_bestPeak_77 rfl (by decide) ?_
      refine g_goto (tgt := 40) dX12_bestPeak_80 (by decide) ?_
      first
      | (rw [sBestL_take (by omega) (by omega)] at he
         exact g_locs (by exact ⟨rfl, rfl, rfl, rfl, rfl, rfl, rfl, trivial⟩) (ih (m - 1) (pk + 1) pk (sCnt8 W k g t pk 8 0) (by omega) (by omega) (by omega) (by omega) he))
      | (rw [sBestL_skip (by omega) (by omega)] at he
         exact g_locs (by exact ⟨rfl, rfl, rfl, rfl, rfl, rfl, rfl, trivial⟩) (ih (m - 1) (pk + 1) b mo (by omega) (by omega) (by omega) (by omega) he))
set_option maxHeartbeats 1000000 in
set_option maxRecDepth 100000 in
theorem jp_A_bestPeak_19 {Y : gEnv} {X : gCtx} {K N : Nat → Nat} {I : Nat → Nat → Int} {A : Nat → Int → Int} {R : Nat → Nat → Option Nat} {Q : Nat → Int → Option Nat} {G : Nat → Nat × Int} {M : Nat → Prop} {x s h hq sc sg ar : Nat} {W SV T : Int → Int} {n len : Int} (hI : cI K N I A R Q G M x s h hq sc sg ar W n SV T len) (k : Int) (hk : (-2147483648 ≤ k ∧ k ≤ 2147483647)) (g : Int) (hg : (-2147483648 ≤ g ∧ g ≤ 2147483647)) (t : Int) (ht : (-2147483648 ≤ t ∧ t ≤ 2147483647))   (z : Int) (hz : z = if (0 ≤ k ∧ k ≤ 2) ∧ (0 ≤ g ∧ g ≤ 3) then 1 else 0) : gJ Y X yX12_bestPeak cX12_bestPeak 8 (some .int) ({ frames := 7, cells := 2, slots := 12, locals := 120 } : Room) (cOpP K N I A R Q M x s h hq sc sg ar (if ¬ ((0 ≤ k ∧ k ≤ 2) ∧ (0 ≤ g ∧ g ≤ 3)) then 1 else if ¬ (0 ≤ t ∧ t ≤ 19) then 2 else 0) (vi (sBestL W k g t 401 800 (-1) 0)) (W) (n) (SV) (T) (len)) (cOpX K N I A R Q (if ¬ ((0 ≤ k ∧ k ≤ 2) ∧ (0 ≤ g ∧ g ≤ 3)) then 1 else if ¬ (0 ≤ t ∧ t ≤ 19) then 2 else 0) [xIx, xAr, xSt]) 0 0 19 [(0, .ref x), (1, vi k), (2, vi g), (3, vi t)] [vi z] K N I A R Q := by
  obtain ⟨⟨x1, x2, x3, x4⟩, ⟨h1, h2, h3, h4, h5, h6, h7⟩, ⟨c1, c2, c3⟩, st, sv, hs, gg, hM⟩ := id hI
  obtain ⟨h0, hag, ev, kq, nq, hev, hE⟩ := id sv
  have hsh := st.1
  refine g_callSXc (k_K_Index Y _ (by first | omega | (split <;> omega))) u_X12_checkIndex mw_336 rfl dX12_bestPeak_19 rfl rfl ⟨Nat.le_of_ble_eq_true rfl, Nat.le_of_ble_eq_true rfl⟩ ⟨Nat.le_of_ble_eq_true rfl, Nat.le_of_ble_eq_true rfl⟩ (Nat.le_of_ble_eq_true rfl) (by decide) (fun E hh => by
    obtain ⟨q1, q2⟩ := hh
    have hc : ((if ¬ ((0 ≤ k ∧ k ≤ 2) ∧ (0 ≤ g ∧ g ≤ 3)) then 1 else if ¬ (0 ≤ t ∧ t ≤ 19) then 2 else 0) : Int) = 1 := by repeat (first | omega | split)
    exact ⟨by rw [hc]; decide, by rw [hc, q2]; rfl, cSame.rfl⟩) (fun h19 => ?_)
  refine g_iload_n dX12_bestPeak_22 rfl rfl ?_
  refine g_callSp (k_isShade Y _ (by omega)) u_X12_isShade mw_809 rfl dX12_bestPeak_23 rfl rfl ⟨Nat.le_of_ble_eq_true rfl, Nat.le_of_ble_eq_true rfl⟩ ⟨Nat.le_of_ble_eq_true rfl, Nat.le_of_ble_eq_true rfl⟩ (Nat.le_of_ble_eq_true rfl) ?_
  refine g_callSXc (k_K_Argument Y _ (by first | omega | (split <;> omega))) u_X12_checkArgument mw_407 rfl dX12_bestPeak_26 rfl rfl ⟨Nat.le_of_ble_eq_true rfl, Nat.le_of_ble_eq_true rfl⟩ ⟨Nat.le_of_ble_eq_true rfl, Nat.le_of_ble_eq_true rfl⟩ (Nat.le_of_ble_eq_true rfl) (by decide) (fun E hh => by
    obtain ⟨q1, q2⟩ := hh
    have hc : ((if ¬ ((0 ≤ k ∧ k ≤ 2) ∧ (0 ≤ g ∧ g ≤ 3)) then 1 else if ¬ (0 ≤ t ∧ t ≤ 19) then 2 else 0) : Int) = 2 := by repeat (first | omega | split)
    exact ⟨by rw [hc]; decide, by rw [hc, q2]; rfl, cSame.rfl⟩) (fun h26 => ?_)
  refine g_iconst dX12_bestPeak_29 ?_
  refine g_istore dX12_bestPeak_30 (by decide) ?_
  refine g_iconst dX12_bestPeak_32 ?_
  refine g_istore dX12_bestPeak_33 (by decide) ?_
  refine g_sipush dX12_bestPeak_35 (by decide) ?_
  refine g_istore dX12_bestPeak_38 (by decide) ?_
  exact g_locs (by exact ⟨rfl, rfl, rfl, rfl, rfl, rfl, rfl, trivial⟩) (lp_A_bestPeak hI k g t (by omega) (by omega) (by omega) _ 401 800 (-1) 0 (Nat.lt_succ_self _) (by omega) (by omega) (by omega) rfl)
set_option maxHeartbeats 1000000 in
set_option maxRecDepth 100000 in
theorem k_A_bestPeak (Y : gEnv) {K N : Nat → Nat} {I : Nat → Nat → Int} {A : Nat → Int → Int} {R : Nat → Nat → Option Nat} {Q : Nat → Int → Option Nat} {G : Nat → Nat × Int} {M : Nat → Prop} {x s h hq sc sg ar : Nat} {W SV T : Int → Int} {n len : Int} (hI : cI K N I A R Q G M x s h hq sc sg ar W n SV T len) (k : Int) (hk : (-2147483648 ≤ k ∧ k ≤ 2147483647)) (g : Int) (hg : (-2147483648 ≤ g ∧ g ≤ 2147483647)) (t : Int) (ht : (-2147483648 ≤ t ∧ t ≤ 2147483647))  : gC Y yX12_bestPeak cX12_bestPeak 8 (some .int) ({ frames := 7, cells := 2, slots := 12, locals := 120 } : Room) [.ref x, vi k, vi g, vi t] K N I A R Q (cOpP K N I A R Q M x s h hq sc sg ar (if ¬ ((0 ≤ k ∧ k ≤ 2) ∧ (0 ≤ g ∧ g ≤ 3)) then 1 else if ¬ (0 ≤ t ∧ t ≤ 19) then 2 else 0) (vi (sBestL W k g t 401 800 (-1) 0)) (W) (n) (SV) (T) (len)) (cOpX K N I A R Q (if ¬ ((0 ≤ k ∧ k ≤ 2) ∧ (0 ≤ g ∧ g ≤ 3)) then 1 else if ¬ (0 ≤ t ∧ t ≤ 19) then 2 else 0) [xIx, xAr, xSt]) := by
  refine gC_of (by decide) (Nat.le_of_ble_eq_true rfl) (fun X => ?_)
  obtain ⟨⟨x1, x2, x3, x4⟩, ⟨h1, h2, h3, h4, h5, h6, h7⟩, ⟨c1, c2, c3⟩, st, sv, hs, gg, hM⟩ := id hI
  obtain ⟨h0, hag, ev, kq, nq, hev, hE⟩ := id sv
  have hsh := st.1
  refine g_iload_n dX12_bestPeak_0 rfl rfl ?_
  refine g_callSp (k_isKiln Y _ (by omega)) u_X12_isKiln mw_485 rfl dX12_bestPeak_1 rfl rfl ⟨Nat.le_of_ble_eq_true rfl, Nat.le_of_ble_eq_true rfl⟩ ⟨Nat.le_of_ble_eq_true rfl, Nat.le_of_ble_eq_true rfl⟩ (Nat.le_of_ble_eq_true rfl) ?_
  refine g_if_eq (tgt := 18) dX12_bestPeak_4 (by decide) (by omega) (fun c_4 => ?_) (fun c_4 => ?_)
  · refine g_iconst dX12_bestPeak_18 ?_
    exact jp_A_bestPeak_19 hI k hk g hg t ht   _ (by repeat (first | omega | split))
  · refine g_iload_n dX12_bestPeak_7 rfl rfl ?_
    refine g_callSp (k_isGlaze Y _ (by omega)) u_X12_isGlaze mw_330 rfl dX12_bestPeak_8 rfl rfl ⟨Nat.le_of_ble_eq_true rfl, Nat.le_of_ble_eq_true rfl⟩ ⟨Nat.le_of_ble_eq_true rfl, Nat.le_of_ble_eq_true rfl⟩ (Nat.le_of_ble_eq_true rfl) ?_
    refine g_if_eq (tgt := 18) dX12_bestPeak_11 (by decide) (by omega) (fun c_11 => ?_) (fun c_11 => ?_)
    · refine g_iconst dX12_bestPeak_18 ?_
      exact jp_A_bestPeak_19 hI k hk g hg t ht   _ (by repeat (first | omega | split))
    · refine g_iconst dX12_bestPeak_14 ?_
      refine g_goto (tgt := 19) dX12_bestPeak_15 (by decide) ?_
      exact jp_A_bestPeak_19 hI k hk g hg t ht   _ (by repeat (first | omega | split))
set_option maxHeartbeats 1000000 in
set_option maxRecDepth 100000 in
theorem k_A_wouldHide (Y : gEnv) {K N : Nat → Nat} {I : Nat → Nat → Int} {A : Nat → Int → Int} {R : Nat → Nat → Option Nat} {Q : Nat → Int → Option Nat} {G : Nat → Nat × Int} {M : Nat → Prop} {x s h hq sc sg ar : Nat} {W SV T : Int → Int} {n len : Int} (hI : cI K N I A R Q G M x s h hq sc sg ar W n SV T len) (p : Int) (hp : (-2147483648 ≤ p ∧ p ≤ 2147483647))  : gC Y yX12_wouldHide cX12_wouldHide 2 (some .int) ({ frames := 7, cells := 1, slots := 6, locals := 120 } : Room) [.ref x, vi p] K N I A R Q (cOpP K N I A R Q M x s h hq sc sg ar (if ¬ (1 ≤ p ∧ p ≤ 10) then 1 else 0) (vi (sHideL W p (W 1613).toNat 0)) (W) (n) (SV) (T) (len)) (cOpX K N I A R Q (if ¬ (1 ≤ p ∧ p ≤ 10) then 1 else 0) [xAr]) := by
  refine gC_of (by decide) (Nat.le_of_ble_eq_true rfl) (fun X => ?_)
  obtain ⟨⟨x1, x2, x3, x4⟩, ⟨h1, h2, h3, h4, h5, h6, h7⟩, ⟨c1, c2, c3⟩, st, sv, hs, gg, hM⟩ := id hI
  obtain ⟨h0, hag, ev, kq, nq, hev, hE⟩ := id sv
  have hsh := st.1
  refine g_iload_n dX12_wouldHide_0 rfl rfl ?_
  refine g_iconst dX12_wouldHide_1 ?_
  refine g_bipush dX12_wouldHide_2 (by decide) ?_
  refine g_callSp (k_isWithin Y _ _ _ (by omega) (by omega) (by omega)) u_X12_isWithin mw_333 rfl dX12_wouldHide_4 rfl rfl ⟨Nat.le_of_ble_eq_true rfl, Nat.le_of_ble_eq_true rfl⟩ ⟨Nat.le_of_ble_eq_true rfl, Nat.le_of_ble_eq_true rfl⟩ (Nat.le_of_ble_eq_true rfl) ?_
  refine g_callSXc (k_K_Argument Y _ (by first | omega | (split <;> omega))) u_X12_checkArgument mw_407 rfl dX12_wouldHide_7 rfl rfl ⟨Nat.le_of_ble_eq_true rfl, Nat.le_of_ble_eq_true rfl⟩ ⟨Nat.le_of_ble_eq_true rfl, Nat.le_of_ble_eq_true rfl⟩ (Nat.le_of_ble_eq_true rfl) (by decide) (fun E hh => by
    obtain ⟨q1, q2⟩ := hh
    have hc : ((if ¬ (1 ≤ p ∧ p ≤ 10) then 1 else 0) : Int) = 1 := by repeat (first | omega | split)
    exact ⟨by rw [hc]; decide, by rw [hc, q2]; rfl, cSame.rfl⟩) (fun h7 => ?_)
  refine g_aload_n dX12_wouldHide_10 rfl rfl ?_
  refine g_get_TileFactory_state dX12_wouldHide_11 mw_300 (by assumption) x2 ?_
  refine g_iload_n dX12_wouldHide_14 rfl rfl ?_
  refine g_callVp (i := 8) rfl (gK0 hsh.1) (g_at8 hsh.1) (k_S_hiddenAfter Y hsh hag h0 p (by omega)) u_X10_hiddenAfter mw_850 dX12_wouldHide_15 rfl rfl ⟨Nat.le_of_ble_eq_true rfl, Nat.le_of_ble_eq_true rfl⟩ ⟨Nat.le_of_ble_eq_true rfl, Nat.le_of_ble_eq_true rfl⟩ (Nat.le_of_ble_eq_true rfl) ?_
  exact g_iret dX12_wouldHide_18 rfl (by decide) (by decide) (by
      have hc0 : ((if ¬ (1 ≤ p ∧ p ≤ 10) then 1 else 0) : Int) = 0 := by repeat (first | omega | split)
      exact ⟨hc0, rfl, G, hI, gFm.rfl⟩)
