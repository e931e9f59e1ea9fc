set_option maxHeartbeats 4000000 in
set_option maxRecDepth 100000 in
theorem k_isWithin (Y : gEnv) {K N : Nat → Nat} {I : Nat → Nat → Int} {A : Nat → Int → Int} {R : Nat → Nat → Option Nat} {Q : Nat → Int → Option Nat} (a b c : Int) (ha : -2147483648 ≤ a ∧ a ≤ 2147483647) (hb : -2147483648 ≤ b ∧ b ≤ 2147483647) (hc : -2147483648 ≤ c ∧ c ≤ 2147483647) : gC Y yX12_isWithin cX12_isWithin 3 (some .boolean) ({ frames := 0, cells := 0, slots := 0, locals := 0 } : Room) [vi a, vi b, vi c] K N I A R Q (g_pu (some (vi (if b ≤ a ∧ a ≤ c then 1 else 0))) K N I A R Q) gno := by
  refine gC_of (by decide) (Nat.le_of_ble_eq_true rfl) (fun X => ?_)
  refine g_iload_n dX12_isWithin_0 rfl rfl ?_
  refine g_iload_n dX12_isWithin_1 rfl rfl ?_
  refine g_icmp_lt (tgt := 14) dX12_isWithin_2 (by decide) (by omega) (by omega) (fun c_2 => ?_) (fun c_2 => ?_)
  · refine g_iconst dX12_isWithin_14 ?_
    exact g_zret dX12_isWithin_15 rfl (by omega) (by decide) (by decide) (g_pu_i (by split <;> omega) _ _ _ _ _ _)
  · refine g_iload_n dX12_isWithin_5 rfl rfl ?_
    refine g_iload_n dX12_isWithin_6 rfl rfl ?_
    refine g_icmp_gt (tgt := 14) dX12_isWithin_7 (by decide) (by omega) (by omega) (fun c_7 => ?_) (fun c_7 => ?_)
    · refine g_iconst dX12_isWithin_14 ?_
      exact g_zret dX12_isWithin_15 rfl (by omega) (by decide) (by decide) (g_pu_i (by split <;> omega) _ _ _ _ _ _)
    · refine g_iconst dX12_isWithin_10 ?_
      refine g_goto (tgt := 15) dX12_isWithin_11 (by decide) ?_
      exact g_zret dX12_isWithin_15 rfl (by omega) (by decide) (by decide) (g_pu_i (by split <;> omega) _ _ _ _ _ _)
set_option maxHeartbeats 4000000 in
set_option maxRecDepth 100000 in
theorem k_isPercentage (Y : gEnv) {K N : Nat → Nat} {I : Nat → Nat → Int} {A : Nat → Int → Int} {R : Nat → Nat → Option Nat} {Q : Nat → Int → Option Nat} (a : Int) (ha : -2147483648 ≤ a ∧ a ≤ 2147483647) : gC Y yX12_isPercentage cX12_isPercentage 1 (some .boolean) ({ frames := 1, cells := 0, slots := 0, locals := 22 } : Room) [vi a] K N I A R Q (g_pu (some (vi (if 0 ≤ a ∧ a ≤ 100 then 1 else 0))) K N I A R Q) gno := by
  refine gC_of (by decide) (Nat.le_of_ble_eq_true rfl) (fun X => ?_)
  refine g_iload_n dX12_isPercentage_0 rfl rfl ?_
  refine g_iconst dX12_isPercentage_1 ?_
  refine g_bipush dX12_isPercentage_2 (by decide) ?_
  refine g_callSp (k_isWithin Y _ _ _ (by omega) (by omega) (by omega)) u_X12_isWithin mw_333 rfl dX12_isPercentage_4 rfl rfl ⟨Nat.le_of_ble_eq_true rfl, Nat.le_of_ble_eq_true rfl⟩ ⟨Nat.le_of_ble_eq_true rfl, Nat.le_of_ble_eq_true rfl⟩ (Nat.le_of_ble_eq_true rfl) ?_
  exact g_zret dX12_isPercentage_7 rfl (by split <;> simp) (by decide) (by decide) (g_pu_i rfl _ _ _ _ _ _)
set_option maxHeartbeats 4000000 in
set_option maxRecDepth 100000 in
theorem k_isGlaze (Y : gEnv) {K N : Nat → Nat} {I : Nat → Nat → Int} {A : Nat → Int → Int} {R : Nat → Nat → Option Nat} {Q : Nat → Int → Option Nat} (a : Int) (ha : -2147483648 ≤ a ∧ a ≤ 2147483647) : gC Y yX12_isGlaze cX12_isGlaze 1 (some .boolean) ({ frames := 1, cells := 0, slots := 0, locals := 22 } : Room) [vi a] K N I A R Q (g_pu (some (vi (if 0 ≤ a ∧ a ≤ 3 then 1 else 0))) K N I A R Q) gno := by
  refine gC_of (by decide) (Nat.le_of_ble_eq_true rfl) (fun X => ?_)
  refine g_iload_n dX12_isGlaze_0 rfl rfl ?_
  refine g_iconst dX12_isGlaze_1 ?_
  refine g_iconst dX12_isGlaze_2 ?_
  refine g_callSp (k_isWithin Y _ _ _ (by omega) (by omega) (by omega)) u_X12_isWithin mw_333 rfl dX12_isGlaze_3 rfl rfl ⟨Nat.le_of_ble_eq_true rfl, Nat.le_of_ble_eq_true rfl⟩ ⟨Nat.le_of_ble_eq_true rfl, Nat.le_of_ble_eq_true rfl⟩ (Nat.le_of_ble_eq_true rfl) ?_
  exact g_zret dX12_isGlaze_6 rfl (by split <;> simp) (by decide) (by decide) (g_pu_i rfl _ _ _ _ _ _)
set_option maxHeartbeats 4000000 in
set_option maxRecDepth 100000 in
theorem k_isShade (Y : gEnv) {K N : Nat → Nat} {I : Nat → Nat → Int} {A : Nat → Int → Int} {R : Nat → Nat → Option Nat} {Q : Nat → Int → Option Nat} (a : Int) (ha : -2147483648 ≤ a ∧ a ≤ 2147483647) : gC Y yX12_isShade cX12_isShade 1 (some .boolean) ({ frames := 1, cells := 0, slots := 0, locals := 22 } : Room) [vi a] K N I A R Q (g_pu (some (vi (if 0 ≤ a ∧ a ≤ 19 then 1 else 0))) K N I A R Q) gno := by
  refine gC_of (by decide) (Nat.le_of_ble_eq_true rfl) (fun X => ?_)
  refine g_iload_n dX12_isShade_0 rfl rfl ?_
  refine g_iconst dX12_isShade_1 ?_
  refine g_bipush dX12_isShade_2 (by decide) ?_
  refine g_callSp (k_isWithin Y _ _ _ (by omega) (by omega) (by omega)) u_X12_isWithin mw_333 rfl dX12_isShade_4 rfl rfl ⟨Nat.le_of_ble_eq_true rfl, Nat.le_of_ble_eq_true rfl⟩ ⟨Nat.le_of_ble_eq_true rfl, Nat.le_of_ble_eq_true rfl⟩ (Nat.le_of_ble_eq_true rfl) ?_
  exact g_zret dX12_isShade_7 rfl (by split <;> simp) (by decide) (by decide) (g_pu_i rfl _ _ _ _ _ _)
set_option maxHeartbeats 4000000 in
set_option maxRecDepth 100000 in
theorem k_isGrade (Y : gEnv) {K N : Nat → Nat} {I : Nat → Nat → Int} {A : Nat → Int → Int} {R : Nat → Nat → Option Nat} {Q : Nat → Int → Option Nat} (a : Int) (ha : -2147483648 ≤ a ∧ a ≤ 2147483647) : gC Y yX12_isGrade cX12_isGrade 1 (some .boolean) ({ frames := 1, cells := 0, slots := 0, locals := 22 } : Room) [vi a] K N I A R Q (g_pu (some (vi (if 1 ≤ a ∧ a ≤ 2 then 1 else 0))) K N I A R Q) gno := by
  refine gC_of (by decide) (Nat.le_of_ble_eq_true rfl) (fun X => ?_)
  refine g_iload_n dX12_isGrade_0 rfl rfl ?_
  refine g_iconst dX12_isGrade_1 ?_
  refine g_iconst dX12_isGrade_2 ?_
  refine g_callSp (k_isWithin Y _ _ _ (by omega) (by omega) (by omega)) u_X12_isWithin mw_333 rfl dX12_isGrade_3 rfl rfl ⟨Nat.le_of_ble_eq_true rfl, Nat.le_of_ble_eq_true rfl⟩ ⟨Nat.le_of_ble_eq_true rfl, Nat.le_of_ble_eq_true rfl⟩ (Nat.le_of_ble_eq_true rfl) ?_
  exact g_zret dX12_isGrade_6 rfl (by split <;> simp) (by decide) (by decide) (g_pu_i rfl _ _ _ _ _ _)
set_option maxHeartbeats 4000000 in
set_option maxRecDepth 100000 in
theorem k_isKiln (Y : gEnv) {K N : Nat → Nat} {I : Nat → Nat → Int} {A : Nat → Int → Int} {R : Nat → Nat → Option Nat} {Q : Nat → Int → Option Nat} (a : Int) (ha : -2147483648 ≤ a ∧ a ≤ 2147483647) : gC Y yX12_isKiln cX12_isKiln 1 (some .boolean) ({ frames := 1, cells := 0, slots := 0, locals := 22 } : Room) [vi a] K N I A R Q (g_pu (some (vi (if 0 ≤ a ∧ a ≤ 2 then 1 else 0))) K N I A R Q) gno := by
  refine gC_of (by decide) (Nat.le_of_ble_eq_true rfl) (fun X => ?_)
  refine g_iload_n dX12_isKiln_0 rfl rfl ?_
  refine g_iconst dX12_isKiln_1 ?_
  refine g_iconst dX12_isKiln_2 ?_
  refine g_callSp (k_isWithin Y _ _ _ (by omega) (by omega) (by omega)) u_X12_isWithin mw_333 rfl dX12_isKiln_3 rfl rfl ⟨Nat.le_of_ble_eq_true rfl, Nat.le_of_ble_eq_true rfl⟩ ⟨Nat.le_of_ble_eq_true rfl, Nat.le_of_ble_eq_true rfl⟩ (Nat.le_of_ble_eq_true rfl) ?_
  exact g_zret dX12_isKiln_6 rfl (by split <;> simp) (by decide) (by decide) (g_pu_i rfl _ _ _ _ _ _)
set_option maxHeartbeats 4000000 in
set_option maxRecDepth 100000 in
theorem k_isPosition (Y : gEnv) {K N : Nat → Nat} {I : Nat → Nat → Int} {A : Nat → Int → Int} {R : Nat → Nat → Option Nat} {Q : Nat → Int → Option Nat} (a : Int) (ha : -2147483648 ≤ a ∧ a ≤ 2147483647) : gC Y yX12_isPosition cX12_isPosition 1 (some .boolean) ({ frames := 1, cells := 0, slots := 0, locals := 22 } : Room) [vi a] K N I A R Q (g_pu (some (vi (if 0 ≤ a ∧ a ≤ 7 then 1 else 0))) K N I A R Q) gno := by
  refine gC_of (by decide) (Nat.le_of_ble_eq_true rfl) (fun X => ?_)
  refine g_iload_n dX12_isPosition_0 rfl rfl ?_
  refine g_iconst dX12_isPosition_1 ?_
  refine g_bipush dX12_isPosition_2 (by decide) ?_
  refine g_callSp (k_isWithin Y _ _ _ (by omega) (by omega) (by omega)) u_X12_isWithin mw_333 rfl dX12_isPosition_4 rfl rfl ⟨Nat.le_of_ble_eq_true rfl, Nat.le_of_ble_eq_true rfl⟩ ⟨Nat.le_of_ble_eq_true rfl, Nat.le_of_ble_eq_true rfl⟩ (Nat.le_of_ble_eq_true rfl) ?_
  exact g_zret dX12_isPosition_7 rfl (by split <;> simp) (by decide) (by decide) (g_pu_i rfl _ _ _ _ _ _)
set_option maxHeartbeats 4000000 in
set_option maxRecDepth 100000 in
theorem k_isPeak (Y : gEnv) {K N : Nat → Nat} {I : Nat → Nat → Int} {A : Nat → Int → Int} {R : Nat → Nat → Option Nat} {Q : Nat → Int → Option Nat} (a : Int) (ha : -2147483648 ≤ a ∧ a ≤ 2147483647) : gC Y yX12_isPeak cX12_isPeak 1 (some .boolean) ({ frames := 1, cells := 0, slots := 0, locals := 22 } : Room) [vi a] K N I A R Q (g_pu (some (vi (if 800 ≤ a ∧ a ≤ 1200 then 1 else 0))) K N I A R Q) gno := by
  refine gC_of (by decide) (Nat.le_of_ble_eq_true rfl) (fun X => ?_)
  refine g_iload_n dX12_isPeak_0 rfl rfl ?_
  refine g_sipush dX12_isPeak_1 (by decide) ?_
  refine g_sipush dX12_isPeak_4 (by decide) ?_
  refine g_callSp (k_isWithin Y _ _ _ (by omega) (by omega) (by omega)) u_X12_isWithin mw_333 rfl dX12_isPeak_7 rfl rfl ⟨Nat.le_of_ble_eq_true rfl, Nat.le_of_ble_eq_true rfl⟩ ⟨Nat.le_of_ble_eq_true rfl, Nat.le_of_ble_eq_true rfl⟩ (Nat.le_of_ble_eq_true rfl) ?_
  exact g_zret dX12_isPeak_10 rfl (by split <;> simp) (by decide) (by decide) (g_pu_i rfl _ _ _ _ _ _)
set_option maxHeartbeats 4000000 in
set_option maxRecDepth 100000 in
theorem k_isBoxCount (Y : gEnv) {K N : Nat → Nat} {I : Nat → Nat → Int} {A : Nat → Int → Int} {R : Nat → Nat → Option Nat} {Q : Nat → Int → Option Nat} (a : Int) (ha : -2147483648 ≤ a ∧ a ≤ 2147483647) : gC Y yX12_isBoxCount cX12_isBoxCount 1 (some .boolean) ({ frames := 1, cells := 0, slots := 0, locals := 22 } : Room) [vi a] K N I A R Q (g_pu (some (vi (if 1 ≤ a ∧ a ≤ 100000 then 1 else 0))) K N I A R Q) gno := by
  refine gC_of (by decide) (Nat.le_of_ble_eq_true rfl) (fun X => ?_)
  refine g_iload_n dX12_isBoxCount_0 rfl rfl ?_
  refine g_iconst dX12_isBoxCount_1 ?_
  refine g_ldcw (c := 100000) dX12_isBoxCount_2 mw_683 (by decide) ?_
  refine g_callSp (k_isWithin Y _ _ _ (by omega) (by omega) (by omega)) u_X12_isWithin mw_333 rfl dX12_isBoxCount_5 rfl rfl ⟨Nat.le_of_ble_eq_true rfl, Nat.le_of_ble_eq_true rfl⟩ ⟨Nat.le_of_ble_eq_true rfl, Nat.le_of_ble_eq_true rfl⟩ (Nat.le_of_ble_eq_true rfl) ?_
  exact g_zret dX12_isBoxCount_8 rfl (by split <;> simp) (by decide) (by decide) (g_pu_i rfl _ _ _ _ _ _)
