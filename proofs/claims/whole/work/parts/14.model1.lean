set_option maxHeartbeats 4000000 in
set_option maxRecDepth 100000 in
theorem k_M_in (Y : gEnv) {K N : Nat → Nat} {I : Nat → Nat → Int} {A : Nat → Int → Int} {R : Nat → Nat → Option Nat} {Q : Nat → Int → Option Nat} (a b c : Int) (ha : (-9223372036854775808 ≤ a ∧ a ≤ 9223372036854775807)) (hb : (-9223372036854775808 ≤ b ∧ b ≤ 9223372036854775807)) (hc : (-9223372036854775808 ≤ c ∧ c ≤ 9223372036854775807)) : gC Y yX13_in cX13_in 6 (some .boolean) ({ frames := 0, cells := 0, slots := 0, locals := 0 } : Room) [vl a, vl b, vl c] K N I A R Q (g_pu (some (vi (if b ≤ a ∧ a ≤ c then 1 else 0))) K N I A R Q) gno := by
  refine gC_of (by decide) (Nat.le_of_ble_eq_true rfl) (fun X => ?_)
  refine g_lload_n dX13_in_0 rfl rfl ?_
  refine g_lload_n dX13_in_1 rfl rfl ?_
  refine g_lcmp_lt (tgt := 17) dX13_in_2 dX13_in_3 (by decide) (by omega) (by omega) (fun c_2 => ?_) (fun c_2 => ?_)
  · refine g_iconst dX13_in_17 ?_
    exact g_zret dX13_in_18 rfl (by omega) (by decide) (by decide) (g_pu_i (by split <;> omega) _ _ _ _ _ _)
  · refine g_lload_n dX13_in_6 rfl rfl ?_
    refine g_lload dX13_in_7 rfl ?_
    refine g_lcmp_gt (tgt := 17) dX13_in_9 dX13_in_10 (by decide) (by omega) (by omega) (fun c_9 => ?_) (fun c_9 => ?_)
    · refine g_iconst dX13_in_17 ?_
      exact g_zret dX13_in_18 rfl (by omega) (by decide) (by decide) (g_pu_i (by split <;> omega) _ _ _ _ _ _)
    · refine g_iconst dX13_in_13 ?_
      refine g_goto (tgt := 18) dX13_in_14 (by decide) ?_
      exact g_zret dX13_in_18 rfl (by omega) (by decide) (by decide) (g_pu_i (by split <;> omega) _ _ _ _ _ _)
set_option maxHeartbeats 4000000 in
set_option maxRecDepth 100000 in
theorem k_M_isGlaze (Y : gEnv) {K N : Nat → Nat} {I : Nat → Nat → Int} {A : Nat → Int → Int} {R : Nat → Nat → Option Nat} {Q : Nat → Int → Option Nat} (a : Int) (ha : (-2147483648 ≤ a ∧ a ≤ 2147483647)) : gC Y yX13_isGlaze cX13_isGlaze 1 (some .boolean) ({ frames := 1, cells := 0, slots := 0, locals := 25 } : Room) [vi a] K N I A R Q (g_pu (some (vi (if 0 ≤ a ∧ a ≤ 3 then 1 else 0))) K N I A R Q) gno := by
  refine gC_of (by decide) (Nat.le_of_ble_eq_true rfl) (fun X => ?_)
  refine g_iload_n dX13_isGlaze_0 rfl rfl ?_
  refine g_i2l dX13_isGlaze_1 (by omega) ?_
  refine g_lconst (c := 0) dX13_isGlaze_2 (by decide) ?_
  refine g_ldc2 (c := 3) dX13_isGlaze_3 mw_1198 (by decide) ?_
  refine g_callSp (k_M_in Y _ _ _ (by omega) (by omega) (by omega)) u_X13_in mw_1199 rfl dX13_isGlaze_6 rfl rfl ⟨Nat.le_of_ble_eq_true rfl, Nat.le_of_ble_eq_true rfl⟩ ⟨Nat.le_of_ble_eq_true rfl, Nat.le_of_ble_eq_true rfl⟩ (Nat.le_of_ble_eq_true rfl) ?_
  exact g_zret dX13_isGlaze_9 rfl (by split <;> simp) (by decide) (by decide) (g_pu_i rfl _ _ _ _ _ _)
set_option maxHeartbeats 4000000 in
set_option maxRecDepth 100000 in
theorem k_M_isKiln (Y : gEnv) {K N : Nat → Nat} {I : Nat → Nat → Int} {A : Nat → Int → Int} {R : Nat → Nat → Option Nat} {Q : Nat → Int → Option Nat} (a : Int) (ha : (-2147483648 ≤ a ∧ a ≤ 2147483647)) : gC Y yX13_isKiln cX13_isKiln 1 (some .boolean) ({ frames := 1, cells := 0, slots := 0, locals := 25 } : Room) [vi a] K N I A R Q (g_pu (some (vi (if 0 ≤ a ∧ a ≤ 2 then 1 else 0))) K N I A R Q) gno := by
  refine gC_of (by decide) (Nat.le_of_ble_eq_true rfl) (fun X => ?_)
  refine g_iload_n dX13_isKiln_0 rfl rfl ?_
  refine g_i2l dX13_isKiln_1 (by omega) ?_
  refine g_lconst (c := 0) dX13_isKiln_2 (by decide) ?_
  refine g_ldc2 (c := 2) dX13_isKiln_3 mw_1224 (by decide) ?_
  refine g_callSp (k_M_in Y _ _ _ (by omega) (by omega) (by omega)) u_X13_in mw_1199 rfl dX13_isKiln_6 rfl rfl ⟨Nat.le_of_ble_eq_true rfl, Nat.le_of_ble_eq_true rfl⟩ ⟨Nat.le_of_ble_eq_true rfl, Nat.le_of_ble_eq_true rfl⟩ (Nat.le_of_ble_eq_true rfl) ?_
  exact g_zret dX13_isKiln_9 rfl (by split <;> simp) (by decide) (by decide) (g_pu_i rfl _ _ _ _ _ _)
set_option maxHeartbeats 4000000 in
set_option maxRecDepth 100000 in
theorem k_M_isPlace (Y : gEnv) {K N : Nat → Nat} {I : Nat → Nat → Int} {A : Nat → Int → Int} {R : Nat → Nat → Option Nat} {Q : Nat → Int → Option Nat} (a : Int) (ha : (-2147483648 ≤ a ∧ a ≤ 2147483647)) : gC Y yX13_isPlace cX13_isPlace 1 (some .boolean) ({ frames := 1, cells := 0, slots := 0, locals := 25 } : Room) [vi a] K N I A R Q (g_pu (some (vi (if 0 ≤ a ∧ a ≤ 7 then 1 else 0))) K N I A R Q) gno := by
  refine gC_of (by decide) (Nat.le_of_ble_eq_true rfl) (fun X => ?_)
  refine g_iload_n dX13_isPlace_0 rfl rfl ?_
  refine g_i2l dX13_isPlace_1 (by omega) ?_
  refine g_lconst (c := 0) dX13_isPlace_2 (by decide) ?_
  refine g_ldc2 (c := 7) dX13_isPlace_3 mw_1228 (by decide) ?_
  refine g_callSp (k_M_in Y _ _ _ (by omega) (by omega) (by omega)) u_X13_in mw_1199 rfl dX13_isPlace_6 rfl rfl ⟨Nat.le_of_ble_eq_true rfl, Nat.le_of_ble_eq_true rfl⟩ ⟨Nat.le_of_ble_eq_true rfl, Nat.le_of_ble_eq_true rfl⟩ (Nat.le_of_ble_eq_true rfl) ?_
  exact g_zret dX13_isPlace_9 rfl (by split <;> simp) (by decide) (by decide) (g_pu_i rfl _ _ _ _ _ _)
set_option maxHeartbeats 4000000 in
set_option maxRecDepth 100000 in
theorem k_M_isGrade (Y : gEnv) {K N : Nat → Nat} {I : Nat → Nat → Int} {A : Nat → Int → Int} {R : Nat → Nat → Option Nat} {Q : Nat → Int → Option Nat} (a : Int) (ha : (-2147483648 ≤ a ∧ a ≤ 2147483647)) : gC Y yX13_isGrade cX13_isGrade 1 (some .boolean) ({ frames := 1, cells := 0, slots := 0, locals := 25 } : Room) [vi a] K N I A R Q (g_pu (some (vi (if 1 ≤ a ∧ a ≤ 2 then 1 else 0))) K N I A R Q) gno := by
  refine gC_of (by decide) (Nat.le_of_ble_eq_true rfl) (fun X => ?_)
  refine g_iload_n dX13_isGrade_0 rfl rfl ?_
  refine g_i2l dX13_isGrade_1 (by omega) ?_
  refine g_lconst (c := 1) dX13_isGrade_2 (by decide) ?_
  refine g_ldc2 (c := 2) dX13_isGrade_3 mw_1224 (by decide) ?_
  refine g_callSp (k_M_in Y _ _ _ (by omega) (by omega) (by omega)) u_X13_in mw_1199 rfl dX13_isGrade_6 rfl rfl ⟨Nat.le_of_ble_eq_true rfl, Nat.le_of_ble_eq_true rfl⟩ ⟨Nat.le_of_ble_eq_true rfl, Nat.le_of_ble_eq_true rfl⟩ (Nat.le_of_ble_eq_true rfl) ?_
  exact g_zret dX13_isGrade_9 rfl (by split <;> simp) (by decide) (by decide) (g_pu_i rfl _ _ _ _ _ _)
set_option maxHeartbeats 4000000 in
set_option maxRecDepth 100000 in
theorem k_M_isMany (Y : gEnv) {K N : Nat → Nat} {I : Nat → Nat → Int} {A : Nat → Int → Int} {R : Nat → Nat → Option Nat} {Q : Nat → Int → Option Nat} (a : Int) (ha : (-2147483648 ≤ a ∧ a ≤ 2147483647)) : gC Y yX13_isMany cX13_isMany 1 (some .boolean) ({ frames := 1, cells := 0, slots := 0, locals := 25 } : Room) [vi a] K N I A R Q (g_pu (some (vi (if 1 ≤ a ∧ a ≤ 100000 then 1 else 0))) K N I A R Q) gno := by
  refine gC_of (by decide) (Nat.le_of_ble_eq_true rfl) (fun X => ?_)
  refine g_iload_n dX13_isMany_0 rfl rfl ?_
  refine g_i2l dX13_isMany_1 (by omega) ?_
  refine g_lconst (c := 1) dX13_isMany_2 (by decide) ?_
  refine g_ldc2 (c := 100000) dX13_isMany_3 mw_1326 (by decide) ?_
  refine g_callSp (k_M_in Y _ _ _ (by omega) (by omega) (by omega)) u_X13_in mw_1199 rfl dX13_isMany_6 rfl rfl ⟨Nat.le_of_ble_eq_true rfl, Nat.le_of_ble_eq_true rfl⟩ ⟨Nat.le_of_ble_eq_true rfl, Nat.le_of_ble_eq_true rfl⟩ (Nat.le_of_ble_eq_true rfl) ?_
  exact g_zret dX13_isMany_9 rfl (by split <;> simp) (by decide) (by decide) (g_pu_i rfl _ _ _ _ _ _)
set_option maxHeartbeats 4000000 in
set_option maxRecDepth 100000 in
theorem k_M_thrown (Y : gEnv) {K N : Nat → Nat} {I : Nat → Nat → Int} {A : Nat → Int → Int} {R : Nat → Nat → Option Nat} {Q : Nat → Int → Option Nat} {x w sv tx ag : Nat} (hM : mS K N R x w sv tx ag) : gC Y yX13_thrown cX13_thrown 1 (some .int) ({ frames := 0, cells := 0, slots := 0, locals := 0 } : Room) [.ref x] K N I A R Q (g_pu (some (vi (I 206 x))) K N I A R Q) gno := by
  refine gC_of (by decide) (Nat.le_of_ble_eq_true rfl) (fun X => ?_)
  obtain ⟨hKx, hRw, hRs, hRt, hRa, hKw, hNw, hKs, hNs, hKt, hNt, hKa, hNa, hta⟩ := id hM
  refine g_aload_n dX13_thrown_0 rfl rfl ?_
  refine g_get_Model_thrown dX13_thrown_1 mw_1161 (by assumption) ?_
  exact g_iret dX13_thrown_4 rfl (by decide) (by decide) (g_pu_i rfl _ _ _ _ _ _)
set_option maxHeartbeats 4000000 in
set_option maxRecDepth 100000 in
theorem k_M_refuse (Y : gEnv) {K N : Nat → Nat} {I : Nat → Nat → Int} {A : Nat → Int → Int} {R : Nat → Nat → Option Nat} {Q : Nat → Int → Option Nat} {x w sv tx ag : Nat} (hM : mS K N R x w sv tx ag) (c : Int) : gC Y yX13_refuse cX13_refuse 2 (some .int) ({ frames := 0, cells := 0, slots := 0, locals := 0 } : Room) [.ref x, vi c] K N I A R Q (g_wr K N R Q (fun v I' A' => v = some (vi 0) ∧ I' = g_up I 206 x c ∧ A' = A)) gno := by
  refine gC_of (by decide) (Nat.le_of_ble_eq_true rfl) (fun X => ?_)
  obtain ⟨hKx, hRw, hRs, hRt, hRa, hKw, hNw, hKs, hNs, hKt, hNt, hKa, hNa, hta⟩ := id hM
  refine g_aload_n dX13_refuse_0 rfl rfl ?_
  refine g_iload_n dX13_refuse_1 rfl rfl ?_
  refine g_put_Model_thrown dX13_refuse_2 mw_1161 (by assumption) (fun I2 hI2 => ?_)
  refine g_iconst dX13_refuse_5 ?_
  exact g_iret dX13_refuse_6 rfl (by decide) (by decide) ⟨rfl, rfl, rfl, rfl, rfl, hI2, rfl⟩
set_option maxHeartbeats 4000000 in
set_option maxRecDepth 100000 in
theorem k_M_hundredth (Y : gEnv) {K N : Nat → Nat} {I : Nat → Nat → Int} {A : Nat → Int → Int} {R : Nat → Nat → Option Nat} {Q : Nat → Int → Option Nat} (v : Int) (hv : -1000000000000000 ≤ v ∧ v ≤ 1000000000000000) : gC Y yX13_hundredth cX13_hundredth 4 (some .long) ({ frames := 0, cells := 0, slots := 0, locals := 0 } : Room) [vl v] K N I A R Q (g_pu (some (vl (v / 100))) K N I A R Q) gno := by
  refine gC_of (by decide) (Nat.le_of_ble_eq_true rfl) (fun X => ?_)
  have hq := @sHundredth v
  have hr : -1000000000000000 ≤ v.tdiv 100 ∧ v.tdiv 100 ≤ 1000000000000000 := by split at hq <;> omega
  refine g_lload_n dX13_hundredth_0 rfl rfl ?_
  refine g_ldc2 (c := 100) dX13_hundredth_1 mw_1153 (by decide) ?_
  refine g_ldiv dX13_hundredth_4 (by omega) (by omega) (by omega) ?_
  refine g_lstore_n dX13_hundredth_5 rfl (by decide) ?_
  refine g_lload_n dX13_hundredth_6 rfl rfl ?_
  refine g_ldc2 (c := 100) dX13_hundredth_7 mw_1153 (by decide) ?_
  refine g_lmul dX13_hundredth_10 ?_
  refine g_lload_n dX13_hundredth_11 rfl rfl ?_
  refine g_lcmp_le (tgt := 22) dX13_hundredth_12 dX13_hundredth_13 (by decide) (by omega) (by omega) (fun c_12 => ?_) (fun c_12 => ?_)
  · refine g_lload_n dX13_hundredth_22 rfl rfl ?_
    exact g_lret dX13_hundredth_23 rfl (by decide) (by decide) (g_pu_l (by rw [← hq]; split <;> omega) _ _ _ _ _ _)
  · refine g_lload_n dX13_hundredth_16 rfl rfl ?_
    refine g_lconst (c := 1) dX13_hundredth_17 (by decide) ?_
    refine g_lsub dX13_hundredth_18 ?_
    refine g_goto (tgt := 23) dX13_hundredth_19 (by decide) ?_
    exact g_lret dX13_hundredth_23 rfl (by decide) (by decide) (g_pu_l (by rw [← hq]; split <;> omega) _ _ _ _ _ _)
set_option maxHeartbeats 4000000 in
set_option maxRecDepth 100000 in
theorem k_M_content (Y : gEnv) {K N : Nat → Nat} {I : Nat → Nat → Int} {A : Nat → Int → Int} {R : Nat → Nat → Option Nat} {Q : Nat → Int → Option Nat} {x w sv tx ag : Nat} (hM : mS K N R x w sv tx ag) (l : Int) (hl : 0 ≤ l ∧ l < 160) : gC Y yX13_content cX13_content 2 (some .long) ({ frames := 0, cells := 0, slots := 0, locals := 0 } : Room) [.ref x, vi l] K N I A R Q (g_pu (some (vl (sContent (A w) l))) K N I A R Q) gno := by
  refine gC_of (by decide) (Nat.le_of_ble_eq_true rfl) (fun X => ?_)
  obtain ⟨hKx, hRw, hRs, hRt, hRa, hKw, hNw, hKs, hNs, hKt, hNt, hKa, hNa, hta⟩ := id hM
  refine g_aload_n dX13_content_0 rfl rfl ?_
  refine g_get_Model_w dX13_content_1 mw_1155 (by assumption) (by assumption) ?_
  refine g_sipush dX13_content_4 (by decide) ?_
  refine g_iload_n dX13_content_7 rfl rfl ?_
  refine g_iadd dX13_content_8 ?_
  refine g_laload dX13_content_9 (by assumption) (by omega) (by omega) ?_
  refine g_aload_n dX13_content_10 rfl rfl ?_
  refine g_get_Model_w dX13_content_11 mw_1155 (by assumption) (by assumption) ?_
  refine g_sipush dX13_content_14 (by decide) ?_
  refine g_iload_n dX13_content_17 rfl rfl ?_
  refine g_iadd dX13_content_18 ?_
  refine g_laload dX13_content_19 (by assumption) (by omega) (by omega) ?_
  refine g_aload_n dX13_content_20 rfl rfl ?_
  refine g_get_Model_w dX13_content_21 mw_1155 (by assumption) (by assumption) ?_
  refine g_bipush dX13_content_24 (by decide) ?_
  refine g_laload dX13_content_26 (by assumption) (by omega) (by omega) ?_
  refine g_lmul dX13_content_27 ?_
  refine g_ladd dX13_content_28 ?_
  exact g_lret dX13_content_29 rfl (by decide) (by decide) (g_pu_l rfl _ _ _ _ _ _)
set_option maxHeartbeats 4000000 in
set_option maxRecDepth 100000 in
theorem k_M_worth (Y : gEnv) {K N : Nat → Nat} {I : Nat → Nat → Int} {A : Nat → Int → Int} {R : Nat → Nat → Option Nat} {Q : Nat → Int → Option Nat} {x w sv tx ag : Nat} (hM : mS K N R x w sv tx ag) (hB : mB (A w)) (l : Int) (hl : 0 ≤ l ∧ l < 160) (hg : 0 ≤ A w (410 + l) ∧ A w (410 + l) ≤ 3) : gC Y yX13_worth cX13_worth 4 (some .long) ({ frames := 0, cells := 0, slots := 0, locals := 0 } : Room) [.ref x, vi l] K N I A R Q (g_pu (some (vl (sWorth (A w) l))) K N I A R Q) gno := by
  refine gC_of (by decide) (Nat.le_of_ble_eq_true rfl) (fun X => ?_)
  obtain ⟨hKx, hRw, hRs, hRt, hRa, hKw, hNw, hKs, hNs, hKt, hNt, hKa, hNa, hta⟩ := id hM
  refine g_aload_n dX13_worth_0 rfl rfl ?_
  refine g_get_Model_w dX13_worth_1 mw_1155 (by assumption) (by assumption) ?_
  refine g_bipush dX13_worth_4 (by decide) ?_
  refine g_aload_n dX13_worth_6 rfl rfl ?_
  refine g_get_Model_w dX13_worth_7 mw_1155 (by assumption) (by assumption) ?_
  refine g_sipush dX13_worth_10 (by decide) ?_
  refine g_iload_n dX13_worth_13 rfl rfl ?_
  refine g_iadd dX13_worth_14 ?_
  refine g_laload dX13_worth_15 (by assumption) (by omega) (by omega) ?_
  refine g_l2i dX13_worth_16 ?_
  refine g_iadd dX13_worth_17 ?_
  refine g_laload dX13_worth_18 (by assumption) (by omega) (by omega) ?_
  refine g_lstore_n dX13_worth_19 rfl (by decide) ?_
  refine g_aload_n dX13_worth_20 rfl rfl ?_
  refine g_get_Model_w dX13_worth_21 mw_1155 (by assumption) (by assumption) ?_
  refine g_sipush dX13_worth_24 (by decide) ?_
  refine g_iload_n dX13_worth_27 rfl rfl ?_
  refine g_iadd dX13_worth_28 ?_
  refine g_laload dX13_worth_29 (by assumption) (by omega) (by omega) ?_
  refine g_lconst (c := 1) dX13_worth_30 (by decide) ?_
  refine g_lcmp_ne (tgt := 39) dX13_worth_31 dX13_worth_32 (by decide) (by first | omega | exact m64 (hB _)) (by first | omega | exact m64 (hB _)) (fun c_31 => ?_) (fun c_31 => ?_)
  · refine g_lload_n dX13_worth_39 rfl rfl ?_
    refine g_ldc2 (c := 2) dX13_worth_40 mw_1224 (by decide) ?_
    refine g_ldiv dX13_worth_43 (by first | omega | exact m64 (hB _)) (by first | omega | exact m64 (hB _)) (by first | omega | exact m64 (hB _)) ?_
    exact g_lret dX13_worth_44 rfl (by decide) (by decide) (g_pu_l (by simp only [sWorth]; split <;> first | rfl | omega) _ _ _ _ _ _)
  · refine g_lload_n dX13_worth_35 rfl rfl ?_
    refine g_goto (tgt := 44) dX13_worth_36 (by decide) ?_
    exact g_lret dX13_worth_44 rfl (by decide) (by decide) (g_pu_l (by simp only [sWorth]; split <;> first | rfl | omega) _ _ _ _ _ _)
set_option maxHeartbeats 4000000 in
set_option maxRecDepth 100000 in
theorem lp_M_find {Y : gEnv} {X : gCtx} {K N : Nat → Nat} {I : Nat → Nat → Int} {A : Nat → Int → Int} {R : Nat → Nat → Option Nat} {Q : Nat → Int → Option Nat} {x w sv tx ag : Nat} (hM : mS K N R x w sv tx ag) (hB : mB (A w)) (g s r : Int) (hg : (-2147483648 ≤ g ∧ g ≤ 2147483647)) (hs : (-2147483648 ≤ s ∧ s ≤ 2147483647)) (hr : (-2147483648 ≤ r ∧ r ≤ 2147483647)) (hn : 0 ≤ A w 1614 ∧ A w 1614 ≤ 160) : ∀ (f m : Nat) (l : Int), m < f → 0 ≤ l → l + m = A w 1614 → gJ Y X yX13_find cX13_find 5 (some .int) ({ frames := 0, cells := 0, slots := 0, locals := 0 } : Room) (g_pu (some (vi (sIx (sFindP (A w) g s r) m l))) K N I A R Q) gno 0 0 3 [(0, .ref x), (1, vi g), (2, vi s), (3, vi r), (4, vi l)] [] K N I A R Q := by
  obtain ⟨hKx, hRw, hRs, hRt, hRa, hKw, hNw, hKs, hNs, hKt, hNt, hKa, hNa, hta⟩ := id hM
  intro f
  induction f with
  | zero => intro m l h; omega
  | succ f ih =>
  intro m l hf hl hm
  refine g_iload dX13_find_3 rfl ?_
  refine g_i2l dX13_find_5 (by first | omega | exact m64 (hB _)) ?_
  refine g_aload_n dX13_find_6 rfl rfl ?_
  refine g_get_Model_w dX13_find_7 mw_1155 (by assumption) (by assumption) ?_
  refine g_sipush dX13_find_10 (by decide) ?_
  refine g_laload dX13_find_13 (by assumption) (by omega) (by omega) ?_
  refine g_lcmp_ge (tgt := 78) dX13_find_14 dX13_find_15 (by decide) (by first | omega | exact m64 (hB _)) (by first | omega | exact m64 (hB _)) (fun c_14 => ?_) (fun c_14 => ?_)
  · refine g_iconst dX13_find_78 ?_
    exact g_iret dX13_find_79 rfl (by decide) (by decide) (g_pu_i (by rw [sIx_stop (by omega)]) _ _ _ _ _ _)
  · refine g_aload_n dX13_find_18 rfl rfl ?_
    refine g_get_Model_w dX13_find_19 mw_1155 (by assumption) (by assumption) ?_
    refine g_sipush dX13_find_22 (by decide) ?_
    refine g_iload dX13_find_25 rfl ?_
    refine g_iadd dX13_find_27 ?_
    refine g_laload dX13_find_28 (by assumption) (by omega) (by omega) ?_
    refine g_iload_n dX13_find_29 rfl rfl ?_
    refine g_i2l dX13_find_30 (by first | omega | exact m64 (hB _)) ?_
    refine g_lcmp_ne (tgt := 72) dX13_find_31 dX13_find_32 (by decide) (by first | omega | exact m64 (hB _)) (by first | omega | exact m64 (hB _)) (fun c_31 => ?_) (fun c_31 => ?_)
    · refine g_iinc dX13_find_72 rfl (by decide) ?_
      refine g_goto (tgt := 3) dX13_find_75 (by decide) ?_
      rw [sIx_miss (by omega) (by simp [sFindP]; omega)]
      exact g_locs (by exact ⟨rfl, rfl, rfl, rfl, rfl, trivial⟩) (ih (m - 1) (l + 1) (by omega) (by omega) (by omega))
    · refine g_aload_n dX13_find_35 rfl rfl ?_
      refine g_get_Model_w dX13_find_36 mw_1155 (by assumption) (by assumption) ?_
      refine g_sipush dX13_find_39 (by decide) ?_
      refine g_iload dX13_find_42 rfl ?_
      refine g_iadd dX13_find_44 ?_
      refine g_laload dX13_find_45 (by assumption) (by omega) (by omega) ?_
      refine g_iload_n dX13_find_46 rfl rfl ?_
      refine g_i2l dX13_find_47 (by first | omega | exact m64 (hB _)) ?_
      refine g_lcmp_ne (tgt := 72) dX13_find_48 dX13_find_49 (by decide) (by first | omega | exact m64 (hB _)) (by first | omega | exact m64 (hB _)) (fun c_48 => ?_) (fun c_48 => ?_)
      · refine g_iinc dX13_find_72 rfl (by decide) ?_
        refine g_goto (tgt := 3) dX13_find_75 (by decide) ?_
        rw [sIx_miss (by omega) (by simp [sFindP]; omega)]
        exact g_locs (by exact ⟨rfl, rfl, rfl, rfl, rfl, trivial⟩) (ih (m - 1) (l + 1) (by omega) (by omega) (by omega))
      · refine g_aload_n dX13_find_52 rfl rfl ?_
        refine g_get_Model_w dX13_find_53 mw_1155 (by assumption) (by assumption) ?_
        refine g_sipush dX13_find_56 (by decide) ?_
        refine g_iload dX13_find_59 rfl ?_
        refine g_iadd dX13_find_61 ?_
        refine g_laload dX13_find_62 (by assumption) (by omega) (by omega) ?_
        refine g_iload_n dX13_find_63 rfl rfl ?_
        refine g_i2l dX13_find_64 (by first | omega | exact m64 (hB _)) ?_
        refine g_lcmp_ne (tgt := 72) dX13_find_65 dX13_find_66 (by decide) (by first | omega | exact m64 (hB _)) (by first | omega | exact m64 (hB _)) (fun c_65 => ?_) (fun c_65 => ?_)
        · refine g_iinc dX13_find_72 rfl (by decide) ?_
          refine g_goto (tgt := 3) dX13_find_75 (by decide) ?_
          rw [sIx_miss (by omega) (by simp [sFindP]; omega)]
          exact g_locs (by exact ⟨rfl, rfl, rfl, rfl, rfl, trivial⟩) (ih (m - 1) (l + 1) (by omega) (by omega) (by omega))
        · refine g_iload dX13_find_69 rfl ?_
          exact g_iret dX13_find_71 rfl (by decide) (by decide) (g_pu_i (by rw [sIx_hit (by omega) (by simp [sFindP]; omega)]) _ _ _ _ _ _)
set_option maxHeartbeats 4000000 in
set_option maxRecDepth 100000 in
theorem k_M_find (Y : gEnv) {K N : Nat → Nat} {I : Nat → Nat → Int} {A : Nat → Int → Int} {R : Nat → Nat → Option Nat} {Q : Nat → Int → Option Nat} {x w sv tx ag : Nat} (hM : mS K N R x w sv tx ag) (hB : mB (A w)) (g s r : Int) (hg : (-2147483648 ≤ g ∧ g ≤ 2147483647)) (hs : (-2147483648 ≤ s ∧ s ≤ 2147483647)) (hr : (-2147483648 ≤ r ∧ r ≤ 2147483647)) (hn : 0 ≤ A w 1614 ∧ A w 1614 ≤ 160) : gC Y yX13_find cX13_find 5 (some .int) ({ frames := 0, cells := 0, slots := 0, locals := 0 } : Room) [.ref x, vi g, vi s, vi r] K N I A R Q (g_pu (some (vi (sFind (A w) g s r))) K N I A R Q) gno := by
  refine gC_of (by decide) (Nat.le_of_ble_eq_true rfl) (fun X => ?_)
  refine g_iconst dX13_find_0 ?_
  refine g_istore dX13_find_1 (by decide) ?_
  exact g_locs (by exact ⟨rfl, rfl, rfl, rfl, rfl, trivial⟩) (lp_M_find hM hB g s r hg hs hr hn _ _ 0 (Nat.lt_succ_self _) (by omega) (by omega))
set_option maxHeartbeats 4000000 in
set_option maxRecDepth 100000 in
theorem lp_M_boxes {Y : gEnv} {X : gCtx} {K N : Nat → Nat} {I : Nat → Nat → Int} {A : Nat → Int → Int} {R : Nat → Nat → Option Nat} {Q : Nat → Int → Option Nat} {x w sv tx ag : Nat} (hM : mS K N R x w sv tx ag) (hB : mB (A w)) (hn : 0 ≤ A w 1614 ∧ A w 1614 ≤ 160) : ∀ (f m : Nat) (l s : Int), m < f → 0 ≤ l → l + m = A w 1614 → gJ Y X yX13_boxes cX13_boxes 4 (some .long) ({ frames := 0, cells := 0, slots := 0, locals := 0 } : Room) (g_pu (some (vl (s + sSum (fun l => A w (1050 + l)) m l))) K N I A R Q) gno 0 0 4 [(0, .ref x), (1, vl s), (3, vi l)] [] K N I A R Q := by
  obtain ⟨hKx, hRw, hRs, hRt, hRa, hKw, hNw, hKs, hNs, hKt, hNt, hKa, hNa, hta⟩ := id hM
  intro f
  induction f with
  | zero => intro m l s h; omega
  | succ f ih =>
  intro m l s hf hl hm
  refine g_iload_n dX13_boxes_4 rfl rfl ?_
  refine g_i2l dX13_boxes_5 (by first | omega | exact m64 (hB _)) ?_
  refine g_aload_n dX13_boxes_6 rfl rfl ?_
  refine g_get_Model_w dX13_boxes_7 mw_1155 (by assumption) (by assumption) ?_
  refine g_sipush dX13_boxes_10 (by decide) ?_
  refine g_laload dX13_boxes_13 (by assumption) (by omega) (by omega) ?_
  refine g_lcmp_ge (tgt := 37) dX13_boxes_14 dX13_boxes_15 (by decide) (by first | omega | exact m64 (hB _)) (by first | omega | exact m64 (hB _)) (fun c_14 => ?_) (fun c_14 => ?_)
  · refine g_lload_n dX13_boxes_37 rfl rfl ?_
    exact g_lret dX13_boxes_38 rfl (by decide) (by decide) (g_pu_l (by rw [sSum_stop (by omega)]; omega) _ _ _ _ _ _)
  · refine g_lload_n dX13_boxes_18 rfl rfl ?_
    refine g_aload_n dX13_boxes_19 rfl rfl ?_
    refine g_get_Model_w dX13_boxes_20 mw_1155 (by assumption) (by assumption) ?_
    refine g_sipush dX13_boxes_23 (by decide) ?_
    refine g_iload_n dX13_boxes_26 rfl rfl ?_
    refine g_iadd dX13_boxes_27 ?_
    refine g_laload dX13_boxes_28 (by assumption) (by omega) (by omega) ?_
    refine g_ladd dX13_boxes_29 ?_
    refine g_lstore_n dX13_boxes_30 rfl (by decide) ?_
    refine g_iinc dX13_boxes_31 rfl (by decide) ?_
    refine g_goto (tgt := 4) dX13_boxes_34 (by decide) ?_
    rw [sSum_step (by omega), ← Int.add_assoc]
    exact g_locs (by exact ⟨rfl, rfl, rfl, trivial⟩) (ih (m - 1) (l + 1) _ (by omega) (by omega) (by omega))
set_option maxHeartbeats 4000000 in
set_option maxRecDepth 100000 in
theorem k_M_boxes (Y : gEnv) {K N : Nat → Nat} {I : Nat → Nat → Int} {A : Nat → Int → Int} {R : Nat → Nat → Option Nat} {Q : Nat → Int → Option Nat} {x w sv tx ag : Nat} (hM : mS K N R x w sv tx ag) (hB : mB (A w)) (hn : 0 ≤ A w 1614 ∧ A w 1614 ≤ 160) : gC Y yX13_boxes cX13_boxes 4 (some .long) ({ frames := 0, cells := 0, slots := 0, locals := 0 } : Room) [.ref x] K N I A R Q (g_pu (some (vl (sSum (fun l => A w (1050 + l)) (A w 1614).toNat 0))) K N I A R Q) gno := by
  refine gC_of (by decide) (Nat.le_of_ble_eq_true rfl) (fun X => ?_)
  have h0 := lp_M_boxes (Y := Y) (X := X) (I := I) (Q := Q) hM hB hn _ (A w 1614).toNat 0 0 (Nat.lt_succ_self _) (by omega) (by omega)
  rw [Int.zero_add] at h0
  refine g_lconst (c := 0) dX13_boxes_0 (by decide) ?_
  refine g_lstore_n dX13_boxes_1 rfl (by decide) ?_
  refine g_iconst dX13_boxes_2 ?_
  refine g_istore_n dX13_boxes_3 rfl (by decide) ?_
  exact g_locs (by exact ⟨rfl, rfl, rfl, trivial⟩) h0
set_option maxHeartbeats 4000000 in
set_option maxRecDepth 100000 in
theorem lp_M_loose {Y : gEnv} {X : gCtx} {K N : Nat → Nat} {I : Nat → Nat → Int} {A : Nat → Int → Int} {R : Nat → Nat → Option Nat} {Q : Nat → Int → Option Nat} {x w sv tx ag : Nat} (hM : mS K N R x w sv tx ag) (hB : mB (A w)) (hn : 0 ≤ A w 1614 ∧ A w 1614 ≤ 160) : ∀ (f m : Nat) (l s : Int), m < f → 0 ≤ l → l + m = A w 1614 → gJ Y X yX13_loose cX13_loose 4 (some .long) ({ frames := 0, cells := 0, slots := 0, locals := 0 } : Room) (g_pu (some (vl (s + sSum (fun l => A w (890 + l)) m l))) K N I A R Q) gno 0 0 4 [(0, .ref x), (1, vl s), (3, vi l)] [] K N I A R Q := by
  obtain ⟨hKx, hRw, hRs, hRt, hRa, hKw, hNw, hKs, hNs, hKt, hNt, hKa, hNa, hta⟩ := id hM
  intro f
  induction f with
  | zero => intro m l s h; omega
  | succ f ih =>
  intro m l s hf hl hm
  refine g_iload_n dX13_loose_4 rfl rfl ?_
  refine g_i2l dX13_loose_5 (by first | omega | exact m64 (hB _)) ?_
  refine g_aload_n dX13_loose_6 rfl rfl ?_
  refine g_get_Model_w dX13_loose_7 mw_1155 (by assumption) (by assumption) ?_
  refine g_sipush dX13_loose_10 (by decide) ?_
  refine g_laload dX13_loose_13 (by assumption) (by omega) (by omega) ?_
  refine g_lcmp_ge (tgt := 37) dX13_loose_14 dX13_loose_15 (by decide) (by first | omega | exact m64 (hB _)) (by first | omega | exact m64 (hB _)) (fun c_14 => ?_) (fun c_14 => ?_)
  · refine g_lload_n dX13_loose_37 rfl rfl ?_
    exact g_lret dX13_loose_38 rfl (by decide) (by decide) (g_pu_l (by rw [sSum_stop (by omega)]; omega) _ _ _ _ _ _)
  · refine g_lload_n dX13_loose_18 rfl rfl ?_
    refine g_aload_n dX13_loose_19 rfl rfl ?_
    refine g_get_Model_w dX13_loose_20 mw_1155 (by assumption) (by assumption) ?_
    refine g_sipush dX13_loose_23 (by decide) ?_
    refine g_iload_n dX13_loose_26 rfl rfl ?_
    refine g_iadd dX13_loose_27 ?_
    refine g_laload dX13_loose_28 (by assumption) (by omega) (by omega) ?_
    refine g_ladd dX13_loose_29 ?_
    refine g_lstore_n dX13_loose_30 rfl (by decide) ?_
    refine g_iinc dX13_loose_31 rfl (by decide) ?_
    refine g_goto (tgt := 4) dX13_loose_34 (by decide) ?_
    rw [sSum_step (by omega), ← Int.add_assoc]
    exact g_locs (by exact ⟨rfl, rfl, rfl, trivial⟩) (ih (m - 1) (l + 1) _ (by omega) (by omega) (by omega))
set_option maxHeartbeats 4000000 in
set_option maxRecDepth 100000 in
theorem k_M_loose (Y : gEnv) {K N : Nat → Nat} {I : Nat → Nat → Int} {A : Nat → Int → Int} {R : Nat → Nat → Option Nat} {Q : Nat → Int → Option Nat} {x w sv tx ag : Nat} (hM : mS K N R x w sv tx ag) (hB : mB (A w)) (hn : 0 ≤ A w 1614 ∧ A w 1614 ≤ 160) : gC Y yX13_loose cX13_loose 4 (some .long) ({ frames := 0, cells := 0, slots := 0, locals := 0 } : Room) [.ref x] K N I A R Q (g_pu (some (vl (sSum (fun l => A w (890 + l)) (A w 1614).toNat 0))) K N I A R Q) gno := by
  refine gC_of (by decide) (Nat.le_of_ble_eq_true rfl) (fun X => ?_)
  have h0 := lp_M_loose (Y := Y) (X := X) (I := I) (Q := Q) hM hB hn _ (A w 1614).toNat 0 0 (Nat.lt_succ_self _) (by omega) (by omega)
  rw [Int.zero_add] at h0
  refine g_lconst (c := 0) dX13_loose_0 (by decide) ?_
  refine g_lstore_n dX13_loose_1 rfl (by decide) ?_
  refine g_iconst dX13_loose_2 ?_
  refine g_istore_n dX13_loose_3 rfl (by decide) ?_
  exact g_locs (by exact ⟨rfl, rfl, rfl, trivial⟩) h0
set_option maxHeartbeats 4000000 in
set_option maxRecDepth 100000 in
theorem lp_M_boxesOut {Y : gEnv} {X : gCtx} {K N : Nat → Nat} {I : Nat → Nat → Int} {A : Nat → Int → Int} {R : Nat → Nat → Option Nat} {Q : Nat → Int → Option Nat} {x w sv tx ag : Nat} (hM : mS K N R x w sv tx ag) (hB : mB (A w)) (hn : 0 ≤ A w 1615 ∧ A w 1615 ≤ 40) : ∀ (f m : Nat) (l s : Int), m < f → 0 ≤ l → l + m = A w 1615 → gJ Y X yX13_boxesOut cX13_boxesOut 4 (some .long) ({ frames := 0, cells := 0, slots := 0, locals := 0 } : Room) (g_pu (some (vl (s + sSum (fun l => A w (1450 + l)) m l))) K N I A R Q) gno 0 0 4 [(0, .ref x), (1, vl s), (3, vi l)] [] K N I A R Q := by
  obtain ⟨hKx, hRw, hRs, hRt, hRa, hKw, hNw, hKs, hNs, hKt, hNt, hKa, hNa, hta⟩ := id hM
  intro f
  induction f with
  | zero => intro m l s h; omega
  | succ f ih =>
  intro m l s hf hl hm
  refine g_iload_n dX13_boxesOut_4 rfl rfl ?_
  refine g_i2l dX13_boxesOut_5 (by first | omega | exact m64 (hB _)) ?_
  refine g_aload_n dX13_boxesOut_6 rfl rfl ?_
  refine g_get_Model_w dX13_boxesOut_7 mw_1155 (by assumption) (by assumption) ?_
  refine g_sipush dX13_boxesOut_10 (by decide) ?_
  refine g_laload dX13_boxesOut_13 (by assumption) (by omega) (by omega) ?_
  refine g_lcmp_ge (tgt := 37) dX13_boxesOut_14 dX13_boxesOut_15 (by decide) (by first | omega | exact m64 (hB _)) (by first | omega | exact m64 (hB _)) (fun c_14 => ?_) (fun c_14 => ?_)
  · refine g_lload_n dX13_boxesOut_37 rfl rfl ?_
    exact g_lret dX13_boxesOut_38 rfl (by decide) (by decide) (g_pu_l (by rw [sSum_stop (by omega)]; omega) _ _ _ _ _ _)
  · refine g_lload_n dX13_boxesOut_18 rfl rfl ?_
    refine g_aload_n dX13_boxesOut_19 rfl rfl ?_
    refine g_get_Model_w dX13_boxesOut_20 mw_1155 (by assumption) (by assumption) ?_
    refine g_sipush dX13_boxesOut_23 (by decide) ?_
    refine g_iload_n dX13_boxesOut_26 rfl rfl ?_
    refine g_iadd dX13_boxesOut_27 ?_
    refine g_laload dX13_boxesOut_28 (by assumption) (by omega) (by omega) ?_
    refine g_ladd dX13_boxesOut_29 ?_
    refine g_lstore_n dX13_boxesOut_30 rfl (by decide) ?_
    refine g_iinc dX13_boxesOut_31 rfl (by decide) ?_
    refine g_goto (tgt := 4) dX13_boxesOut_34 (by decide) ?_
    rw [sSum_step (by omega), ← Int.add_assoc]
    exact g_locs (by exact ⟨rfl, rfl, rfl, trivial⟩) (ih (m - 1) (l + 1) _ (by omega) (by omega) (by omega))
set_option maxHeartbeats 4000000 in
set_option maxRecDepth 100000 in
theorem k_M_boxesOut (Y : gEnv) {K N : Nat → Nat} {I : Nat → Nat → Int} {A : Nat → Int → Int} {R : Nat → Nat → Option Nat} {Q : Nat → Int → Option Nat} {x w sv tx ag : Nat} (hM : mS K N R x w sv tx ag) (hB : mB (A w)) (hn : 0 ≤ A w 1615 ∧ A w 1615 ≤ 40) : gC Y yX13_boxesOut cX13_boxesOut 4 (some .long) ({ frames := 0, cells := 0, slots := 0, locals := 0 } : Room) [.ref x] K N I A R Q (g_pu (some (vl (sSum (fun l => A w (1450 + l)) (A w 1615).toNat 0))) K N I A R Q) gno := by
  refine gC_of (by decide) (Nat.le_of_ble_eq_true rfl) (fun X => ?_)
  have h0 := lp_M_boxesOut (Y := Y) (X := X) (I := I) (Q := Q) hM hB hn _ (A w 1615).toNat 0 0 (Nat.lt_succ_self _) (by omega) (by omega)
  rw [Int.zero_add] at h0
  refine g_lconst (c := 0) dX13_boxesOut_0 (by decide) ?_
  refine g_lstore_n dX13_boxesOut_1 rfl (by decide) ?_
  refine g_iconst dX13_boxesOut_2 ?_
  refine g_istore_n dX13_boxesOut_3 rfl (by decide) ?_
  exact g_locs (by exact ⟨rfl, rfl, rfl, trivial⟩) h0
set_option maxHeartbeats 4000000 in
set_option maxRecDepth 100000 in
theorem lp_M_onBench {Y : gEnv} {X : gCtx} {K N : Nat → Nat} {I : Nat → Nat → Int} {A : Nat → Int → Int} {R : Nat → Nat → Option Nat} {Q : Nat → Int → Option Nat} {x w sv tx ag : Nat} (hM : mS K N R x w sv tx ag) (hB : mB (A w)) (hn : 0 ≤ A w 1613 ∧ A w 1613 ≤ 80) : ∀ (f m : Nat) (l s : Int), m < f → 0 ≤ l → l + m = A w 1613 → gJ Y X yX13_onBench cX13_onBench 4 (some .long) ({ frames := 0, cells := 0, slots := 0, locals := 0 } : Room) (g_pu (some (vl (s + sSum (fun l => A w (250 + l)) m l))) K N I A R Q) gno 0 0 4 [(0, .ref x), (1, vl s), (3, vi l)] [] K N I A R Q := by
  obtain ⟨hKx, hRw, hRs, hRt, hRa, hKw, hNw, hKs, hNs, hKt, hNt, hKa, hNa, hta⟩ := id hM
  intro f
  induction f with
  | zero => intro m l s h; omega
  | succ f ih =>
  intro m l s hf hl hm
  refine g_iload_n dX13_onBench_4 rfl rfl ?_
  refine g_i2l dX13_onBench_5 (by first | omega | exact m64 (hB _)) ?_
  refine g_aload_n dX13_onBench_6 rfl rfl ?_
  refine g_get_Model_w dX13_onBench_7 mw_1155 (by assumption) (by assumption) ?_
  refine g_sipush dX13_onBench_10 (by decide) ?_
  refine g_laload dX13_onBench_13 (by assumption) (by omega) (by omega) ?_
  refine g_lcmp_ge (tgt := 37) dX13_onBench_14 dX13_onBench_15 (by decide) (by first | omega | exact m64 (hB _)) (by first | omega | exact m64 (hB _)) (fun c_14 => ?_) (fun c_14 => ?_)
  · refine g_lload_n dX13_onBench_37 rfl rfl ?_
    exact g_lret dX13_onBench_38 rfl (by decide) (by decide) (g_pu_l (by rw [sSum_stop (by omega)]; omega) _ _ _ _ _ _)
  · refine g_lload_n dX13_onBench_18 rfl rfl ?_
    refine g_aload_n dX13_onBench_19 rfl rfl ?_
    refine g_get_Model_w dX13_onBench_20 mw_1155 (by assumption) (by assumption) ?_
    refine g_sipush dX13_onBench_23 (by decide) ?_
    refine g_iload_n dX13_onBench_26 rfl rfl ?_
    refine g_iadd dX13_onBench_27 ?_
    refine g_laload dX13_onBench_28 (by assumption) (by omega) (by omega) ?_
    refine g_ladd dX13_onBench_29 ?_
    refine g_lstore_n dX13_onBench_30 rfl (by decide) ?_
    refine g_iinc dX13_onBench_31 rfl (by decide) ?_
    refine g_goto (tgt := 4) dX13_onBench_34 (by decide) ?_
    rw [sSum_step (by omega), ← Int.add_assoc]
    exact g_locs (by exact ⟨rfl, rfl, rfl, trivial⟩) (ih (m - 1) (l + 1) _ (by omega) (by omega) (by omega))
set_option maxHeartbeats 4000000 in
set_option maxRecDepth 100000 in
theorem k_M_onBench (Y : gEnv) {K N : Nat → Nat} {I : Nat → Nat → Int} {A : Nat → Int → Int} {R : Nat → Nat → Option Nat} {Q : Nat → Int → Option Nat} {x w sv tx ag : Nat} (hM : mS K N R x w sv tx ag) (hB : mB (A w)) (hn : 0 ≤ A w 1613 ∧ A w 1613 ≤ 80) : gC Y yX13_onBench cX13_onBench 4 (some .long) ({ frames := 0, cells := 0, slots := 0, locals := 0 } : Room) [.ref x] K N I A R Q (g_pu (some (vl (sSum (fun l => A w (250 + l)) (A w 1613).toNat 0))) K N I A R Q) gno := by
  refine gC_of (by decide) (Nat.le_of_ble_eq_true rfl) (fun X => ?_)
  have h0 := lp_M_onBench (Y := Y) (X := X) (I := I) (Q := Q) hM hB hn _ (A w 1613).toNat 0 0 (Nat.lt_succ_self _) (by omega) (by omega)
  rw [Int.zero_add] at h0
  refine g_lconst (c := 0) dX13_onBench_0 (by decide) ?_
  refine g_lstore_n dX13_onBench_1 rfl (by decide) ?_
  refine g_iconst dX13_onBench_2 ?_
  refine g_istore_n dX13_onBench_3 rfl (by decide) ?_
  exact g_locs (by exact ⟨rfl, rfl, rfl, trivial⟩) h0
