set_option maxHeartbeats 4000000 in
set_option maxRecDepth 100000 in
theorem lp_M_happens {Y : gEnv} {X : gCtx} {K N : Nat → Nat} {I : Nat → Nat → Int} {A : Nat → Int → Int} {R : Nat → Nat → Option Nat} {Q : Nat → Int → Option Nat} {A0 : Nat → Int → Int} {x w sv tx ag : Nat} (hM : mS K N R x w sv tx ag) (hB : mB (A0 w)) (kd : Int) (hkd : (-2147483648 ≤ kd ∧ kd ≤ 2147483647)) (nu : Int) (he : 0 ≤ A0 w 1616 ∧ A0 w 1616 ≤ 20) (h20 : A0 w 1616 = 20) : ∀ (f m : Nat) (k : Int), m < f → 0 ≤ k → k + m = 19 → A = g_rw A0 w (sShift (A0 w) k) → gJ Y X yX13_happens cX13_happens 5 none ({ frames := 0, cells := 0, slots := 0, locals := 0 } : Room) (g_wr K N R Q (fun v I' A' => v = none ∧ I' = I ∧ A' = g_rw A0 w (sHap (A0 w) kd nu))) gno 0 0 18 [(0, .ref x), (1, vi kd), (2, vl nu), (4, vi k)] [] K N I A R Q := by
  obtain ⟨hKx, hRw, hRs, hRt, hRa, hKw, hNw, hKs, hNs, hKt, hNt, hKa, hNa, hta⟩ := id hM
  intro f
  induction f generalizing A with
  | zero => intro m k h; omega
  | succ f ih =>
  intro m k hf hk hm hA
  have eA : A w = sShift (A0 w) k := by rw [hA, g_rw_at]
  refine g_iload dX13_happens_18 rfl ?_
  refine g_bipush dX13_happens_20 (by decide) ?_
  refine g_icmp_ge (tgt := 79) dX13_happens_22 (by decide) (by first | omega | exact m64 (hB _)) (by first | omega | exact m64 (hB _)) (fun c_22 => ?_) (fun c_22 => ?_)
  · obtain rfl : k = 19 := by omega
    have q0 : A w 1616 = 20 := by rw [eA, sShift, if_neg (by omega), if_neg (by omega)]; exact h20
    refine g_aload_n dX13_happens_79 rfl rfl ?_
    refine g_get_Model_w dX13_happens_80 mw_1155 (by assumption) (by assumption) ?_
    refine g_sipush dX13_happens_83 (by decide) ?_
    refine g_dup2 dX13_happens_86 rfl rfl ?_
    refine g_laload dX13_happens_87 (by assumption) (by omega) (by omega) ?_
    refine g_lconst (c := 1) dX13_happens_88 (by decide) ?_
    refine g_lsub dX13_happens_89 ?_
    refine g_lastore dX13_happens_90 (by assumption) (by omega) (by omega) (fun A90 hA90 => ?_)
    have eA90 := congrFun (hA90.trans (g_uq_rw _ _ _ _)) w
    rw [g_rw_at] at eA90
    have q1 : 0 ≤ A90 w 1616 ∧ A90 w 1616 ≤ 19 := by rw [eA90, sU_eq]; omega
    refine g_aload_n dX13_happens_91 rfl rfl ?_
    refine g_get_Model_w dX13_happens_92 mw_1155 (by assumption) (by assumption) ?_
    refine g_sipush dX13_happens_95 (by decide) ?_
    refine g_aload_n dX13_happens_98 rfl rfl ?_
    refine g_get_Model_w dX13_happens_99 mw_1155 (by assumption) (by assumption) ?_
    refine g_sipush dX13_happens_102 (by decide) ?_
    refine g_laload dX13_happens_105 (by assumption) (by omega) (by omega) ?_
    refine g_l2i dX13_happens_106 ?_
    refine g_iadd dX13_happens_107 ?_
    refine g_iload_n dX13_happens_108 rfl rfl ?_
    refine g_i2l dX13_happens_109 (by first | omega | exact m64 (hB _)) ?_
    refine g_lastore dX13_happens_110 (by assumption) (by omega) (by omega) (fun A110 hA110 => ?_)
    have eA110 := congrFun (hA110.trans (g_uq_rw _ _ _ _)) w
    rw [g_rw_at] at eA110
    have q2 : 0 ≤ A110 w 1616 ∧ A110 w 1616 ≤ 19 := by rw [eA110, sU_ne _ _ (by omega)]; exact q1
    refine g_aload_n dX13_happens_111 rfl rfl ?_
    refine g_get_Model_w dX13_happens_112 mw_1155 (by assumption) (by assumption) ?_
    refine g_sipush dX13_happens_115 (by decide) ?_
    refine g_aload_n dX13_happens_118 rfl rfl ?_
    refine g_get_Model_w dX13_happens_119 mw_1155 (by assumption) (by assumption) ?_
    refine g_sipush dX13_happens_122 (by decide) ?_
    refine g_laload dX13_happens_125 (by assumption) (by omega) (by omega) ?_
    refine g_l2i dX13_happens_126 ?_
    refine g_iadd dX13_happens_127 ?_
    refine g_lload_n dX13_happens_128 rfl rfl ?_
    refine g_lastore dX13_happens_129 (by assumption) (by omega) (by omega) (fun A129 hA129 => ?_)
    have eA129 := congrFun (hA129.trans (g_uq_rw _ _ _ _)) w
    rw [g_rw_at] at eA129
    refine g_aload_n dX13_happens_130 rfl rfl ?_
    refine g_get_Model_w dX13_happens_131 mw_1155 (by assumption) (by assumption) ?_
    refine g_sipush dX13_happens_134 (by decide) ?_
    refine g_dup2 dX13_happens_137 rfl rfl ?_
    refine g_laload dX13_happens_138 (by assumption) (by omega) (by omega) ?_
    refine g_lconst (c := 1) dX13_happens_139 (by decide) ?_
    refine g_ladd dX13_happens_140 ?_
    refine g_lastore dX13_happens_141 (by assumption) (by omega) (by omega) (fun A141 hA141 => ?_)
    have eA141 := congrFun (hA141.trans (g_uq_rw _ _ _ _)) w
    rw [g_rw_at] at eA141
    exact g_vret dX13_happens_142 rfl (by decide) (by decide) ⟨rfl, rfl, rfl, rfl, rfl, rfl, by rw [hA141, hA129, hA110, hA90, hA]; simp only [g_uq_rw, g_rw_rw, g_rw_at]; rw [sHap, sHap1, if_pos h20]; rfl⟩
  · refine g_aload_n dX13_happens_25 rfl rfl ?_
    refine g_get_Model_w dX13_happens_26 mw_1155 (by assumption) (by assumption) ?_
    refine g_sipush dX13_happens_29 (by decide) ?_
    refine g_iload dX13_happens_32 rfl ?_
    refine g_iadd dX13_happens_34 ?_
    refine g_aload_n dX13_happens_35 rfl rfl ?_
    refine g_get_Model_w dX13_happens_36 mw_1155 (by assumption) (by assumption) ?_
    refine g_sipush dX13_happens_39 (by decide) ?_
    refine g_iload dX13_happens_42 rfl ?_
    refine g_iadd dX13_happens_44 ?_
    refine g_iconst dX13_happens_45 ?_
    refine g_iadd dX13_happens_46 ?_
    refine g_laload dX13_happens_47 (by assumption) (by omega) (by omega) ?_
    refine g_lastore dX13_happens_48 (by assumption) (by omega) (by omega) (fun A48 hA48 => ?_)
    have eA48 := congrFun (hA48.trans (g_uq_rw _ _ _ _)) w
    rw [g_rw_at] at eA48
    refine g_aload_n dX13_happens_49 rfl rfl ?_
    refine g_get_Model_w dX13_happens_50 mw_1155 (by assumption) (by assumption) ?_
    refine g_sipush dX13_happens_53 (by decide) ?_
    refine g_iload dX13_happens_56 rfl ?_
    refine g_iadd dX13_happens_58 ?_
    refine g_aload_n dX13_happens_59 rfl rfl ?_
    refine g_get_Model_w dX13_happens_60 mw_1155 (by assumption) (by assumption) ?_
    refine g_sipush dX13_happens_63 (by decide) ?_
    refine g_iload dX13_happens_66 rfl ?_
    refine g_iadd dX13_happens_68 ?_
    refine g_iconst dX13_happens_69 ?_
    refine g_iadd dX13_happens_70 ?_
    refine g_laload dX13_happens_71 (by assumption) (by omega) (by omega) ?_
    refine g_lastore dX13_happens_72 (by assumption) (by omega) (by omega) (fun A72 hA72 => ?_)
    have eA72 := congrFun (hA72.trans (g_uq_rw _ _ _ _)) w
    rw [g_rw_at] at eA72
    refine g_iinc dX13_happens_73 rfl (by decide) ?_
    refine g_goto (tgt := 18) dX13_happens_76 (by decide) ?_
    refine g_locs (by exact ⟨rfl, rfl, rfl, rfl, trivial⟩) (ih (m - 1) (k + 1) (by omega) (by omega) (by omega) ?_)
    rw [hA72, hA48, g_uq_rw, g_uq_rw, g_rw_at, g_rw_rw, eA, hA, g_rw_rw, sShift_succ (by omega)]
set_option maxHeartbeats 4000000 in
set_option maxRecDepth 100000 in
theorem k_M_happens (Y : gEnv) {K N : Nat → Nat} {I : Nat → Nat → Int} {A : Nat → Int → Int} {R : Nat → Nat → Option Nat} {Q : Nat → Int → Option Nat} {x w sv tx ag : Nat} (hM : mS K N R x w sv tx ag) (hB : mB (A w)) (kd : Int) (hkd : (-2147483648 ≤ kd ∧ kd ≤ 2147483647)) (nu : Int) (he : 0 ≤ A w 1616 ∧ A w 1616 ≤ 20) : gC Y yX13_happens cX13_happens 5 none ({ frames := 0, cells := 0, slots := 0, locals := 0 } : Room) [.ref x, vi kd, vl nu] K N I A R Q (g_wr K N R Q (fun v I' A' => v = none ∧ I' = I ∧ A' = g_rw A w (sHap (A w) kd nu))) gno := by
  refine gC_of (by decide) (Nat.le_of_ble_eq_true rfl) (fun X => ?_)
  obtain ⟨hKx, hRw, hRs, hRt, hRa, hKw, hNw, hKs, hNs, hKt, hNt, hKa, hNa, hta⟩ := id hM
  refine g_aload_n dX13_happens_0 rfl rfl ?_
  refine g_get_Model_w dX13_happens_1 mw_1155 (by assumption) (by assumption) ?_
  refine g_sipush dX13_happens_4 (by decide) ?_
  refine g_laload dX13_happens_7 (by assumption) (by omega) (by omega) ?_
  refine g_ldc2 (c := 20) dX13_happens_8 mw_1207 (by decide) ?_
  refine g_lcmp_ne (tgt := 91) dX13_happens_11 dX13_happens_12 (by decide) (by first | omega | exact m64 (hB _)) (by first | omega | exact m64 (hB _)) (fun c_11 => ?_) (fun c_11 => ?_)
  · have q1 : 0 ≤ A w 1616 ∧ A w 1616 ≤ 19 := by omega
    refine g_aload_n dX13_happens_91 rfl rfl ?_
    refine g_get_Model_w dX13_happens_92 mw_1155 (by assumption) (by assumption) ?_
    refine g_sipush dX13_happens_95 (by decide) ?_
    refine g_aload_n dX13_happens_98 rfl rfl ?_
    refine g_get_Model_w dX13_happens_99 mw_1155 (by assumption) (by assumption) ?_
    refine g_sipush dX13_happens_102 (by decide) ?_
    refine g_laload dX13_happens_105 (by assumption) (by omega) (by omega) ?_
    refine g_l2i dX13_happens_106 ?_
    refine g_iadd dX13_happens_107 ?_
    refine g_iload_n dX13_happens_108 rfl rfl ?_
    refine g_i2l dX13_happens_109 (by first | omega | exact m64 (hB _)) ?_
    refine g_lastore dX13_happens_110 (by assumption) (by omega) (by omega) (fun A110 hA110 => ?_)
    have eA110 := congrFun (hA110.trans (g_uq_rw _ _ _ _)) w
    rw [g_rw_at] at eA110
    have q2 : 0 ≤ A110 w 1616 ∧ A110 w 1616 ≤ 19 := by rw [eA110, sU_ne _ _ (by omega)]; exact q1
    refine g_aload_n dX13_happens_111 rfl rfl ?_
    refine g_get_Model_w dX13_happens_112 mw_1155 (by assumption) (by assumption) ?_
    refine g_sipush dX13_happens_115 (by decide) ?_
    refine g_aload_n dX13_happens_118 rfl rfl ?_
    refine g_get_Model_w dX13_happens_119 mw_1155 (by assumption) (by assumption) ?_
    refine g_sipush dX13_happens_122 (by decide) ?_
    refine g_laload dX13_happens_125 (by assumption) (by omega) (by omega) ?_
    refine g_l2i dX13_happens_126 ?_
    refine g_iadd dX13_happens_127 ?_
    refine g_lload_n dX13_happens_128 rfl rfl ?_
    refine g_lastore dX13_happens_129 (by assumption) (by omega) (by omega) (fun A129 hA129 => ?_)
    have eA129 := congrFun (hA129.trans (g_uq_rw _ _ _ _)) w
    rw [g_rw_at] at eA129
    refine g_aload_n dX13_happens_130 rfl rfl ?_
    refine g_get_Model_w dX13_happens_131 mw_1155 (by assumption) (by assumption) ?_
    refine g_sipush dX13_happens_134 (by decide) ?_
    refine g_dup2 dX13_happens_137 rfl rfl ?_
    refine g_laload dX13_happens_138 (by assumption) (by omega) (by omega) ?_
    refine g_lconst (c := 1) dX13_happens_139 (by decide) ?_
    refine g_ladd dX13_happens_140 ?_
    refine g_lastore dX13_happens_141 (by assumption) (by omega) (by omega) (fun A141 hA141 => ?_)
    have eA141 := congrFun (hA141.trans (g_uq_rw _ _ _ _)) w
    rw [g_rw_at] at eA141
    exact g_vret dX13_happens_142 rfl (by decide) (by decide) ⟨rfl, rfl, rfl, rfl, rfl, rfl, by rw [hA141, hA129, hA110]; simp only [g_uq_rw, g_rw_rw, g_rw_at]; rw [sHap, sHap1, if_neg (by omega)]; rfl⟩
  · refine g_iconst dX13_happens_15 ?_
    refine g_istore dX13_happens_16 (by decide) ?_
    exact g_locs (by exact ⟨rfl, rfl, rfl, rfl, trivial⟩) (lp_M_happens hM hB kd hkd nu he (by omega) _ 19 0 (Nat.lt_succ_self _) (by omega) (by omega) (by rw [sShift_0, g_rw_self]))
set_option maxHeartbeats 4000000 in
set_option maxRecDepth 100000 in
theorem k_M_limit (Y : gEnv) {K N : Nat → Nat} {I : Nat → Nat → Int} {A : Nat → Int → Int} {R : Nat → Nat → Option Nat} {Q : Nat → Int → Option Nat} {x w sv tx ag : Nat} (hM : mS K N R x w sv tx ag) (l : Int) (hl : 0 ≤ l ∧ l < 160) (hc : -1000000000000000 ≤ sContent (A w) l ∧ sContent (A w) l ≤ 1000000000000000) (hh : -1000000000000000 ≤ A w (1210 + l) ∧ A w (1210 + l) ≤ 1000000000000000) : gC Y yX13_limit cX13_limit 2 none ({ frames := 1, cells := 0, slots := 0, locals := 21 } : Room) [.ref x, vi l] K N I A R Q (g_wr K N R Q (fun v I' A' => v = none ∧ I' = I ∧ A' = g_rw A w (sLim (A w) l))) gno := by
  refine gC_of (by decide) (Nat.le_of_ble_eq_true rfl) (fun X => ?_)
  obtain ⟨hKx, hRw, hRs, hRt, hRa, hKw, hNw, hKs, hNs, hKt, hNt, hKa, hNa, hta⟩ := id hM
  refine g_aload_n dX13_limit_0 rfl rfl ?_
  refine g_get_Model_w dX13_limit_1 mw_1155 (by assumption) (by assumption) ?_
  refine g_sipush dX13_limit_4 (by decide) ?_
  refine g_iload_n dX13_limit_7 rfl rfl ?_
  refine g_iadd dX13_limit_8 ?_
  refine g_aload_n dX13_limit_9 rfl rfl ?_
  refine g_get_Model_w dX13_limit_10 mw_1155 (by assumption) (by assumption) ?_
  refine g_sipush dX13_limit_13 (by decide) ?_
  refine g_iload_n dX13_limit_16 rfl rfl ?_
  refine g_iadd dX13_limit_17 ?_
  refine g_laload dX13_limit_18 (by assumption) (by omega) (by omega) ?_
  refine g_aload_n dX13_limit_19 rfl rfl ?_
  refine g_iload_n dX13_limit_20 rfl rfl ?_
  refine g_callVp (i := 10) rfl (gK0 (by assumption)) (g_at10 (by assumption)) (k_M_content Y hM _ (by omega)) u_X13_content mw_1335 dX13_limit_21 rfl rfl ⟨Nat.le_of_ble_eq_true rfl, Nat.le_of_ble_eq_true rfl⟩ ⟨Nat.le_of_ble_eq_true rfl, Nat.le_of_ble_eq_true rfl⟩ (Nat.le_of_ble_eq_true rfl) ?_
  refine g_lcmp_le (tgt := 36) dX13_limit_24 dX13_limit_25 (by decide) (by omega) (by omega) (fun c_24 => ?_) (fun c_24 => ?_)
  · refine g_aload_n dX13_limit_36 rfl rfl ?_
    refine g_get_Model_w dX13_limit_37 mw_1155 (by assumption) (by assumption) ?_
    refine g_sipush dX13_limit_40 (by decide) ?_
    refine g_iload_n dX13_limit_43 rfl rfl ?_
    refine g_iadd dX13_limit_44 ?_
    refine g_laload dX13_limit_45 (by assumption) (by omega) (by omega) ?_
    refine g_lastore dX13_limit_46 (by assumption) (by omega) (by omega) (fun A46 hA46 => ?_)
    have eA46 := congrFun (hA46.trans (g_uq_rw _ _ _ _)) w
    rw [g_rw_at] at eA46
    exact g_vret dX13_limit_47 rfl (by decide) (by decide) ⟨rfl, rfl, rfl, rfl, rfl, rfl, by rw [hA46, g_uq_rw, sLim]; first | rw [if_pos (by assumption)] | rw [if_neg (by omega)]⟩
  · refine g_aload_n dX13_limit_28 rfl rfl ?_
    refine g_iload_n dX13_limit_29 rfl rfl ?_
    refine g_callVp (i := 10) rfl (gK0 (by assumption)) (g_at10 (by assumption)) (k_M_content Y hM _ (by omega)) u_X13_content mw_1335 dX13_limit_30 rfl rfl ⟨Nat.le_of_ble_eq_true rfl, Nat.le_of_ble_eq_true rfl⟩ ⟨Nat.le_of_ble_eq_true rfl, Nat.le_of_ble_eq_true rfl⟩ (Nat.le_of_ble_eq_true rfl) ?_
    refine g_goto (tgt := 46) dX13_limit_33 (by decide) ?_
    refine g_lastore dX13_limit_46 (by assumption) (by omega) (by omega) (fun A46 hA46 => ?_)
    have eA46 := congrFun (hA46.trans (g_uq_rw _ _ _ _)) w
    rw [g_rw_at] at eA46
    exact g_vret dX13_limit_47 rfl (by decide) (by decide) ⟨rfl, rfl, rfl, rfl, rfl, rfl, by rw [hA46, g_uq_rw, sLim]; first | rw [if_pos (by assumption)] | rw [if_neg (by omega)]⟩
set_option maxHeartbeats 4000000 in
set_option maxRecDepth 100000 in
theorem k_M_breaks (Y : gEnv) {K N : Nat → Nat} {I : Nat → Nat → Int} {A : Nat → Int → Int} {R : Nat → Nat → Option Nat} {Q : Nat → Int → Option Nat} {x w sv tx ag : Nat} (hM : mS K N R x w sv tx ag) (t : Int) (hB : mB (sU (A w) 1612 (A w 1612 + t))) (ht : -1000000000000000 ≤ t ∧ t ≤ 1000000000000000) (he : 0 ≤ A w 1616 ∧ A w 1616 ≤ 20) : gC Y yX13_breaks cX13_breaks 3 none ({ frames := 1, cells := 0, slots := 0, locals := 24 } : Room) [.ref x, vl t] K N I A R Q (g_wr K N R Q (fun v I' A' => v = none ∧ I' = I ∧ A' = g_rw A w (sBrk (A w) t))) gno := by
  refine gC_of (by decide) (Nat.le_of_ble_eq_true rfl) (fun X => ?_)
  obtain ⟨hKx, hRw, hRs, hRt, hRa, hKw, hNw, hKs, hNs, hKt, hNt, hKa, hNa, hta⟩ := id hM
  refine g_aload_n dX13_breaks_0 rfl rfl ?_
  refine g_get_Model_w dX13_breaks_1 mw_1155 (by assumption) (by assumption) ?_
  refine g_sipush dX13_breaks_4 (by decide) ?_
  refine g_dup2 dX13_breaks_7 rfl rfl ?_
  refine g_laload dX13_breaks_8 (by assumption) (by omega) (by omega) ?_
  refine g_lload_n dX13_breaks_9 rfl rfl ?_
  refine g_ladd dX13_breaks_10 ?_
  refine g_lastore dX13_breaks_11 (by assumption) (by omega) (by omega) (fun A11 hA11 => ?_)
  have eA11 := congrFun (hA11.trans (g_uq_rw _ _ _ _)) w
  rw [g_rw_at] at eA11
  refine g_lload_n dX13_breaks_12 rfl rfl ?_
  refine g_lconst (c := 0) dX13_breaks_13 (by decide) ?_
  refine g_lcmp_le (tgt := 24) dX13_breaks_14 dX13_breaks_15 (by decide) (by omega) (by omega) (fun c_14 => ?_) (fun c_14 => ?_)
  · exact g_vret dX13_breaks_24 rfl (by decide) (by decide) ⟨rfl, rfl, rfl, rfl, rfl, rfl, by
      first
      | (rw [h21, eA11, hA11, g_uq_rw, g_rw_rw, sBrk, if_pos (by assumption)]; done)
      | rw [hA11, g_uq_rw, sBrk, if_neg (by omega)]⟩
  · have he2 : 0 ≤ A11 w 1616 ∧ A11 w 1616 ≤ 20 := by rw [eA11, sU_ne _ _ (by omega)]; exact he
    refine g_aload_n dX13_breaks_18 rfl rfl ?_
    refine g_iconst dX13_breaks_19 ?_
    refine g_lload_n dX13_breaks_20 rfl rfl ?_
    refine g_callVw (i := 10) rfl (gK0 (by assumption)) (g_at10 (by assumption)) (k_M_happens Y hM (by rw [eA11]; exact hB) _ (by omega) _ he2) u_X13_happens mw_1275 dX13_breaks_21 rfl rfl ⟨Nat.le_of_ble_eq_true rfl, Nat.le_of_ble_eq_true rfl⟩ ⟨Nat.le_of_ble_eq_true rfl, Nat.le_of_ble_eq_true rfl⟩ (Nat.le_of_ble_eq_true rfl) (fun v21 I21 A21 h21 => ?_)
    obtain ⟨rfl, rfl, h21⟩ := h21
    exact g_vret dX13_breaks_24 rfl (by decide) (by decide) ⟨rfl, rfl, rfl, rfl, rfl, rfl, by
      first
      | (rw [h21, eA11, hA11, g_uq_rw, g_rw_rw, sBrk, if_pos (by assumption)]; done)
      | rw [hA11, g_uq_rw, sBrk, if_neg (by omega)]⟩
set_option maxHeartbeats 4000000 in
set_option maxRecDepth 100000 in
theorem k_M_add (Y : gEnv) {K N : Nat → Nat} {I : Nat → Nat → Int} {A : Nat → Int → Int} {R : Nat → Nat → Option Nat} {Q : Nat → Int → Option Nat} {x w sv tx ag : Nat} (hM : mS K N R x w sv tx ag) (hB : mB (A w)) (hn : 0 ≤ A w 1614 ∧ A w 1614 ≤ 160) (g s r t h : Int) (hg : (-2147483648 ≤ g ∧ g ≤ 2147483647)) (hs : (-2147483648 ≤ s ∧ s ≤ 2147483647)) (hr : (-2147483648 ≤ r ∧ r ≤ 2147483647)) (ht : -1000000000000000 ≤ t ∧ t ≤ 1000000000000000) (hnew : sFind (A w) g s r = -1 → A w 1614 < 160) : gC Y yX13_add cX13_add 9 none ({ frames := 1, cells := 0, slots := 0, locals := 24 } : Room) [.ref x, vi g, vi s, vi r, vl t, vl h] K N I A R Q (g_wr K N R Q (fun v I' A' => v = none ∧ I' = I ∧ A' = g_rw A w (sAdd (A w) g s r t h))) gno := by
  refine gC_of (by decide) (Nat.le_of_ble_eq_true rfl) (fun X => ?_)
  obtain ⟨hKx, hRw, hRs, hRt, hRa, hKw, hNw, hKs, hNs, hKt, hNt, hKa, hNa, hta⟩ := id hM
  have hfr := sFind_range hn.1 g s r
  refine g_lload dX13_add_0 rfl ?_
  refine g_lconst (c := 0) dX13_add_2 (by decide) ?_
  refine g_lcmp_ne (tgt := 8) dX13_add_3 dX13_add_4 (by decide) (by first | omega | exact m64 (hB _)) (by first | omega | exact m64 (hB _)) (fun c_3 => ?_) (fun c_3 => ?_)
  · refine g_aload_n dX13_add_8 rfl rfl ?_
    refine g_iload_n dX13_add_9 rfl rfl ?_
    refine g_iload_n dX13_add_10 rfl rfl ?_
    refine g_iload_n dX13_add_11 rfl rfl ?_
    refine g_callVp (i := 10) rfl (gK0 (by assumption)) (g_at10 (by assumption)) (k_M_find Y hM hB _ _ _ (by omega) (by omega) (by omega) (by omega)) u_X13_find mw_1300 dX13_add_12 rfl rfl ⟨Nat.le_of_ble_eq_true rfl, Nat.le_of_ble_eq_true rfl⟩ ⟨Nat.le_of_ble_eq_true rfl, Nat.le_of_ble_eq_true rfl⟩ (Nat.le_of_ble_eq_true rfl) ?_
    refine g_istore dX13_add_15 (by decide) ?_
    refine g_iload dX13_add_17 rfl ?_
    refine g_iconst dX13_add_19 ?_
    refine g_icmp_ne (tgt := 85) dX13_add_20 (by decide) (by first | omega | exact m64 (hB _)) (by first | omega | exact m64 (hB _)) (fun c_20 => ?_) (fun c_20 => ?_)
    · refine g_aload_n dX13_add_85 rfl rfl ?_
      refine g_get_Model_w dX13_add_86 mw_1155 (by assumption) (by assumption) ?_
      refine g_sipush dX13_add_89 (by decide) ?_
      refine g_iload dX13_add_92 rfl ?_
      refine g_iadd dX13_add_94 ?_
      refine g_dup2 dX13_add_95 rfl rfl ?_
      refine g_laload dX13_add_96 (by assumption) (by omega) (by omega) ?_
      refine g_lload dX13_add_97 rfl ?_
      refine g_ladd dX13_add_99 ?_
      refine g_lastore dX13_add_100 (by assumption) (by omega) (by omega) (fun A100 hA100 => ?_)
      have eA100 := congrFun (hA100.trans (g_uq_rw _ _ _ _)) w
      rw [g_rw_at] at eA100
      refine g_aload_n dX13_add_101 rfl rfl ?_
      refine g_get_Model_w dX13_add_102 mw_1155 (by assumption) (by assumption) ?_
      refine g_sipush dX13_add_105 (by decide) ?_
      refine g_iload dX13_add_108 rfl ?_
      refine g_iadd dX13_add_110 ?_
      refine g_dup2 dX13_add_111 rfl rfl ?_
      refine g_laload dX13_add_112 (by assumption) (by omega) (by omega) ?_
      refine g_lload dX13_add_113 rfl ?_
      refine g_ladd dX13_add_115 ?_
      refine g_lastore dX13_add_116 (by assumption) (by omega) (by omega) (fun A116 hA116 => ?_)
      have eA116 := congrFun (hA116.trans (g_uq_rw _ _ _ _)) w
      rw [g_rw_at] at eA116
      exact g_vret dX13_add_117 rfl (by decide) (by decide) ⟨rfl, rfl, rfl, rfl, rfl, rfl, by
      first
      | (rw [hA116, hA100, hA84, hA71, hA58, hA45, sAdd, if_neg (by assumption), if_pos (by assumption)]; simp only [g_uq_rw, g_rw_rw, g_rw_at]; rfl)
      | (rw [hA116, hA100, sAdd, if_neg (by assumption), if_neg (by assumption)]; simp only [g_uq_rw, g_rw_rw, g_rw_at]; rfl)⟩
    · refine g_aload_n dX13_add_23 rfl rfl ?_
      refine g_get_Model_w dX13_add_24 mw_1155 (by assumption) (by assumption) ?_
      refine g_sipush dX13_add_27 (by decide) ?_
      refine g_laload dX13_add_30 (by assumption) (by omega) (by omega) ?_
      refine g_l2i dX13_add_31 ?_
      refine g_istore dX13_add_32 (by decide) ?_
      refine g_aload_n dX13_add_34 rfl rfl ?_
      refine g_get_Model_w dX13_add_35 mw_1155 (by assumption) (by assumption) ?_
      refine g_sipush dX13_add_38 (by decide) ?_
      refine g_dup2 dX13_add_41 rfl rfl ?_
      refine g_laload dX13_add_42 (by assumption) (by omega) (by omega) ?_
      refine g_lconst (c := 1) dX13_add_43 (by decide) ?_
      refine g_ladd dX13_add_44 ?_
      refine g_lastore dX13_add_45 (by assumption) (by omega) (by omega) (fun A45 hA45 => ?_)
      have eA45 := congrFun (hA45.trans (g_uq_rw _ _ _ _)) w
      rw [g_rw_at] at eA45
      have q1 : A w 1614 < 160 := hnew (by omega)
      refine g_aload_n dX13_add_46 rfl rfl ?_
      refine g_get_Model_w dX13_add_47 mw_1155 (by assumption) (by assumption) ?_
      refine g_sipush dX13_add_50 (by decide) ?_
      refine g_iload dX13_add_53 rfl ?_
      refine g_iadd dX13_add_55 ?_
      refine g_iload_n dX13_add_56 rfl rfl ?_
      refine g_i2l dX13_add_57 (by first | omega | exact m64 (hB _)) ?_
      refine g_lastore dX13_add_58 (by assumption) (by omega) (by omega) (fun A58 hA58 => ?_)
      have eA58 := congrFun (hA58.trans (g_uq_rw _ _ _ _)) w
      rw [g_rw_at] at eA58
      refine g_aload_n dX13_add_59 rfl rfl ?_
      refine g_get_Model_w dX13_add_60 mw_1155 (by assumption) (by assumption) ?_
      refine g_sipush dX13_add_63 (by decide) ?_
      refine g_iload dX13_add_66 rfl ?_
      refine g_iadd dX13_add_68 ?_
      refine g_iload_n dX13_add_69 rfl rfl ?_
      refine g_i2l dX13_add_70 (by first | omega | exact m64 (hB _)) ?_
      refine g_lastore dX13_add_71 (by assumption) (by omega) (by omega) (fun A71 hA71 => ?_)
      have eA71 := congrFun (hA71.trans (g_uq_rw _ _ _ _)) w
      rw [g_rw_at] at eA71
      refine g_aload_n dX13_add_72 rfl rfl ?_
      refine g_get_Model_w dX13_add_73 mw_1155 (by assumption) (by assumption) ?_
      refine g_sipush dX13_add_76 (by decide) ?_
      refine g_iload dX13_add_79 rfl ?_
      refine g_iadd dX13_add_81 ?_
      refine g_iload_n dX13_add_82 rfl rfl ?_
      refine g_i2l dX13_add_83 (by first | omega | exact m64 (hB _)) ?_
      refine g_lastore dX13_add_84 (by assumption) (by omega) (by omega) (fun A84 hA84 => ?_)
      have eA84 := congrFun (hA84.trans (g_uq_rw _ _ _ _)) w
      rw [g_rw_at] at eA84
      refine g_aload_n dX13_add_85 rfl rfl ?_
      refine g_get_Model_w dX13_add_86 mw_1155 (by assumption) (by assumption) ?_
      refine g_sipush dX13_add_89 (by decide) ?_
      refine g_iload dX13_add_92 rfl ?_
      refine g_iadd dX13_add_94 ?_
      refine g_dup2 dX13_add_95 rfl rfl ?_
      refine g_laload dX13_add_96 (by assumption) (by omega) (by omega) ?_
      refine g_lload dX13_add_97 rfl ?_
      refine g_ladd dX13_add_99 ?_
      refine g_lastore dX13_add_100 (by assumption) (by omega) (by omega) (fun A100 hA100 => ?_)
      have eA100 := congrFun (hA100.trans (g_uq_rw _ _ _ _)) w
      rw [g_rw_at] at eA100
      refine g_aload_n dX13_add_101 rfl rfl ?_
      refine g_get_Model_w dX13_add_102 mw_1155 (by assumption) (by assumption) ?_
      refine g_sipush dX13_add_105 (by decide) ?_
      refine g_iload dX13_add_108 rfl ?_
      refine g_iadd dX13_add_110 ?_
      refine g_dup2 dX13_add_111 rfl rfl ?_
      refine g_laload dX13_add_112 (by assumption) (by omega) (by omega) ?_
      refine g_lload dX13_add_113 rfl ?_
      refine g_ladd dX13_add_115 ?_
      refine g_lastore dX13_add_116 (by assumption) (by omega) (by omega) (fun A116 hA116 => ?_)
      have eA116 := congrFun (hA116.trans (g_uq_rw _ _ _ _)) w
      rw [g_rw_at] at eA116
      exact g_vret dX13_add_117 rfl (by decide) (by decide) ⟨rfl, rfl, rfl, rfl, rfl, rfl, by
      first
      | (rw [hA116, hA100, hA84, hA71, hA58, hA45, sAdd, if_neg (by assumption), if_pos (by assumption)]; simp only [g_uq_rw, g_rw_rw, g_rw_at]; rfl)
      | (rw [hA116, hA100, sAdd, if_neg (by assumption), if_neg (by assumption)]; simp only [g_uq_rw, g_rw_rw, g_rw_at]; rfl)⟩
  · exact g_vret dX13_add_7 rfl (by decide) (by decide) ⟨rfl, rfl, rfl, rfl, rfl, rfl, by rw [sAdd, if_pos (by assumption), g_rw_self]⟩
set_option maxHeartbeats 4000000 in
set_option maxRecDepth 100000 in
theorem lp_M_lay {Y : gEnv} {X : gCtx} {K N : Nat → Nat} {I : Nat → Nat → Int} {A : Nat → Int → Int} {R : Nat → Nat → Option Nat} {Q : Nat → Int → Option Nat} {po : gPo} {px : gPx} {x w sv tx ag : Nat} (hM : mS K N R x w sv tx ag) (hB : mB (A w)) (g s t h : Int) (hg : (-2147483648 ≤ g ∧ g ≤ 2147483647)) (hs : (-2147483648 ≤ s ∧ s ≤ 2147483647)) (hn : 0 ≤ A w 1613 ∧ A w 1613 ≤ 80) : ∀ (f m : Nat) (p : Int), m < f → 0 ≤ p → p + m = A w 1613 → gJ Y X yX13_lay cX13_lay 8 none ({ frames := 0, cells := 0, slots := 0, locals := 0 } : Room) po px 0 0 57 [(0, .ref x), (1, vi g), (2, vi s), (3, vl t), (5, vl h), (7, vi (sLx (sLayP (A w) g s) m p))] [] K N I A R Q → gJ Y X yX13_lay cX13_lay 8 none ({ frames := 0, cells := 0, slots := 0, locals := 0 } : Room) po px 0 0 3 [(0, .ref x), (1, vi g), (2, vi s), (3, vl t), (5, vl h), (7, vi p)] [] K N I A R Q := by
  obtain ⟨hKx, hRw, hRs, hRt, hRa, hKw, hNw, hKs, hNs, hKt, hNt, hKa, hNa, hta⟩ := id hM
  intro f
  induction f with
  | zero => intro m p h; omega
  | succ f ih =>
  intro m p hf hp hm kx
  refine g_iload dX13_lay_3 rfl ?_
  refine g_i2l dX13_lay_5 (by first | omega | exact m64 (hB _)) ?_
  refine g_aload_n dX13_lay_6 rfl rfl ?_
  refine g_get_Model_w dX13_lay_7 mw_1155 (by assumption) (by assumption) ?_
  refine g_sipush dX13_lay_10 (by decide) ?_
  refine g_laload dX13_lay_13 (by assumption) (by omega) (by omega) ?_
  refine g_lcmp_ge (tgt := 57) dX13_lay_14 dX13_lay_15 (by decide) (by first | omega | exact m64 (hB _)) (by first | omega | exact m64 (hB _)) (fun c_14 => ?_) (fun c_14 => ?_)
  · first
    | (rw [sLx_stop (by omega)] at kx; exact kx)
    | (rw [sLx_hit (by omega) (by simp [sLayP]; omega)] at kx; exact kx)
  · refine g_aload_n dX13_lay_18 rfl rfl ?_
    refine g_get_Model_w dX13_lay_19 mw_1155 (by assumption) (by assumption) ?_
    refine g_bipush dX13_lay_22 (by decide) ?_
    refine g_iload dX13_lay_24 rfl ?_
    refine g_iadd dX13_lay_26 ?_
    refine g_laload dX13_lay_27 (by assumption) (by omega) (by omega) ?_
    refine g_iload_n dX13_lay_28 rfl rfl ?_
    refine g_i2l dX13_lay_29 (by first | omega | exact m64 (hB _)) ?_
    refine g_lcmp_ne (tgt := 51) dX13_lay_30 dX13_lay_31 (by decide) (by first | omega | exact m64 (hB _)) (by first | omega | exact m64 (hB _)) (fun c_30 => ?_) (fun c_30 => ?_)
    · refine g_iinc dX13_lay_51 rfl (by decide) ?_
      refine g_goto (tgt := 3) dX13_lay_54 (by decide) ?_
      rw [sLx_miss (by omega) (by simp [sLayP]; omega)] at kx
      exact g_locs (by exact ⟨rfl, rfl, rfl, rfl, rfl, rfl, trivial⟩) (ih (m - 1) (p + 1) (by omega) (by omega) (by omega) kx)
    · refine g_aload_n dX13_lay_34 rfl rfl ?_
      refine g_get_Model_w dX13_lay_35 mw_1155 (by assumption) (by assumption) ?_
      refine g_sipush dX13_lay_38 (by decide) ?_
      refine g_iload dX13_lay_41 rfl ?_
      refine g_iadd dX13_lay_43 ?_
      refine g_laload dX13_lay_44 (by assumption) (by omega) (by omega) ?_
      refine g_iload_n dX13_lay_45 rfl rfl ?_
      refine g_i2l dX13_lay_46 (by first | omega | exact m64 (hB _)) ?_
      refine g_lcmp_eq (tgt := 57) dX13_lay_47 dX13_lay_48 (by decide) (by first | omega | exact m64 (hB _)) (by first | omega | exact m64 (hB _)) (fun c_47 => ?_) (fun c_47 => ?_)
      · first
        | (rw [sLx_stop (by omega)] at kx; exact kx)
        | (rw [sLx_hit (by omega) (by simp [sLayP]; omega)] at kx; exact kx)
      · refine g_iinc dX13_lay_51 rfl (by decide) ?_
        refine g_goto (tgt := 3) dX13_lay_54 (by decide) ?_
        rw [sLx_miss (by omega) (by simp [sLayP]; omega)] at kx
        exact g_locs (by exact ⟨rfl, rfl, rfl, rfl, rfl, rfl, trivial⟩) (ih (m - 1) (p + 1) (by omega) (by omega) (by omega) kx)
set_option maxHeartbeats 4000000 in
set_option maxRecDepth 100000 in
theorem k_M_lay (Y : gEnv) {K N : Nat → Nat} {I : Nat → Nat → Int} {A : Nat → Int → Int} {R : Nat → Nat → Option Nat} {Q : Nat → Int → Option Nat} {x w sv tx ag : Nat} (hM : mS K N R x w sv tx ag) (hB : mB (A w)) (g s t h : Int) (hg : (-2147483648 ≤ g ∧ g ≤ 2147483647)) (hs : (-2147483648 ≤ s ∧ s ≤ 2147483647)) (hn : 0 ≤ A w 1613 ∧ A w 1613 ≤ 80) (hnew : sLayI (A w) g s = A w 1613 → A w 1613 < 80) : gC Y yX13_lay cX13_lay 8 none ({ frames := 0, cells := 0, slots := 0, locals := 0 } : Room) [.ref x, vi g, vi s, vl t, vl h] K N I A R Q (g_wr K N R Q (fun v I' A' => v = none ∧ I' = I ∧ A' = g_rw A w (sLay (A w) g s t h))) gno := by
  refine gC_of (by decide) (Nat.le_of_ble_eq_true rfl) (fun X => ?_)
  obtain ⟨hKx, hRw, hRs, hRt, hRa, hKw, hNw, hKs, hNs, hKt, hNt, hKa, hNa, hta⟩ := id hM
  have hfr := sLx_range (P := sLayP (A w) g s) (A w 1613).toNat 0
  refine g_iconst dX13_lay_0 ?_
  refine g_istore dX13_lay_1 (by decide) ?_
  refine g_locs (by exact ⟨rfl, rfl, rfl, rfl, rfl, rfl, trivial⟩) (lp_M_lay hM hB g s t h hg hs hn _ (A w 1613).toNat 0 (Nat.lt_succ_self _) (by omega) (by omega) ?_)
  have hp : 0 ≤ sLayI (A w) g s ∧ sLayI (A w) g s ≤ A w 1613 := by unfold sLayI; omega
  rw [show sLx (sLayP (A w) g s) (A w 1613).toNat 0 = sLayI (A w) g s from rfl]
  clear hfr
  generalize hpp : sLayI (A w) g s = p at hp hnew ⊢
  refine g_iload dX13_lay_57 rfl ?_
  refine g_i2l dX13_lay_59 (by first | omega | exact m64 (hB _)) ?_
  refine g_aload_n dX13_lay_60 rfl rfl ?_
  refine g_get_Model_w dX13_lay_61 mw_1155 (by assumption) (by assumption) ?_
  refine g_sipush dX13_lay_64 (by decide) ?_
  refine g_laload dX13_lay_67 (by assumption) (by omega) (by omega) ?_
  refine g_lcmp_ne (tgt := 133) dX13_lay_68 dX13_lay_69 (by decide) (by first | omega | exact m64 (hB _)) (by first | omega | exact m64 (hB _)) (fun c_68 => ?_) (fun c_68 => ?_)
  · refine g_aload_n dX13_lay_133 rfl rfl ?_
    refine g_get_Model_w dX13_lay_134 mw_1155 (by assumption) (by assumption) ?_
    refine g_sipush dX13_lay_137 (by decide) ?_
    refine g_iload dX13_lay_140 rfl ?_
    refine g_iadd dX13_lay_142 ?_
    refine g_dup2 dX13_lay_143 rfl rfl ?_
    refine g_laload dX13_lay_144 (by assumption) (by omega) (by omega) ?_
    refine g_lload_n dX13_lay_145 rfl rfl ?_
    refine g_ladd dX13_lay_146 ?_
    refine g_lastore dX13_lay_147 (by assumption) (by omega) (by omega) (fun A147 hA147 => ?_)
    have eA147 := congrFun (hA147.trans (g_uq_rw _ _ _ _)) w
    rw [g_rw_at] at eA147
    refine g_aload_n dX13_lay_148 rfl rfl ?_
    refine g_get_Model_w dX13_lay_149 mw_1155 (by assumption) (by assumption) ?_
    refine g_sipush dX13_lay_152 (by decide) ?_
    refine g_iload dX13_lay_155 rfl ?_
    refine g_iadd dX13_lay_157 ?_
    refine g_dup2 dX13_lay_158 rfl rfl ?_
    refine g_laload dX13_lay_159 (by assumption) (by omega) (by omega) ?_
    refine g_lload dX13_lay_160 rfl ?_
    refine g_ladd dX13_lay_162 ?_
    refine g_lastore dX13_lay_163 (by assumption) (by omega) (by omega) (fun A163 hA163 => ?_)
    have eA163 := congrFun (hA163.trans (g_uq_rw _ _ _ _)) w
    rw [g_rw_at] at eA163
    exact g_vret dX13_lay_164 rfl (by decide) (by decide) ⟨rfl, rfl, rfl, rfl, rfl, rfl, by
      first
      | (rw [hA163, hA147, hA132, hA120, hA108, hA95, hA83, sLay, hpp, if_pos (by assumption)]; simp only [g_uq_rw, g_rw_rw, g_rw_at]; rfl)
      | (rw [hA163, hA147, sLay, hpp, if_neg (by assumption)]; simp only [g_uq_rw, g_rw_rw, g_rw_at]; rfl)⟩
  · have q1 := hnew (by omega)
    refine g_aload_n dX13_lay_72 rfl rfl ?_
    refine g_get_Model_w dX13_lay_73 mw_1155 (by assumption) (by assumption) ?_
    refine g_sipush dX13_lay_76 (by decide) ?_
    refine g_dup2 dX13_lay_79 rfl rfl ?_
    refine g_laload dX13_lay_80 (by assumption) (by omega) (by omega) ?_
    refine g_lconst (c := 1) dX13_lay_81 (by decide) ?_
    refine g_ladd dX13_lay_82 ?_
    refine g_lastore dX13_lay_83 (by assumption) (by omega) (by omega) (fun A83 hA83 => ?_)
    have eA83 := congrFun (hA83.trans (g_uq_rw _ _ _ _)) w
    rw [g_rw_at] at eA83
    refine g_aload_n dX13_lay_84 rfl rfl ?_
    refine g_get_Model_w dX13_lay_85 mw_1155 (by assumption) (by assumption) ?_
    refine g_bipush dX13_lay_88 (by decide) ?_
    refine g_iload dX13_lay_90 rfl ?_
    refine g_iadd dX13_lay_92 ?_
    refine g_iload_n dX13_lay_93 rfl rfl ?_
    refine g_i2l dX13_lay_94 (by first | omega | exact m64 (hB _)) ?_
    refine g_lastore dX13_lay_95 (by assumption) (by omega) (by omega) (fun A95 hA95 => ?_)
    have eA95 := congrFun (hA95.trans (g_uq_rw _ _ _ _)) w
    rw [g_rw_at] at eA95
    refine g_aload_n dX13_lay_96 rfl rfl ?_
    refine g_get_Model_w dX13_lay_97 mw_1155 (by assumption) (by assumption) ?_
    refine g_sipush dX13_lay_100 (by decide) ?_
    refine g_iload dX13_lay_103 rfl ?_
    refine g_iadd dX13_lay_105 ?_
    refine g_iload_n dX13_lay_106 rfl rfl ?_
    refine g_i2l dX13_lay_107 (by first | omega | exact m64 (hB _)) ?_
    refine g_lastore dX13_lay_108 (by assumption) (by omega) (by omega) (fun A108 hA108 => ?_)
    have eA108 := congrFun (hA108.trans (g_uq_rw _ _ _ _)) w
    rw [g_rw_at] at eA108
    refine g_aload_n dX13_lay_109 rfl rfl ?_
    refine g_get_Model_w dX13_lay_110 mw_1155 (by assumption) (by assumption) ?_
    refine g_sipush dX13_lay_113 (by decide) ?_
    refine g_iload dX13_lay_116 rfl ?_
    refine g_iadd dX13_lay_118 ?_
    refine g_lconst (c := 0) dX13_lay_119 (by decide) ?_
    refine g_lastore dX13_lay_120 (by assumption) (by omega) (by omega) (fun A120 hA120 => ?_)
    have eA120 := congrFun (hA120.trans (g_uq_rw _ _ _ _)) w
    rw [g_rw_at] at eA120
    refine g_aload_n dX13_lay_121 rfl rfl ?_
    refine g_get_Model_w dX13_lay_122 mw_1155 (by assumption) (by assumption) ?_
    refine g_sipush dX13_lay_125 (by decide) ?_
    refine g_iload dX13_lay_128 rfl ?_
    refine g_iadd dX13_lay_130 ?_
    refine g_lconst (c := 0) dX13_lay_131 (by decide) ?_
    refine g_lastore dX13_lay_132 (by assumption) (by omega) (by omega) (fun A132 hA132 => ?_)
    have eA132 := congrFun (hA132.trans (g_uq_rw _ _ _ _)) w
    rw [g_rw_at] at eA132
    refine g_aload_n dX13_lay_133 rfl rfl ?_
    refine g_get_Model_w dX13_lay_134 mw_1155 (by assumption) (by assumption) ?_
    refine g_sipush dX13_lay_137 (by decide) ?_
    refine g_iload dX13_lay_140 rfl ?_
    refine g_iadd dX13_lay_142 ?_
    refine g_dup2 dX13_lay_143 rfl rfl ?_
    refine g_laload dX13_lay_144 (by assumption) (by omega) (by omega) ?_
    refine g_lload_n dX13_lay_145 rfl rfl ?_
    refine g_ladd dX13_lay_146 ?_
    refine g_lastore dX13_lay_147 (by assumption) (by omega) (by omega) (fun A147 hA147 => ?_)
    have eA147 := congrFun (hA147.trans (g_uq_rw _ _ _ _)) w
    rw [g_rw_at] at eA147
    refine g_aload_n dX13_lay_148 rfl rfl ?_
    refine g_get_Model_w dX13_lay_149 mw_1155 (by assumption) (by assumption) ?_
    refine g_sipush dX13_lay_152 (by decide) ?_
    refine g_iload dX13_lay_155 rfl ?_
    refine g_iadd dX13_lay_157 ?_
    refine g_dup2 dX13_lay_158 rfl rfl ?_
    refine g_laload dX13_lay_159 (by assumption) (by omega) (by omega) ?_
    refine g_lload dX13_lay_160 rfl ?_
    refine g_ladd dX13_lay_162 ?_
    refine g_lastore dX13_lay_163 (by assumption) (by omega) (by omega) (fun A163 hA163 => ?_)
    have eA163 := congrFun (hA163.trans (g_uq_rw _ _ _ _)) w
    rw [g_rw_at] at eA163
    exact g_vret dX13_lay_164 rfl (by decide) (by decide) ⟨rfl, rfl, rfl, rfl, rfl, rfl, by
      first
      | (rw [hA163, hA147, hA132, hA120, hA108, hA95, hA83, sLay, hpp, if_pos (by assumption)]; simp only [g_uq_rw, g_rw_rw, g_rw_at]; rfl)
      | (rw [hA163, hA147, sLay, hpp, if_neg (by assumption)]; simp only [g_uq_rw, g_rw_rw, g_rw_at]; rfl)⟩
set_option maxHeartbeats 4000000 in
set_option maxRecDepth 100000 in
theorem lp_M_doPack {Y : gEnv} {X : gCtx} {K N : Nat → Nat} {I : Nat → Nat → Int} {A : Nat → Int → Int} {R : Nat → Nat → Option Nat} {Q : Nat → Int → Option Nat} {A0 : Nat → Int → Int} {x w sv tx ag : Nat} (hM : mS K N R x w sv tx ag) (hB : mB (A0 w)) (hn : 0 ≤ A0 w 1614 ∧ A0 w 1614 ≤ 160) (hb : 1 ≤ A0 w 89 ∧ A0 w 89 ≤ 50) : ∀ (f m : Nat) (l s : Int), m < f → 0 ≤ l → l + m = A0 w 1614 → A = g_rw A0 w (sPackK (A0 w) l) → gJ Y X yX13_doPack cX13_doPack 6 (some .int) ({ frames := 0, cells := 0, slots := 0, locals := 0 } : Room) (g_wr K N R Q (fun v I' A' => v = some (vi (s + sSum (fun l => (A0 w (890 + l)).tdiv (A0 w 89)) m l)) ∧ I' = I ∧ A' = g_rw A0 w (sPack (A0 w)))) gno 0 0 4 [(0, .ref x), (1, vl s), (3, vi l)] [] K N I A R Q := by
  obtain ⟨hKx, hRw, hRs, hRt, hRa, hKw, hNw, hKs, hNs, hKt, hNt, hKa, hNa, hta⟩ := id hM
  intro f
  induction f generalizing A with
  | zero => intro m l s h; omega
  | succ f ih =>
  intro m l s hf hl hm hA
  have eA : A w = sPackK (A0 w) l := by rw [hA, g_rw_at]
  have e14 : A w 1614 = A0 w 1614 := by rw [eA, sPackK, if_neg (by omega), if_neg (by omega)]
  have e89 : A w 89 = A0 w 89 := by rw [eA, sPackK, if_neg (by omega), if_neg (by omega)]
  refine g_iload_n dX13_doPack_4 rfl rfl ?_
  refine g_i2l dX13_doPack_5 (by first | omega | exact m64 (hB _)) ?_
  refine g_aload_n dX13_doPack_6 rfl rfl ?_
  refine g_get_Model_w dX13_doPack_7 mw_1155 (by assumption) (by assumption) ?_
  refine g_sipush dX13_doPack_10 (by decide) ?_
  refine g_laload dX13_doPack_13 (by assumption) (by omega) (by omega) ?_
  refine g_lcmp_ge (tgt := 87) dX13_doPack_14 dX13_doPack_15 (by decide) (by first | omega | exact m64 (hB _)) (by omega) (fun c_14 => ?_) (fun c_14 => ?_)
  · refine g_lload_n dX13_doPack_87 rfl rfl ?_
    refine g_l2i dX13_doPack_88 ?_
    exact g_iret dX13_doPack_89 rfl (by decide) (by decide) ⟨rfl, rfl, rfl, rfl, by rw [sSum_stop (by omega), Int.add_zero], rfl, by rw [hA, sPack, show l = A0 w 1614 by omega]⟩
  · obtain ⟨e1, e2, e3, e4⟩ := sPackK_in (w := A0 w) (k := l) (l := l) (by omega)
    rw [← eA] at e1 e2 e3 e4
    refine g_aload_n dX13_doPack_18 rfl rfl ?_
    refine g_get_Model_w dX13_doPack_19 mw_1155 (by assumption) (by assumption) ?_
    refine g_sipush dX13_doPack_22 (by decide) ?_
    refine g_iload_n dX13_doPack_25 rfl rfl ?_
    refine g_iadd dX13_doPack_26 ?_
    refine g_laload dX13_doPack_27 (by assumption) (by omega) (by omega) ?_
    refine g_aload_n dX13_doPack_28 rfl rfl ?_
    refine g_get_Model_w dX13_doPack_29 mw_1155 (by assumption) (by assumption) ?_
    refine g_bipush dX13_doPack_32 (by decide) ?_
    refine g_laload dX13_doPack_34 (by assumption) (by omega) (by omega) ?_
    refine g_ldiv dX13_doPack_35 (by rw [e1]; exact m64 (hB _)) (by omega) (by omega) ?_
    refine g_lstore dX13_doPack_36 (by decide) ?_
    refine g_aload_n dX13_doPack_38 rfl rfl ?_
    refine g_get_Model_w dX13_doPack_39 mw_1155 (by assumption) (by assumption) ?_
    refine g_sipush dX13_doPack_42 (by decide) ?_
    refine g_iload_n dX13_doPack_45 rfl rfl ?_
    refine g_iadd dX13_doPack_46 ?_
    refine g_dup2 dX13_doPack_47 rfl rfl ?_
    refine g_laload dX13_doPack_48 (by assumption) (by omega) (by omega) ?_
    refine g_lload dX13_doPack_49 rfl ?_
    refine g_ladd dX13_doPack_51 ?_
    refine g_lastore dX13_doPack_52 (by assumption) (by omega) (by omega) (fun A52 hA52 => ?_)
    have eA52 := congrFun (hA52.trans (g_uq_rw _ _ _ _)) w
    rw [g_rw_at] at eA52
    refine g_aload_n dX13_doPack_53 rfl rfl ?_
    refine g_get_Model_w dX13_doPack_54 mw_1155 (by assumption) (by assumption) ?_
    refine g_sipush dX13_doPack_57 (by decide) ?_
    refine g_iload_n dX13_doPack_60 rfl rfl ?_
    refine g_iadd dX13_doPack_61 ?_
    refine g_dup2 dX13_doPack_62 rfl rfl ?_
    skip
    refine g_laload dX13_doPack_63 (by assumption) (by omega) (by omega) ?_
    refine g_lload dX13_doPack_64 rfl ?_
    refine g_aload_n dX13_doPack_66 rfl rfl ?_
    refine g_get_Model_w dX13_doPack_67 mw_1155 (by assumption) (by assumption) ?_
    refine g_bipush dX13_doPack_70 (by decide) ?_
    refine g_laload dX13_doPack_72 (by assumption) (by omega) (by omega) ?_
    refine g_lmul dX13_doPack_73 ?_
    refine g_lsub dX13_doPack_74 ?_
    refine g_lastore dX13_doPack_75 (by assumption) (by omega) (by omega) (fun A75 hA75 => ?_)
    have eA75 := congrFun (hA75.trans (g_uq_rw _ _ _ _)) w
    rw [g_rw_at] at eA75
    refine g_lload_n dX13_doPack_76 rfl rfl ?_
    refine g_lload dX13_doPack_77 rfl ?_
    refine g_ladd dX13_doPack_79 ?_
    refine g_lstore_n dX13_doPack_80 rfl (by decide) ?_
    refine g_iinc dX13_doPack_81 rfl (by decide) ?_
    refine g_goto (tgt := 4) dX13_doPack_84 (by decide) ?_
    rw [sSum_step (by omega), ← Int.add_assoc]
    rw [show A w (890 + l) = A0 w (890 + l) from e1, e89]
    refine g_locs (by exact ⟨rfl, rfl, rfl, trivial⟩) (ih (m - 1) (l + 1) _ (by omega) (by omega) (by omega) ?_)
    rw [hA75, hA52]; simp only [g_uq_rw, g_rw_rw, g_rw_at]
    rw [hA, g_rw_rw, g_rw_at, ← eA, e2, e1, sU_ne _ _ (show (890 + l) ≠ 1050 + l by omega), sU_ne _ _ (show (89 : Int) ≠ 1050 + l by omega), e1, e89, eA, sPackK_succ (by omega) rfl]
set_option maxHeartbeats 4000000 in
set_option maxRecDepth 100000 in
theorem k_M_doPack (Y : gEnv) {K N : Nat → Nat} {I : Nat → Nat → Int} {A : Nat → Int → Int} {R : Nat → Nat → Option Nat} {Q : Nat → Int → Option Nat} {x w sv tx ag : Nat} (hM : mS K N R x w sv tx ag) (hB : mB (A w)) (hn : 0 ≤ A w 1614 ∧ A w 1614 ≤ 160) (hb : 1 ≤ A w 89 ∧ A w 89 ≤ 50) : gC Y yX13_doPack cX13_doPack 6 (some .int) ({ frames := 0, cells := 0, slots := 0, locals := 0 } : Room) [.ref x] K N I A R Q (g_wr K N R Q (fun v I' A' => v = some (vi (sSum (fun l => (A w (890 + l)).tdiv (A w 89)) (A w 1614).toNat 0)) ∧ I' = I ∧ A' = g_rw A w (sPack (A w)))) gno := by
  refine gC_of (by decide) (Nat.le_of_ble_eq_true rfl) (fun X => ?_)
  have h0 := lp_M_doPack (Y := Y) (X := X) (I := I) (Q := Q) (A := A) hM hB hn hb _ (A w 1614).toNat 0 0 (Nat.lt_succ_self _) (by omega) (by omega) (by rw [sPackK_0, g_rw_self])
  rw [Int.zero_add] at h0
  refine g_lconst (c := 0) dX13_doPack_0 (by decide) ?_
  refine g_lstore_n dX13_doPack_1 rfl (by decide) ?_
  refine g_iconst dX13_doPack_2 ?_
  refine g_istore_n dX13_doPack_3 rfl (by decide) ?_
  exact g_locs (by exact ⟨rfl, rfl, rfl, trivial⟩) h0
set_option maxHeartbeats 4000000 in
set_option maxRecDepth 100000 in
theorem lp_M_save2 {Y : gEnv} {X : gCtx} {K N : Nat → Nat} {I : Nat → Nat → Int} {A : Nat → Int → Int} {R : Nat → Nat → Option Nat} {Q : Nat → Int → Option Nat} {A1 : Nat → Int → Int} {po : gPo} {px : gPx} {x w sv tx ag : Nat} (hM : mS K N R x w sv tx ag) (hs : 0 ≤ I 204 x ∧ I 204 x ≤ 5) (hpo : po none K N (g_up I 204 x (I 204 x + 1)) (g_rw A1 sv (sSvC (A1 sv) (A1 w) (I 204 x) 1618)) R Q) : ∀ (f m : Nat) (k : Int), m < f → 0 ≤ k → k + m = 1618 → A = g_rw A1 sv (sSvC (A1 sv) (A1 w) (I 204 x) k) → gJ Y X yX13_save cX13_save 2 none ({ frames := 0, cells := 0, slots := 0, locals := 0 } : Room) po px 0 0 52 [(0, .ref x), (1, vi k)] [] K N I A R Q := by
  obtain ⟨hKx, hRw, hRs, hRt, hRa, hKw, hNw, hKs, hNs, hKt, hNt, hKa, hNa, hta⟩ := id hM
  have hws : w ≠ sv := fun e => by rw [e] at hNw; omega
  intro f
  induction f generalizing A with
  | zero => intro m k h; omega
  | succ f ih =>
  intro m k hf hk hm hA
  have eA : A sv = sSvC (A1 sv) (A1 w) (I 204 x) k := by rw [hA, g_rw_at]
  have eW : A w = A1 w := by rw [hA, g_rw_ne _ _ hws]
  refine g_iload_n dX13_save_52 rfl rfl ?_
  refine g_sipush dX13_save_53 (by decide) ?_
  refine g_icmp_ge (tgt := 86) dX13_save_56 (by decide) (by omega) (by omega) (fun c_56 => ?_) (fun c_56 => ?_)
  · refine g_aload_n dX13_save_86 rfl rfl ?_
    refine g_dup dX13_save_87 rfl ?_
    refine g_get_Model_savedMany dX13_save_88 mw_1159 (by assumption) ?_
    refine g_iconst dX13_save_91 ?_
    refine g_iadd dX13_save_92 ?_
    refine g_put_Model_savedMany dX13_save_93 mw_1159 (by assumption) (fun I93 hI93 => ?_)
    exact g_vret dX13_save_96 rfl (by decide) (by decide) (by rw [hI93, hA, show k = 1618 by omega]; exact hpo)
  · refine g_aload_n dX13_save_59 rfl rfl ?_
    refine g_get_Model_saved dX13_save_60 mw_1156 (by assumption) (by assumption) ?_
    refine g_aload_n dX13_save_63 rfl rfl ?_
    refine g_get_Model_savedMany dX13_save_64 mw_1159 (by assumption) ?_
    refine g_sipush dX13_save_67 (by decide) ?_
    refine g_imul dX13_save_70 ?_
    refine g_iload_n dX13_save_71 rfl rfl ?_
    refine g_iadd dX13_save_72 ?_
    refine g_aload_n dX13_save_73 rfl rfl ?_
    refine g_get_Model_w dX13_save_74 mw_1155 (by assumption) (by assumption) ?_
    refine g_iload_n dX13_save_77 rfl rfl ?_
    refine g_laload dX13_save_78 (by assumption) (by omega) (by omega) ?_
    refine g_lastore dX13_save_79 (by assumption) (by omega) (by omega) (fun A79 hA79 => ?_)
    have eA79 := congrFun (hA79.trans (g_uq_rw _ _ _ _)) sv
    rw [g_rw_at] at eA79
    refine g_iinc dX13_save_80 rfl (by decide) ?_
    refine g_goto (tgt := 52) dX13_save_83 (by decide) ?_
    refine g_locs (by exact ⟨rfl, rfl, trivial⟩) (ih (m - 1) (k + 1) (by omega) (by omega) (by omega) ?_)
    rw [hA79, g_uq_rw, eA, hA, g_rw_rw, g_rw_ne _ _ hws, sSvC_succ (by omega)]
set_option maxHeartbeats 4000000 in
set_option maxRecDepth 100000 in
theorem lp_M_save1 {Y : gEnv} {X : gCtx} {K N : Nat → Nat} {I : Nat → Nat → Int} {A : Nat → Int → Int} {R : Nat → Nat → Option Nat} {Q : Nat → Int → Option Nat} {A1 : Nat → Int → Int} {po : gPo} {px : gPx} {x w sv tx ag : Nat} (hM : mS K N R x w sv tx ag) (h6 : I 204 x = 6) (hpo : po none K N (g_up I 204 x 6) (g_rw A1 sv (sSvC (sSvS (A1 sv) 8090) (A1 w) 5 1618)) R Q) : ∀ (f m : Nat) (k : Int), m < f → 0 ≤ k → k + m = 8090 → A = g_rw A1 sv (sSvS (A1 sv) k) → gJ Y X yX13_save cX13_save 2 none ({ frames := 0, cells := 0, slots := 0, locals := 0 } : Room) po px 0 0 11 [(0, .ref x), (1, vi k)] [] K N I A R Q := by
  obtain ⟨hKx, hRw, hRs, hRt, hRa, hKw, hNw, hKs, hNs, hKt, hNt, hKa, hNa, hta⟩ := id hM
  have hws : w ≠ sv := fun e => by rw [e] at hNw; omega
  intro f
  induction f generalizing A with
  | zero => intro m k h; omega
  | succ f ih =>
  intro m k hf hk hm hA
  have eA : A sv = sSvS (A1 sv) k := by rw [hA, g_rw_at]
  refine g_iload_n dX13_save_11 rfl rfl ?_
  refine g_sipush dX13_save_12 (by decide) ?_
  refine g_icmp_ge (tgt := 40) dX13_save_15 (by decide) (by omega) (by omega) (fun c_15 => ?_) (fun c_15 => ?_)
  · refine g_aload_n dX13_save_40 rfl rfl ?_
    refine g_dup dX13_save_41 rfl ?_
    refine g_get_Model_savedMany dX13_save_42 mw_1159 (by assumption) ?_
    refine g_iconst dX13_save_45 ?_
    refine g_isub dX13_save_46 ?_
    refine g_put_Model_savedMany dX13_save_47 mw_1159 (by assumption) (fun I47 hI47 => ?_)
    refine g_iconst dX13_save_50 ?_
    refine g_istore_n dX13_save_51 rfl (by decide) ?_
    obtain rfl : k = 8090 := by omega
    have e5 : I47 204 x = 5 := by rw [hI47, g_up_eq, h6]; rfl
    refine g_locs (by exact ⟨rfl, rfl, trivial⟩) (lp_M_save2 (A1 := A) hM (by omega) ?_ _ 1618 0 (Nat.lt_succ_self _) (by omega) (by omega) (by rw [sSvC_0, g_rw_self]))
    rw [e5, eA, hI47, g_up_up, hA, g_rw_rw, g_rw_ne _ _ hws]; exact hpo
  · refine g_aload_n dX13_save_18 rfl rfl ?_
    refine g_get_Model_saved dX13_save_19 mw_1156 (by assumption) (by assumption) ?_
    refine g_iload_n dX13_save_22 rfl rfl ?_
    refine g_aload_n dX13_save_23 rfl rfl ?_
    refine g_get_Model_saved dX13_save_24 mw_1156 (by assumption) (by assumption) ?_
    refine g_iload_n dX13_save_27 rfl rfl ?_
    refine g_sipush dX13_save_28 (by decide) ?_
    refine g_iadd dX13_save_31 ?_
    refine g_laload dX13_save_32 (by assumption) (by omega) (by omega) ?_
    refine g_lastore dX13_save_33 (by assumption) (by omega) (by omega) (fun A33 hA33 => ?_)
    have eA33 := congrFun (hA33.trans (g_uq_rw _ _ _ _)) sv
    rw [g_rw_at] at eA33
    refine g_iinc dX13_save_34 rfl (by decide) ?_
    refine g_goto (tgt := 11) dX13_save_37 (by decide) ?_
    refine g_locs (by exact ⟨rfl, rfl, trivial⟩) (ih (m - 1) (k + 1) (by omega) (by omega) (by omega) ?_)
    rw [hA33, g_uq_rw, eA, hA, g_rw_rw, sSvS_succ (by omega)]
set_option maxHeartbeats 4000000 in
set_option maxRecDepth 100000 in
theorem k_M_save (Y : gEnv) {K N : Nat → Nat} {I : Nat → Nat → Int} {A : Nat → Int → Int} {R : Nat → Nat → Option Nat} {Q : Nat → Int → Option Nat} {x w sv tx ag : Nat} (hM : mS K N R x w sv tx ag) (hs : 0 ≤ I 204 x ∧ I 204 x ≤ 6) : gC Y yX13_save cX13_save 2 none ({ frames := 0, cells := 0, slots := 0, locals := 0 } : Room) [.ref x] K N I A R Q (g_wr K N R Q (fun v I' A' => v = none ∧ I' = g_up I 204 x ((if I 204 x = 6 then 5 else I 204 x) + 1) ∧ A' = g_rw A sv (sSvd (A sv) (A w) (I 204 x)))) gno := by
  refine gC_of (by decide) (Nat.le_of_ble_eq_true rfl) (fun X => ?_)
  obtain ⟨hKx, hRw, hRs, hRt, hRa, hKw, hNw, hKs, hNs, hKt, hNt, hKa, hNa, hta⟩ := id hM
  refine g_aload_n dX13_save_0 rfl rfl ?_
  refine g_get_Model_savedMany dX13_save_1 mw_1159 (by assumption) ?_
  refine g_bipush dX13_save_4 (by decide) ?_
  refine g_icmp_ne (tgt := 50) dX13_save_6 (by decide) (by omega) (by omega) (fun c_6 => ?_) (fun c_6 => ?_)
  · refine g_iconst dX13_save_50 ?_
    refine g_istore_n dX13_save_51 rfl (by decide) ?_
    exact g_locs (by exact ⟨rfl, rfl, trivial⟩) (lp_M_save2 (A1 := A) hM (by omega) (by exact ⟨rfl, rfl, rfl, rfl, rfl, by rw [if_neg c_6], by rw [sSvd, if_neg c_6]⟩) _ 1618 0 (Nat.lt_succ_self _) (by omega) (by omega) (by rw [sSvC_0, g_rw_self]))
  · refine g_iconst dX13_save_9 ?_
    refine g_istore_n dX13_save_10 rfl (by decide) ?_
    exact g_locs (by exact ⟨rfl, rfl, trivial⟩) (lp_M_save1 (A1 := A) hM c_6 (by exact ⟨rfl, rfl, rfl, rfl, rfl, by rw [if_pos c_6]; rfl, by rw [sSvd, if_pos c_6]⟩) _ 8090 0 (Nat.lt_succ_self _) (by omega) (by omega) (by rw [sSvS_0, g_rw_self]))
