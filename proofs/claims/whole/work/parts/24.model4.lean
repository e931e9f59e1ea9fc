theorem sU_comm {w : Int → Int} {i j a b : Int} (h : i ≠ j) : sU (sU w i a) j b = sU (sU w j b) i a := by
  funext z
  simp only [sU]
  by_cases h1 : z = i
  · rw [if_neg (by omega), if_pos h1, if_pos h1]
  · rw [if_neg h1, if_neg h1]
theorem sU_sU {w : Int → Int} {i a b : Int} : sU (sU w i a) i b = sU w i b := by
  funext z
  simp only [sU]
  by_cases h1 : z = i
  · rw [if_pos h1, if_pos h1]
  · rw [if_neg h1, if_neg h1, if_neg h1]
theorem sU_id (w : Int → Int) (i : Int) : sU w i (w i) = w := by
  funext z
  simp only [sU]
  split
  · subst_vars; rfl
  · rfl
set_option maxHeartbeats 4000000 in
set_option maxRecDepth 100000 in
theorem lp_M_doFire {Y : gEnv} {X : gCtx} {K N : Nat → Nat} {I : Nat → Nat → Int} {A : Nat → Int → Int} {R : Nat → Nat → Option Nat} {Q : Nat → Int → Option Nat} {A0 : Nat → Int → Int} {x w sv tx ag : Nat} (hM : mS K N R x w sv tx ag) (h0 : iN (A0 w)) (k g pk t : Int) (hk : 0 ≤ k ∧ k ≤ 2) (hg : 0 ≤ g ∧ g ≤ 3) (hpk : 800 ≤ pk ∧ pk ≤ 1200) (ht : 1 ≤ t ∧ t ≤ 100) (hfi : A0 w 1610 < 2000) : ∀ (f m : Nat) (p s : Int) (W : Int → Int), m < f → mT W → fI (A0 w) k t p W → 0 ≤ p → p + m = 8 → (0 ≤ s ∧ s ≤ t * p) → A = g_rw A0 w W → gJ Y X yX13_doFire cX13_doFire 13 (some .int) ({ frames := 2, cells := 0, slots := 0, locals := 51 } : Room) (g_wr K N R Q (fun v I' A' => v = some (vi (s + sFireV (A0 w) k t m p)) ∧ I' = I ∧ A' = g_rw A0 w (sFireZ (sFireL k g pk t m p W) t (s + sFireV (A0 w) k t m p)))) gno 0 0 6 [(0, .ref x), (1, vi k), (2, vi g), (3, vi pk), (4, vi t), (5, vl s), (7, vi p)] [] K N I A R Q := by
  obtain ⟨hKx, hRw, hRs, hRt, hRa, hKw, hNw, hKs, hNs, hKt, hNt, hKa, hNa, hta⟩ := id hM
  intro f
  induction f generalizing A with
  | zero => intro m p s W h; omega
  | succ f ih =>
  intro m p s W hf hm hI hp hpm hs hA
  have eA : A w = W := by rw [hA, g_rw_at]
  have hB : mB (A w) := by rw [eA]; exact hm.mB
  refine g_iload dX13_doFire_6 rfl ?_
  refine g_bipush dX13_doFire_8 (by decide) ?_
  refine g_icmp_ge (tgt := 117) dX13_doFire_10 (by decide) (by first | omega | exact m64 (hB _)) (by first | omega | exact m64 (hB _)) (fun c_10 => ?_) (fun c_10 => ?_)
  · obtain rfl : p = 8 := by omega
    obtain rfl : m = 0 := by omega
    have hbd := hI.bd h0 ht hk ⟨by omega, by omega⟩
    have hsm : 0 ≤ s ∧ s ≤ 800 := by have : t * 8 ≤ 800 := by omega
                                     omega
    have hZ := mT.fireZ (s := s) h0 hI hm ht hsm
    refine g_aload_n dX13_doFire_117 rfl rfl ?_
    refine g_get_Model_w dX13_doFire_118 mw_1155 (by assumption) (by assumption) ?_
    refine g_sipush dX13_doFire_121 (by decide) ?_
    refine g_dup2 dX13_doFire_124 rfl rfl ?_
    refine g_laload dX13_doFire_125 (by assumption) (by omega) (by omega) ?_
    refine g_lconst (c := 1) dX13_doFire_126 (by decide) ?_
    refine g_ladd dX13_doFire_127 ?_
    refine g_lastore dX13_doFire_128 (by assumption) (by omega) (by omega) (fun A128 hA128 => ?_)
    have eA128 := congrFun (hA128.trans (g_uq_rw _ _ _ _)) w
    rw [g_rw_at] at eA128
    refine g_aload_n dX13_doFire_129 rfl rfl ?_
    refine g_get_Model_w dX13_doFire_130 mw_1155 (by assumption) (by assumption) ?_
    refine g_sipush dX13_doFire_133 (by decide) ?_
    refine g_dup2 dX13_doFire_136 rfl rfl ?_
    refine g_laload dX13_doFire_137 (by assumption) (by omega) (by omega) ?_
    refine g_ldc2 (c := 8) dX13_doFire_138 mw_1151 (by decide) ?_
    refine g_iload dX13_doFire_141 rfl ?_
    refine g_i2l dX13_doFire_143 (by first | omega | exact m64 (hB _)) ?_
    refine g_lmul dX13_doFire_144 ?_
    refine g_ladd dX13_doFire_145 ?_
    refine g_lastore dX13_doFire_146 (by assumption) (by omega) (by omega) (fun A146 hA146 => ?_)
    have eA146 := congrFun (hA146.trans (g_uq_rw _ _ _ _)) w
    rw [g_rw_at] at eA146
    refine g_aload_n dX13_doFire_147 rfl rfl ?_
    refine g_get_Model_w dX13_doFire_148 mw_1155 (by assumption) (by assumption) ?_
    refine g_sipush dX13_doFire_151 (by decide) ?_
    refine g_dup2 dX13_doFire_154 rfl rfl ?_
    refine g_laload dX13_doFire_155 (by assumption) (by omega) (by omega) ?_
    refine g_lload dX13_doFire_156 rfl ?_
    refine g_ladd dX13_doFire_158 ?_
    refine g_lastore dX13_doFire_159 (by assumption) (by omega) (by omega) (fun A159 hA159 => ?_)
    have eA159 := congrFun (hA159.trans (g_uq_rw _ _ _ _)) w
    rw [g_rw_at] at eA159
    refine g_aload_n dX13_doFire_160 rfl rfl ?_
    refine g_iconst dX13_doFire_161 ?_
    have e159 : A159 w = sU (sU (sU W 1610 (W 1610 + 1)) 1611 ((sU W 1610 (W 1610 + 1)) 1611 + 8 * t)) 1612 ((sU (sU W 1610 (W 1610 + 1)) 1611 ((sU W 1610 (W 1610 + 1)) 1611 + 8 * t)) 1612 + s) := by rw [eA159, eA146, eA128, eA]
    have hE : 0 ≤ A159 w 1616 ∧ A159 w 1616 ≤ 20 := by rw [e159, sU_ne _ _ (by omega), sU_ne _ _ (by omega), sU_ne _ _ (by omega), hI.2.1 1616 (by omega) (by omega)]; exact h0.2.2.2.2.2.2.2
    refine g_lload dX13_doFire_162 rfl ?_
    refine g_callVw (i := 10) rfl (gK0 (by assumption)) (g_at10 (by assumption)) (k_M_happens Y hM (by rw [e159]; exact hZ.mB) 1 (by omega) _ hE) u_X13_happens mw_1275 dX13_doFire_164 rfl rfl ⟨Nat.le_of_ble_eq_true rfl, Nat.le_of_ble_eq_true rfl⟩ ⟨Nat.le_of_ble_eq_true rfl, Nat.le_of_ble_eq_true rfl⟩ (Nat.le_of_ble_eq_true rfl) (fun v164 I164 A164 h164 => ?_)
    obtain ⟨rfl, rfl, h164⟩ := h164
    refine g_lload dX13_doFire_167 rfl ?_
    refine g_l2i dX13_doFire_169 ?_
    exact g_iret dX13_doFire_170 rfl (by decide) (by decide) ⟨rfl, rfl, rfl, rfl, by rw [sFireV, sSum_stop rfl, Int.add_zero], rfl, by
      rw [h164, e159, hA159, hA146, hA128, sFireL_stop rfl, sFireV, sSum_stop rfl, Int.add_zero]; simp only [g_uq_rw, g_rw_rw, g_rw_at]; rw [hA, g_rw_rw]; rfl⟩
  · have hp8 : p < 8 := by omega
    have hbd := hI.bd h0 ht hk ⟨hp, by omega⟩
    obtain ⟨hG, hO, hv0, hv1, hb, hq⟩ := hbd
    have hr := sBr_range hO (i := 8 * k + p) ht (by omega)
    have hst := hI.step (pk := pk) h0 ht hk ⟨hp, hp8⟩ hg
    have hmt := mT.fire1 (pk := pk) hm h0 hI ht hk ⟨hp, hp8⟩ hg
    have hgg := hG g hg.1 (by omega)
    have hoo := hO (8 * k + p) (by omega) (by omega)
    have hAi : iPi (sFireA W k t p) := hI.1.of (fun j a b => sFireA_ne (by omega)) (sFireA_ne (by omega))
    have hbr : sBr (A0 w) t (8 * k + p) = sBr W t (8 * k + p) := by simp only [sBr]; rw [hI.2.1 (40 + (8 * k + p)) (by omega) (by omega)]
    refine g_bipush dX13_doFire_13 (by decide) ?_
    refine g_iload_n dX13_doFire_15 rfl rfl ?_
    refine g_imul dX13_doFire_16 ?_
    refine g_iload dX13_doFire_17 rfl ?_
    refine g_iadd dX13_doFire_19 ?_
    refine g_istore dX13_doFire_20 (by decide) ?_
    refine g_iload dX13_doFire_22 rfl ?_
    refine g_i2l dX13_doFire_24 (by first | omega | exact m64 (hB _)) ?_
    refine g_aload_n dX13_doFire_25 rfl rfl ?_
    refine g_get_Model_w dX13_doFire_26 mw_1155 (by assumption) (by assumption) ?_
    refine g_bipush dX13_doFire_29 (by decide) ?_
    refine g_iload dX13_doFire_31 rfl ?_
    refine g_iadd dX13_doFire_33 ?_
    refine g_laload dX13_doFire_34 (by assumption) (by omega) (by omega) ?_
    refine g_lmul dX13_doFire_35 ?_
    refine g_ldc2 (c := 100) dX13_doFire_36 mw_1153 (by decide) ?_
    refine g_ldiv dX13_doFire_39 (by rw [eA]; omega) (by omega) (by omega) ?_
    rw [eA, show (t * W (40 + (8 * k + p))).tdiv 100 = sBr W t (8 * k + p) from rfl]
    refine g_lstore dX13_doFire_40 (by decide) ?_
    refine g_iload dX13_doFire_42 rfl ?_
    refine g_i2l dX13_doFire_44 (by first | omega | exact m64 (hB _)) ?_
    refine g_lload dX13_doFire_45 rfl ?_
    refine g_lsub dX13_doFire_47 ?_
    refine g_lstore dX13_doFire_48 (by decide) ?_
    refine g_aload_n dX13_doFire_50 rfl rfl ?_
    refine g_get_Model_w dX13_doFire_51 mw_1155 (by assumption) (by assumption) ?_
    refine g_bipush dX13_doFire_54 (by decide) ?_
    refine g_iload dX13_doFire_56 rfl ?_
    refine g_iadd dX13_doFire_58 ?_
    refine g_dup2 dX13_doFire_59 rfl rfl ?_
    refine g_laload dX13_doFire_60 (by assumption) (by omega) (by omega) ?_
    refine g_lload dX13_doFire_61 rfl ?_
    refine g_ladd dX13_doFire_63 ?_
    refine g_lastore dX13_doFire_64 (by assumption) (by omega) (by omega) (fun A64 hA64 => ?_)
    have eA64 := congrFun (hA64.trans (g_uq_rw _ _ _ _)) w
    rw [g_rw_at] at eA64
    rw [eA] at eA64
    have e64 : A64 w = sFireA W k t p := eA64
    have f1 : 0 ≤ A64 w g ∧ A64 w g ≤ 19 := by rw [e64, sFireA_ne (by omega)]; omega
    have f2 : 0 ≤ A64 w (4 + g) ∧ A64 w (4 + g) ≤ 20 := by rw [e64, sFireA_ne (by omega)]; omega
    have f3 : -40 ≤ A64 w (16 + 8 * k + p) ∧ A64 w (16 + 8 * k + p) ≤ 40 := by rw [e64, sFireA_ne (by omega), show 16 + 8 * k + p = 16 + (8 * k + p) by omega]; omega
    have f4 : A64 w (8 + g) = W (8 + g) := by rw [e64, sFireA_ne (by omega)]
    have hm1 := Int.mul_nonneg (show 0 ≤ t - sBr W t (8 * k + p) by omega) hgg.2.2.2.2.1
    have hm2 : (t - sBr W t (8 * k + p)) * W (8 + g) ≤ (t - sBr W t (8 * k + p)) * 100 := Int.mul_le_mul_of_nonneg_left hgg.2.2.2.2.2.1 (by omega)
    have hcom : t * (p + 1) = t * p + t := by rw [Int.mul_add, Int.mul_one]
    refine g_lload dX13_doFire_65 rfl ?_
    refine g_lload dX13_doFire_67 rfl ?_
    refine g_ladd dX13_doFire_69 ?_
    refine g_lstore dX13_doFire_70 (by decide) ?_
    refine g_lload dX13_doFire_72 rfl ?_
    refine g_lconst (c := 0) dX13_doFire_74 (by decide) ?_
    refine g_lcmp_le (tgt := 111) dX13_doFire_75 dX13_doFire_76 (by decide) (by omega) (by omega) (fun c_75 => ?_) (fun c_75 => ?_)
    · refine g_iinc dX13_doFire_111 rfl (by decide) ?_
      refine g_goto (tgt := 6) dX13_doFire_114 (by decide) ?_
      first
      | (rw [sFireL_step (by omega), sFireV, sSum_step (by omega), ← Int.add_assoc, hbr]; refine g_locs (by exact ⟨rfl, rfl, rfl, rfl, rfl, rfl, rfl, trivial⟩) (ih (m - 1) (p + 1) (s + sBr W t (8 * k + p)) (sFire1 W k g pk t p) (by omega) hmt.2 hst (by omega) (by omega) ⟨by omega, by omega⟩ ?_); rw [h108, e64, hA64, g_uq_rw, g_rw_rw, hA, g_rw_rw, sFire1, if_pos (by omega)])
      | (rw [sFireL_step (by omega), sFireV, sSum_step (by omega), ← Int.add_assoc, hbr]; refine g_locs (by exact ⟨rfl, rfl, rfl, rfl, rfl, rfl, rfl, trivial⟩) (ih (m - 1) (p + 1) (s + sBr W t (8 * k + p)) (sFire1 W k g pk t p) (by omega) hmt.2 hst (by omega) (by omega) ⟨by omega, by omega⟩ ?_); rw [hA64, g_uq_rw, eA, hA, g_rw_rw, sFire1, if_neg (by omega)]; rfl)
    · refine g_aload_n dX13_doFire_79 rfl rfl ?_
      refine g_iload_n dX13_doFire_80 rfl rfl ?_
      refine g_aload_n dX13_doFire_81 rfl rfl ?_
      refine g_iload_n dX13_doFire_82 rfl rfl ?_
      refine g_iload dX13_doFire_83 rfl ?_
      refine g_iload_n dX13_doFire_85 rfl rfl ?_
      refine g_iload_n dX13_doFire_86 rfl rfl ?_
      refine g_callVp (i := 10) rfl (gK0 (by assumption)) (g_at10 (by assumption)) (k_M_shade Y hM k p g pk hk (by omega) hg hpk f1 f2 f3) u_X13_shade mw_1263 dX13_doFire_87 rfl rfl ⟨Nat.le_of_ble_eq_true rfl, Nat.le_of_ble_eq_true rfl⟩ ⟨Nat.le_of_ble_eq_true rfl, Nat.le_of_ble_eq_true rfl⟩ (Nat.le_of_ble_eq_true rfl) ?_
      refine g_lload dX13_doFire_90 rfl ?_
      refine g_lload dX13_doFire_92 rfl ?_
      refine g_aload_n dX13_doFire_94 rfl rfl ?_
      refine g_get_Model_w dX13_doFire_95 mw_1155 (by assumption) (by assumption) ?_
      refine g_bipush dX13_doFire_98 (by decide) ?_
      refine g_iload_n dX13_doFire_100 rfl rfl ?_
      refine g_iadd dX13_doFire_101 ?_
      refine g_laload dX13_doFire_102 (by assumption) (by omega) (by omega) ?_
      refine g_lmul dX13_doFire_103 ?_
      refine g_ldc2 (c := 100) dX13_doFire_104 mw_1153 (by decide) ?_
      refine g_ldiv dX13_doFire_107 (by rw [f4]; omega) (by omega) (by omega) ?_
      have hd : 0 ≤ ((t - sBr W t (8 * k + p)) * A64 w (8 + g)).tdiv 100 ∧ ((t - sBr W t (8 * k + p)) * A64 w (8 + g)).tdiv 100 ≤ t - sBr W t (8 * k + p) := by rw [f4, td_pos hm1]; omega
      refine g_callVw (i := 10) rfl (gK0 (by assumption)) (g_at10 (by assumption)) (k_M_lay Y hM (by rw [e64]; exact hmt.1.mB) g (sShade (A64 w) k p g pk) _ _ (by omega) (by have := sShade_range (A64 w) k p g pk; omega) (by rw [e64, sFireA_ne (by omega)]; exact ⟨hI.1.1, hI.1.2.1⟩) (by rw [e64]; exact sLay_new hAi hg (sShade_range _ _ _ _ _))) u_X13_lay mw_1271 dX13_doFire_108 rfl rfl ⟨Nat.le_of_ble_eq_true rfl, Nat.le_of_ble_eq_true rfl⟩ ⟨Nat.le_of_ble_eq_true rfl, Nat.le_of_ble_eq_true rfl⟩ (Nat.le_of_ble_eq_true rfl) (fun v108 I108 A108 h108 => ?_)
      obtain ⟨rfl, rfl, h108⟩ := h108
      refine g_iinc dX13_doFire_111 rfl (by decide) ?_
      refine g_goto (tgt := 6) dX13_doFire_114 (by decide) ?_
      first
      | (rw [sFireL_step (by omega), sFireV, sSum_step (by omega), ← Int.add_assoc, hbr]; refine g_locs (by exact ⟨rfl, rfl, rfl, rfl, rfl, rfl, rfl, trivial⟩) (ih (m - 1) (p + 1) (s + sBr W t (8 * k + p)) (sFire1 W k g pk t p) (by omega) hmt.2 hst (by omega) (by omega) ⟨by omega, by omega⟩ ?_); rw [h108, e64, hA64, g_uq_rw, g_rw_rw, hA, g_rw_rw, sFire1, if_pos (by omega)])
      | (rw [sFireL_step (by omega), sFireV, sSum_step (by omega), ← Int.add_assoc, hbr]; refine g_locs (by exact ⟨rfl, rfl, rfl, rfl, rfl, rfl, rfl, trivial⟩) (ih (m - 1) (p + 1) (s + sBr W t (8 * k + p)) (sFire1 W k g pk t p) (by omega) hmt.2 hst (by omega) (by omega) ⟨by omega, by omega⟩ ?_); rw [hA64, g_uq_rw, eA, hA, g_rw_rw, sFire1, if_neg (by omega)]; rfl)
set_option maxHeartbeats 4000000 in
set_option maxRecDepth 100000 in
theorem k_M_doFire (Y : gEnv) {K N : Nat → Nat} {I : Nat → Nat → Int} {A : Nat → Int → Int} {R : Nat → Nat → Option Nat} {Q : Nat → Int → Option Nat} {x w sv tx ag : Nat} (hM : mS K N R x w sv tx ag) (h0 : iN (A w)) (k g pk t : Int) (hk : 0 ≤ k ∧ k ≤ 2) (hg : 0 ≤ g ∧ g ≤ 3) (hpk : 800 ≤ pk ∧ pk ≤ 1200) (ht : 1 ≤ t ∧ t ≤ 100) (hfi : A w 1610 < 2000) (hm : mT (A w)) : gC Y yX13_doFire cX13_doFire 13 (some .int) ({ frames := 2, cells := 0, slots := 0, locals := 51 } : Room) [.ref x, vi k, vi g, vi pk, vi t] K N I A R Q (g_wr K N R Q (fun v I' A' => v = some (vi (sFireV (A w) k t 8 0)) ∧ I' = I ∧ A' = g_rw A w (sFire (A w) k g pk t))) gno := by
  refine gC_of (by decide) (Nat.le_of_ble_eq_true rfl) (fun X => ?_)
  have hl := lp_M_doFire (Y := Y) (X := X) (I := I) (Q := Q) (A := A) hM h0 k g pk t hk hg hpk ht hfi _ 8 0 0 (A w) (Nat.lt_succ_self _) hm (fI.zero h0.2.2.2.1 k t) (by omega) (by omega) (by omega) (by rw [g_rw_self])
  rw [Int.zero_add] at hl
  refine g_lconst (c := 0) dX13_doFire_0 (by decide) ?_
  refine g_lstore dX13_doFire_1 (by decide) ?_
  refine g_iconst dX13_doFire_3 ?_
  refine g_istore dX13_doFire_4 (by decide) ?_
  exact g_locs (by exact ⟨rfl, rfl, rfl, rfl, rfl, rfl, rfl, trivial⟩) hl
set_option maxHeartbeats 4000000 in
set_option maxRecDepth 100000 in
theorem lp_M_doGrade {Y : gEnv} {X : gCtx} {K N : Nat → Nat} {I : Nat → Nat → Int} {A : Nat → Int → Int} {R : Nat → Nat → Option Nat} {Q : Nat → Int → Option Nat} {A0 : Nat → Int → Int} {x w sv tx ag : Nat} (hM : mS K N R x w sv tx ag) (h0 : iN (A0 w)) (ps : Int) (hps : 1 ≤ ps ∧ ps ≤ 10) : ∀ (f m : Nat) (p s : Int) (W : Int → Int), m < f → mT W → gI (A0 w) p W → 0 ≤ p → p + m = A0 w 1613 → A = g_rw A0 w W → gJ Y X yX13_doGrade cX13_doGrade 9 (some .int) ({ frames := 2, cells := 0, slots := 0, locals := 52 } : Room) (g_wr K N R Q (fun v I' A' => v = some (vi (s + sGrV (A0 w) ps m p)) ∧ I' = I ∧ A' = g_rw A0 w (sHap (sU (sGrL ps m p W) 1613 0) 2 (s + sGrV (A0 w) ps m p)))) gno 0 0 5 [(0, .ref x), (1, vi ps), (2, vl s), (4, vi p)] [] K N I A R Q := by
  obtain ⟨hKx, hRw, hRs, hRt, hRa, hKw, hNw, hKs, hNs, hKt, hNt, hKa, hNa, hta⟩ := id hM
  intro f
  induction f generalizing A with
  | zero => intro m p s W h; omega
  | succ f ih =>
  intro m p s W hf hm hI hp hpm hA
  have eA : A w = W := by rw [hA, g_rw_at]
  have hB : mB (A w) := by rw [eA]; exact hm.mB
  have e13 : A w 1613 = A0 w 1613 := by rw [eA, hI.2.2.1 1613 (by omega) (by omega)]
  have h80 := h0.2.2.2.1.2.1
  refine g_iload dX13_doGrade_5 rfl ?_
  refine g_i2l dX13_doGrade_7 (by first | omega | exact m64 (hB _)) ?_
  refine g_aload_n dX13_doGrade_8 rfl rfl ?_
  refine g_get_Model_w dX13_doGrade_9 mw_1155 (by assumption) (by assumption) ?_
  refine g_sipush dX13_doGrade_12 (by decide) ?_
  refine g_laload dX13_doGrade_15 (by assumption) (by omega) (by omega) ?_
  refine g_lcmp_ge (tgt := 140) dX13_doGrade_16 dX13_doGrade_17 (by decide) (by first | omega | exact m64 (hB _)) (by first | omega | exact m64 (hB _)) (fun c_16 => ?_) (fun c_16 => ?_)
  · obtain rfl : p = A0 w 1613 := by omega
    obtain rfl : m = 0 := by omega
    refine g_aload_n dX13_doGrade_140 rfl rfl ?_
    refine g_get_Model_w dX13_doGrade_141 mw_1155 (by assumption) (by assumption) ?_
    refine g_sipush dX13_doGrade_144 (by decide) ?_
    refine g_lconst (c := 0) dX13_doGrade_147 (by decide) ?_
    refine g_lastore dX13_doGrade_148 (by assumption) (by omega) (by omega) (fun A148 hA148 => ?_)
    have eA148 := congrFun (hA148.trans (g_uq_rw _ _ _ _)) w
    rw [g_rw_at] at eA148
    refine g_aload_n dX13_doGrade_149 rfl rfl ?_
    refine g_iconst dX13_doGrade_150 ?_
    refine g_lload_n dX13_doGrade_151 rfl rfl ?_
    have e148 : A148 w = sU W 1613 0 := by rw [eA148, eA]
    have hE : 0 ≤ A148 w 1616 ∧ A148 w 1616 ≤ 20 := by rw [e148, sU_ne _ _ (by omega), hI.2.2.1 1616 (by omega) (by omega)]; exact h0.2.2.2.2.2.2.2
    refine g_callVw (i := 10) rfl (gK0 (by assumption)) (g_at10 (by assumption)) (k_M_happens Y hM (by rw [e148]; exact (hm.put (by omega)).mB) 2 (by omega) _ hE) u_X13_happens mw_1275 dX13_doGrade_152 rfl rfl ⟨Nat.le_of_ble_eq_true rfl, Nat.le_of_ble_eq_true rfl⟩ ⟨Nat.le_of_ble_eq_true rfl, Nat.le_of_ble_eq_true rfl⟩ (Nat.le_of_ble_eq_true rfl) (fun v152 I152 A152 h152 => ?_)
    obtain ⟨rfl, rfl, h152⟩ := h152
    refine g_lload_n dX13_doGrade_155 rfl rfl ?_
    refine g_l2i dX13_doGrade_156 ?_
    exact g_iret dX13_doGrade_157 rfl (by decide) (by decide) ⟨rfl, rfl, rfl, rfl, by rw [sGrV, sSum_stop rfl, Int.add_zero], rfl, by
      rw [h152, e148, hA148, sGrL_stop rfl, sGrV, sSum_stop rfl, Int.add_zero, g_uq_rw, g_rw_rw, hA, g_rw_rw]⟩
  · have hp3 : p < A0 w 1613 := by omega
    obtain ⟨b1, b2, b3, b4, b5, b6, b7, b8, b9, b10, b11⟩ := hI.lem (ps := ps) h0 ⟨hp, hp3⟩
    obtain ⟨t1, t2, t3, t4, t5, t6⟩ := hI.step (ps := ps) h0 ⟨hp, hp3⟩
    have t2 := t2 hm
    have t4 := t4 hm
    have hgv : A0 w (330 + p) - sStays (A0 w 88) ps.toNat (A0 w (330 + p)) = W (330 + p) - sStays (W 88) ps.toNat (W (330 + p)) := by rw [hI.2.2.1 (330 + p) (by omega) (by omega), hI.2.2.1 88 (by omega) (by omega)]
    refine g_aload_n dX13_doGrade_20 rfl rfl ?_
    refine g_aload_n dX13_doGrade_21 rfl rfl ?_
    refine g_get_Model_w dX13_doGrade_22 mw_1155 (by assumption) (by assumption) ?_
    refine g_sipush dX13_doGrade_25 (by decide) ?_
    refine g_iload dX13_doGrade_28 rfl ?_
    refine g_iadd dX13_doGrade_30 ?_
    refine g_laload dX13_doGrade_31 (by assumption) (by omega) (by omega) ?_
    refine g_iload_n dX13_doGrade_32 rfl rfl ?_
    refine g_callVp (i := 10) rfl (gK0 (by assumption)) (g_at10 (by assumption)) (k_M_stays Y hM hB ps (by omega) (by rw [eA]; exact b6) _ (by rw [eA]; omega)) u_X13_stays mw_1291 dX13_doGrade_33 rfl rfl ⟨Nat.le_of_ble_eq_true rfl, Nat.le_of_ble_eq_true rfl⟩ ⟨Nat.le_of_ble_eq_true rfl, Nat.le_of_ble_eq_true rfl⟩ (Nat.le_of_ble_eq_true rfl) ?_
    rw [eA]
    refine g_lstore dX13_doGrade_36 (by decide) ?_
    refine g_aload_n dX13_doGrade_38 rfl rfl ?_
    refine g_get_Model_w dX13_doGrade_39 mw_1155 (by assumption) (by assumption) ?_
    refine g_sipush dX13_doGrade_42 (by decide) ?_
    refine g_iload dX13_doGrade_45 rfl ?_
    refine g_iadd dX13_doGrade_47 ?_
    refine g_laload dX13_doGrade_48 (by assumption) (by omega) (by omega) ?_
    refine g_lload dX13_doGrade_49 rfl ?_
    refine g_lsub dX13_doGrade_51 ?_
    rw [eA]
    refine g_lstore dX13_doGrade_52 (by decide) ?_
    refine g_aload_n dX13_doGrade_54 rfl rfl ?_
    refine g_aload_n dX13_doGrade_55 rfl rfl ?_
    refine g_get_Model_w dX13_doGrade_56 mw_1155 (by assumption) (by assumption) ?_
    refine g_bipush dX13_doGrade_59 (by decide) ?_
    refine g_iload dX13_doGrade_61 rfl ?_
    refine g_iadd dX13_doGrade_63 ?_
    refine g_laload dX13_doGrade_64 (by assumption) (by omega) (by omega) ?_
    rw [eA]
    refine g_l2i dX13_doGrade_65 ?_
    refine g_aload_n dX13_doGrade_66 rfl rfl ?_
    refine g_get_Model_w dX13_doGrade_67 mw_1155 (by assumption) (by assumption) ?_
    refine g_sipush dX13_doGrade_70 (by decide) ?_
    refine g_iload dX13_doGrade_73 rfl ?_
    refine g_iadd dX13_doGrade_75 ?_
    refine g_laload dX13_doGrade_76 (by assumption) (by omega) (by omega) ?_
    rw [eA]
    refine g_l2i dX13_doGrade_77 ?_
    refine g_iconst dX13_doGrade_78 ?_
    refine g_aload_n dX13_doGrade_79 rfl rfl ?_
    refine g_get_Model_w dX13_doGrade_80 mw_1155 (by assumption) (by assumption) ?_
    refine g_sipush dX13_doGrade_83 (by decide) ?_
    refine g_iload dX13_doGrade_86 rfl ?_
    refine g_iadd dX13_doGrade_88 ?_
    refine g_laload dX13_doGrade_89 (by assumption) (by omega) (by omega) ?_
    refine g_lload dX13_doGrade_90 rfl ?_
    refine g_lsub dX13_doGrade_92 ?_
    refine g_lload dX13_doGrade_93 rfl ?_
    rw [eA]
    refine g_callVw (i := 10) rfl (gK0 (by assumption)) (g_at10 (by assumption)) (k_M_add Y hM hB (by rw [eA]; exact ⟨hI.1.1, hI.1.2.1⟩) _ _ 1 _ _ (by omega) (by omega) (by omega) (by omega) (by rw [eA]; exact sFind_new hI.1 b1 b2 (by omega))) u_X13_add mw_1296 dX13_doGrade_95 rfl rfl ⟨Nat.le_of_ble_eq_true rfl, Nat.le_of_ble_eq_true rfl⟩ ⟨Nat.le_of_ble_eq_true rfl, Nat.le_of_ble_eq_true rfl⟩ (Nat.le_of_ble_eq_true rfl) (fun v95 I95 A95 h95 => ?_)
    obtain ⟨rfl, rfl, h95⟩ := h95
    rw [eA] at h95
    have e95 : A95 w = sAdd W (W (90 + p)) (W (170 + p)) 1 (W (250 + p) - (W (330 + p) - sStays (W 88) ps.toNat (W (330 + p)))) (sStays (W 88) ps.toNat (W (330 + p))) := by rw [h95, g_rw_at]
    have g1 : A95 w (90 + p) = W (90 + p) := by rw [e95, t3 _ (by omega) (by omega)]
    have g2 : A95 w (170 + p) = W (170 + p) := by rw [e95, t3 _ (by omega) (by omega)]
    refine g_aload_n dX13_doGrade_98 rfl rfl ?_
    refine g_aload_n dX13_doGrade_99 rfl rfl ?_
    refine g_get_Model_w dX13_doGrade_100 mw_1155 (by assumption) (by assumption) ?_
    refine g_bipush dX13_doGrade_103 (by decide) ?_
    refine g_iload dX13_doGrade_105 rfl ?_
    refine g_iadd dX13_doGrade_107 ?_
    refine g_laload dX13_doGrade_108 (by assumption) (by omega) (by omega) ?_
    refine g_l2i dX13_doGrade_109 ?_
    refine g_aload_n dX13_doGrade_110 rfl rfl ?_
    refine g_get_Model_w dX13_doGrade_111 mw_1155 (by assumption) (by assumption) ?_
    refine g_sipush dX13_doGrade_114 (by decide) ?_
    refine g_iload dX13_doGrade_117 rfl ?_
    refine g_iadd dX13_doGrade_119 ?_
    refine g_laload dX13_doGrade_120 (by assumption) (by omega) (by omega) ?_
    refine g_l2i dX13_doGrade_121 ?_
    refine g_iconst dX13_doGrade_122 ?_
    refine g_lload dX13_doGrade_123 rfl ?_
    refine g_lconst (c := 0) dX13_doGrade_125 (by decide) ?_
    rw [g1, g2]
    refine g_callVw (i := 10) rfl (gK0 (by assumption)) (g_at10 (by assumption)) (k_M_add Y hM (by rw [e95]; exact t4.mB) (by rw [e95]; exact ⟨t5.1, t5.2.1⟩) _ _ 2 _ _ (by omega) (by omega) (by omega) (by omega) (by rw [e95]; exact sFind_new t5 b1 b2 (by omega))) u_X13_add mw_1296 dX13_doGrade_126 rfl rfl ⟨Nat.le_of_ble_eq_true rfl, Nat.le_of_ble_eq_true rfl⟩ ⟨Nat.le_of_ble_eq_true rfl, Nat.le_of_ble_eq_true rfl⟩ (Nat.le_of_ble_eq_true rfl) (fun v126 I126 A126 h126 => ?_)
    obtain ⟨rfl, rfl, h126⟩ := h126
    refine g_lload_n dX13_doGrade_129 rfl rfl ?_
    refine g_lload dX13_doGrade_130 rfl ?_
    refine g_ladd dX13_doGrade_132 ?_
    refine g_lstore_n dX13_doGrade_133 rfl (by decide) ?_
    refine g_iinc dX13_doGrade_134 rfl (by decide) ?_
    refine g_goto (tgt := 5) dX13_doGrade_137 (by decide) ?_
    rw [sGrL_step (by omega), sGrV, sSum_step (by omega), ← Int.add_assoc, hgv]
    refine g_locs (by exact ⟨rfl, rfl, rfl, rfl, trivial⟩) (ih (m - 1) (p + 1) _ (sGr1 ps W p) (by omega) t2 t1 (by omega) (by omega) ?_)
    rw [h126, e95, h95, g_rw_rw, hA, g_rw_rw, sGr1]
set_option maxHeartbeats 4000000 in
set_option maxRecDepth 100000 in
theorem k_M_doGrade (Y : gEnv) {K N : Nat → Nat} {I : Nat → Nat → Int} {A : Nat → Int → Int} {R : Nat → Nat → Option Nat} {Q : Nat → Int → Option Nat} {x w sv tx ag : Nat} (hM : mS K N R x w sv tx ag) (h0 : iN (A w)) (ps : Int) (hps : 1 ≤ ps ∧ ps ≤ 10) (hm : mT (A w)) (hz : iZ (A w)) : gC Y yX13_doGrade cX13_doGrade 9 (some .int) ({ frames := 2, cells := 0, slots := 0, locals := 52 } : Room) [.ref x, vi ps] K N I A R Q (g_wr K N R Q (fun v I' A' => v = some (vi (sGrV (A w) ps (A w 1613).toNat 0)) ∧ I' = I ∧ A' = g_rw A w (sGrade (A w) ps))) gno := by
  refine gC_of (by decide) (Nat.le_of_ble_eq_true rfl) (fun X => ?_)
  have h13 := h0.2.2.2.1.1
  have hl := lp_M_doGrade (Y := Y) (X := X) (I := I) (Q := Q) (A := A) hM h0 ps hps _ (A w 1613).toNat 0 0 (A w) (Nat.lt_succ_self _) hm (gI.zero h0.2.2.2.2.1 hz) (by omega) (by omega) (by rw [g_rw_self])
  rw [Int.zero_add] at hl
  refine g_lconst (c := 0) dX13_doGrade_0 (by decide) ?_
  refine g_lstore_n dX13_doGrade_1 rfl (by decide) ?_
  refine g_iconst dX13_doGrade_2 ?_
  refine g_istore dX13_doGrade_3 (by decide) ?_
  exact g_locs (by exact ⟨rfl, rfl, rfl, rfl, trivial⟩) hl
set_option maxHeartbeats 4000000 in
set_option maxRecDepth 100000 in
theorem k_M_doDrop (Y : gEnv) {K N : Nat → Nat} {I : Nat → Nat → Int} {A : Nat → Int → Int} {R : Nat → Nat → Option Nat} {Q : Nat → Int → Option Nat} {x w sv tx ag : Nat} (hM : mS K N R x w sv tx ag) (h0 : iN (A w)) (hm : mT (A w)) (a b c d : Int) (ha : (-2147483648 ≤ a ∧ a ≤ 2147483647)) (hb : (-2147483648 ≤ b ∧ b ≤ 2147483647)) (hc : (-2147483648 ≤ c ∧ c ≤ 2147483647)) (hd : 0 ≤ d ∧ d ≤ A w 89) (hl : 0 ≤ sFind (A w) a b c ∧ sFind (A w) a b c < A w 1614) (hx : A w (1050 + sFind (A w) a b c) ≠ 0) : gC Y yX13_doDrop cX13_doDrop 6 (some .int) ({ frames := 2, cells := 0, slots := 0, locals := 46 } : Room) [.ref x, vi a, vi b, vi c, vi d] K N I A R Q (g_wr K N R Q (fun v I' A' => v = some (vi (A w (1050 + sFind (A w) a b c) - 1)) ∧ I' = I ∧ A' = g_rw A w (sDrop (A w) a b c d))) gno := by
  refine gC_of (by decide) (Nat.le_of_ble_eq_true rfl) (fun X => ?_)
  obtain ⟨hKx, hRw, hRs, hRt, hRa, hKw, hNw, hKs, hNs, hKt, hNt, hKa, hNa, hta⟩ := id hM
  refine g_aload_n dX13_doDrop_0 rfl rfl ?_
  refine g_iload_n dX13_doDrop_1 rfl rfl ?_
  refine g_iload_n dX13_doDrop_2 rfl rfl ?_
  refine g_iload_n dX13_doDrop_3 rfl rfl ?_
  refine g_callVp (i := 10) rfl (gK0 (by assumption)) (g_at10 (by assumption)) (k_M_find Y hM hm.mB a b c (by omega) (by omega) (by omega) ⟨h0.2.2.2.2.1.1, h0.2.2.2.2.1.2.1⟩) u_X13_find mw_1300 dX13_doDrop_4 rfl rfl ⟨Nat.le_of_ble_eq_true rfl, Nat.le_of_ble_eq_true rfl⟩ ⟨Nat.le_of_ble_eq_true rfl, Nat.le_of_ble_eq_true rfl⟩ (Nat.le_of_ble_eq_true rfl) ?_
  generalize hll : sFind (A w) a b c = l at hl hx ⊢
  refine g_istore dX13_doDrop_7 (by decide) ?_
  refine g_aload_n dX13_doDrop_9 rfl rfl ?_
  have hn := h0.2.2.2.2.1
  have hlot := h0.lot hl.1 hl.2
  have hpre := sDrop_pre h0 hl hd hx
  have hmw := hpre.2.1 hm
  have hsu := h0.sums
  obtain ⟨s1, s2, s3, s4, s5, s6, s7, s8, s9, s10⟩ := h0.2.2.2.2.2.2.1
  have hpp : (A w (1050 + l) - 1) * A w 89 = A w (1050 + l) * A w 89 - A w 89 := by rw [Int.sub_mul, Int.one_mul]
  have hn2 := hn.2.1
  refine g_get_Model_w dX13_doDrop_10 mw_1155 (by assumption) (by assumption) ?_
  refine g_sipush dX13_doDrop_13 (by decide) ?_
  refine g_iload dX13_doDrop_16 rfl ?_
  refine g_iadd dX13_doDrop_18 ?_
  refine g_dup2 dX13_doDrop_19 rfl rfl ?_
  refine g_laload dX13_doDrop_20 (by assumption) (by omega) (by omega) ?_
  refine g_lconst (c := 1) dX13_doDrop_21 (by decide) ?_
  refine g_lsub dX13_doDrop_22 ?_
  refine g_lastore dX13_doDrop_23 (by assumption) (by omega) (by omega) (fun A23 hA23 => ?_)
  have eA23 := congrFun (hA23.trans (g_uq_rw _ _ _ _)) w
  rw [g_rw_at] at eA23
  refine g_aload_n dX13_doDrop_24 rfl rfl ?_
  refine g_get_Model_w dX13_doDrop_25 mw_1155 (by assumption) (by assumption) ?_
  refine g_sipush dX13_doDrop_28 (by decide) ?_
  refine g_iload dX13_doDrop_31 rfl ?_
  refine g_iadd dX13_doDrop_33 ?_
  refine g_dup2 dX13_doDrop_34 rfl rfl ?_
  refine g_laload dX13_doDrop_35 (by assumption) (by omega) (by omega) ?_
  refine g_aload_n dX13_doDrop_36 rfl rfl ?_
  refine g_get_Model_w dX13_doDrop_37 mw_1155 (by assumption) (by assumption) ?_
  refine g_bipush dX13_doDrop_40 (by decide) ?_
  refine g_laload dX13_doDrop_42 (by assumption) (by omega) (by omega) ?_
  refine g_iload dX13_doDrop_43 rfl ?_
  refine g_i2l dX13_doDrop_45 (by omega) ?_
  refine g_lsub dX13_doDrop_46 ?_
  refine g_ladd dX13_doDrop_47 ?_
  refine g_lastore dX13_doDrop_48 (by assumption) (by omega) (by omega) (fun A48 hA48 => ?_)
  have eA48 := congrFun (hA48.trans (g_uq_rw _ _ _ _)) w
  rw [g_rw_at] at eA48
  rw [eA23] at eA48
  rw [sU_ne _ _ (show (890 + l : Int) ≠ 1050 + l by omega), sU_ne _ _ (show (89 : Int) ≠ 1050 + l by omega)] at eA48
  have c48 : sContent (A48 w) l = A w (890 + l) + (A w 89 - d) + (A w (1050 + l) - 1) * A w 89 := by simp only [sContent]; rw [eA48, sU_eq, sU_ne _ _ (by omega), sU_eq, sU_ne _ _ (by omega), sU_ne _ _ (by omega)]
  have d48 : A48 w (1210 + l) = A w (1210 + l) := by rw [eA48, sU_ne _ _ (by omega), sU_ne _ _ (by omega)]
  refine g_aload_n dX13_doDrop_49 rfl rfl ?_
  refine g_iload dX13_doDrop_50 rfl ?_
  refine g_callVw (i := 10) rfl (gK0 (by assumption)) (g_at10 (by assumption)) (k_M_limit Y hM l (by omega) (by rw [c48]; omega) (by rw [d48]; omega)) u_X13_limit mw_1343 dX13_doDrop_52 rfl rfl ⟨Nat.le_of_ble_eq_true rfl, Nat.le_of_ble_eq_true rfl⟩ ⟨Nat.le_of_ble_eq_true rfl, Nat.le_of_ble_eq_true rfl⟩ (Nat.le_of_ble_eq_true rfl) (fun v52 I52 A52 h52 => ?_)
  obtain ⟨rfl, rfl, h52⟩ := h52
  have e52 : A52 w = sDropW (A w) l d := by
    rw [h52, g_rw_at, sLim, c48, d48, eA48]
    rw [sU_comm (w := A w) (show (1050 + l : Int) ≠ 890 + l by omega)]
    rfl
  refine g_aload_n dX13_doDrop_55 rfl rfl ?_
  refine g_iload dX13_doDrop_56 rfl ?_
  refine g_i2l dX13_doDrop_58 (by omega) ?_
  refine g_callVw (i := 10) rfl (gK0 (by assumption)) (g_at10 (by assumption)) (k_M_breaks Y hM d (by rw [e52]; exact ((hmw.1).put (by have := (hmw.1) 1612; have h12 : sDropW (A w) l d 1612 = A w 1612 := (sLot3_at ⟨hl.1, by omega⟩).2 1612 (by omega); omega)).mB) (by omega) (by rw [e52]; exact hpre.2.2.2.1)) u_X13_breaks mw_1359 dX13_doDrop_59 rfl rfl ⟨Nat.le_of_ble_eq_true rfl, Nat.le_of_ble_eq_true rfl⟩ ⟨Nat.le_of_ble_eq_true rfl, Nat.le_of_ble_eq_true rfl⟩ (Nat.le_of_ble_eq_true rfl) (fun v59 I59 A59 h59 => ?_)
  obtain ⟨rfl, rfl, h59⟩ := h59
  have e59 : A59 w (1050 + l) = A w (1050 + l) - 1 := by rw [h59, g_rw_at, e52]; exact hpre.2.2.2.2.2
  refine g_aload_n dX13_doDrop_62 rfl rfl ?_
  refine g_get_Model_w dX13_doDrop_63 mw_1155 (by assumption) (by assumption) ?_
  refine g_sipush dX13_doDrop_66 (by decide) ?_
  refine g_iload dX13_doDrop_69 rfl ?_
  refine g_iadd dX13_doDrop_71 ?_
  refine g_laload dX13_doDrop_72 (by assumption) (by omega) (by omega) ?_
  refine g_l2i dX13_doDrop_73 ?_
  exact g_iret dX13_doDrop_74 rfl (by decide) (by decide) ⟨rfl, rfl, rfl, rfl, by rw [e59], rfl, by
      rw [h59, e52, h52, hA48, hA23, sDrop, hll]; simp only [g_uq_rw, g_rw_rw]⟩
set_option maxHeartbeats 4000000 in
set_option maxRecDepth 100000 in
theorem k_M_doDeliver (Y : gEnv) {K N : Nat → Nat} {I : Nat → Nat → Int} {A : Nat → Int → Int} {R : Nat → Nat → Option Nat} {Q : Nat → Int → Option Nat} {x w sv tx ag : Nat} (hM : mS K N R x w sv tx ag) (h0 : iN (A w)) (hm : mT (A w)) (a b c : Int) (ha : (-2147483648 ≤ a ∧ a ≤ 2147483647)) (hb : (-2147483648 ≤ b ∧ b ≤ 2147483647)) (hc : 1 ≤ c ∧ c ≤ 100000) (hd : A w 1615 < 40) (hl : 0 ≤ sLotFor (A w) a b c ∧ sLotFor (A w) a b c < A w 1614 ∧ sMay (A w) a b c (sLotFor (A w) a b c) = true) : gC Y yX13_doDeliver cX13_doDeliver 10 (some .int) ({ frames := 2, cells := 0, slots := 0, locals := 42 } : Room) [.ref x, vi a, vi b, vi c] K N I A R Q (g_wr K N R Q (fun v I' A' => v = some (vi (A w 1615)) ∧ I' = I ∧ A' = g_rw A w (sDel (A w) a b c))) gno := by
  refine gC_of (by decide) (Nat.le_of_ble_eq_true rfl) (fun X => ?_)
  obtain ⟨hKx, hRw, hRs, hRt, hRa, hKw, hNw, hKs, hNs, hKt, hNt, hKa, hNa, hta⟩ := id hM
  refine g_aload_n dX13_doDeliver_0 rfl rfl ?_
  refine g_iload_n dX13_doDeliver_1 rfl rfl ?_
  refine g_iload_n dX13_doDeliver_2 rfl rfl ?_
  refine g_iload_n dX13_doDeliver_3 rfl rfl ?_
  refine g_callVp (i := 10) rfl (gK0 (by assumption)) (g_at10 (by assumption)) (k_M_lotFor Y hM hm.mB a b c (by omega) (by omega) (by omega) ⟨h0.2.2.2.2.1.1, h0.2.2.2.2.1.2.1⟩) u_X13_lotFor mw_1327 dX13_doDeliver_4 rfl rfl ⟨Nat.le_of_ble_eq_true rfl, Nat.le_of_ble_eq_true rfl⟩ ⟨Nat.le_of_ble_eq_true rfl, Nat.le_of_ble_eq_true rfl⟩ (Nat.le_of_ble_eq_true rfl) ?_
  generalize hll : sLotFor (A w) a b c = l at hl ⊢
  refine g_istore dX13_doDeliver_7 (by decide) ?_
  refine g_aload_n dX13_doDeliver_9 rfl rfl ?_
  have hn := h0.2.2.2.2.1
  have hlot := h0.lot hl.1 hl.2.1
  have hn2 := hn.2.1
  have hmay : A w (410 + l) = a ∧ A w (730 + l) = b ∧ c ≤ A w (1050 + l) := by have := hl.2.2; simpa [sMay] using this
  have hlg := hn.2.2.1 l hl.1 hl.2.1
  obtain ⟨b1, b2, b3, b4, b5, b6, b7, b8, b9⟩ := sBad_range h0 ⟨hl.1, hl.2.1⟩ ⟨hc.1, hmay.2.2⟩
  obtain ⟨q1, q2, q3⟩ := sDel_pre h0 ⟨hl.1, hl.2.1⟩ ⟨hc.1, hmay.2.2⟩ hc.2 hd
  have q2 := q2 hm
  have hD := h0.2.2.2.2.2.1.1
  have hwo := sWorth_range h0 ⟨hl.1, hl.2.1⟩
  have hpp : (A w (1050 + l) - c) * A w 89 = A w (1050 + l) * A w 89 - c * A w 89 := by rw [Int.sub_mul]
  refine g_get_Model_w dX13_doDeliver_10 mw_1155 (by assumption) (by assumption) ?_
  refine g_sipush dX13_doDeliver_13 (by decide) ?_
  refine g_laload dX13_doDeliver_16 (by assumption) (by omega) (by omega) ?_
  refine g_l2i dX13_doDeliver_17 ?_
  refine g_istore dX13_doDeliver_18 (by decide) ?_
  refine g_iload_n dX13_doDeliver_20 rfl rfl ?_
  refine g_i2l dX13_doDeliver_21 (by omega) ?_
  refine g_aload_n dX13_doDeliver_22 rfl rfl ?_
  refine g_get_Model_w dX13_doDeliver_23 mw_1155 (by assumption) (by assumption) ?_
  refine g_bipush dX13_doDeliver_26 (by decide) ?_
  refine g_laload dX13_doDeliver_28 (by assumption) (by omega) (by omega) ?_
  refine g_lmul dX13_doDeliver_29 ?_
  refine g_lstore dX13_doDeliver_30 (by decide) ?_
  refine g_aload_n dX13_doDeliver_32 rfl rfl ?_
  refine g_get_Model_w dX13_doDeliver_33 mw_1155 (by assumption) (by assumption) ?_
  refine g_sipush dX13_doDeliver_36 (by decide) ?_
  refine g_iload dX13_doDeliver_39 rfl ?_
  refine g_iadd dX13_doDeliver_41 ?_
  refine g_laload dX13_doDeliver_42 (by assumption) (by omega) (by omega) ?_
  refine g_lload dX13_doDeliver_43 rfl ?_
  refine g_lmul dX13_doDeliver_45 ?_
  refine g_aload_n dX13_doDeliver_46 rfl rfl ?_
  refine g_iload dX13_doDeliver_47 rfl ?_
  refine g_callVp (i := 10) rfl (gK0 (by assumption)) (g_at10 (by assumption)) (k_M_content Y hM l (by omega)) u_X13_content mw_1335 dX13_doDeliver_49 rfl rfl ⟨Nat.le_of_ble_eq_true rfl, Nat.le_of_ble_eq_true rfl⟩ ⟨Nat.le_of_ble_eq_true rfl, Nat.le_of_ble_eq_true rfl⟩ (Nat.le_of_ble_eq_true rfl) ?_
  refine g_ldiv dX13_doDeliver_52 (by omega) (by omega) (by omega) ?_
  rw [show (A w (1210 + l) * (c * A w 89)).tdiv (sContent (A w) l) = sBad (A w) l c from rfl]
  refine g_lstore dX13_doDeliver_53 (by decide) ?_
  refine g_aload_n dX13_doDeliver_55 rfl rfl ?_
  refine g_get_Model_w dX13_doDeliver_56 mw_1155 (by assumption) (by assumption) ?_
  refine g_sipush dX13_doDeliver_59 (by decide) ?_
  refine g_dup2 dX13_doDeliver_62 rfl rfl ?_
  refine g_laload dX13_doDeliver_63 (by assumption) (by omega) (by omega) ?_
  refine g_lconst (c := 1) dX13_doDeliver_64 (by decide) ?_
  refine g_ladd dX13_doDeliver_65 ?_
  generalize hbd : sBad (A w) l c = bad at b7 b8 ⊢
  refine g_lastore dX13_doDeliver_66 (by assumption) (by omega) (by omega) (fun A66 hA66 => ?_)
  have eA66 := congrFun (hA66.trans (g_uq_rw _ _ _ _)) w
  rw [g_rw_at] at eA66
  refine g_aload_n dX13_doDeliver_67 rfl rfl ?_
  refine g_get_Model_w dX13_doDeliver_68 mw_1155 (by assumption) (by assumption) ?_
  refine g_sipush dX13_doDeliver_71 (by decide) ?_
  refine g_iload dX13_doDeliver_74 rfl ?_
  refine g_iadd dX13_doDeliver_76 ?_
  refine g_iload dX13_doDeliver_77 rfl ?_
  refine g_i2l dX13_doDeliver_79 (by omega) ?_
  refine g_lastore dX13_doDeliver_80 (by assumption) (by omega) (by omega) (fun A80 hA80 => ?_)
  have eA80 := congrFun (hA80.trans (g_uq_rw _ _ _ _)) w
  rw [g_rw_at] at eA80
  refine g_aload_n dX13_doDeliver_81 rfl rfl ?_
  refine g_get_Model_w dX13_doDeliver_82 mw_1155 (by assumption) (by assumption) ?_
  refine g_sipush dX13_doDeliver_85 (by decide) ?_
  refine g_iload dX13_doDeliver_88 rfl ?_
  refine g_iadd dX13_doDeliver_90 ?_
  refine g_iload_n dX13_doDeliver_91 rfl rfl ?_
  refine g_i2l dX13_doDeliver_92 (by omega) ?_
  refine g_lastore dX13_doDeliver_93 (by assumption) (by omega) (by omega) (fun A93 hA93 => ?_)
  have eA93 := congrFun (hA93.trans (g_uq_rw _ _ _ _)) w
  rw [g_rw_at] at eA93
  refine g_aload_n dX13_doDeliver_94 rfl rfl ?_
  refine g_get_Model_w dX13_doDeliver_95 mw_1155 (by assumption) (by assumption) ?_
  refine g_sipush dX13_doDeliver_98 (by decide) ?_
  refine g_iload dX13_doDeliver_101 rfl ?_
  refine g_iadd dX13_doDeliver_103 ?_
  refine g_iload_n dX13_doDeliver_104 rfl rfl ?_
  refine g_i2l dX13_doDeliver_105 (by omega) ?_
  refine g_lastore dX13_doDeliver_106 (by assumption) (by omega) (by omega) (fun A106 hA106 => ?_)
  have eA106 := congrFun (hA106.trans (g_uq_rw _ _ _ _)) w
  rw [g_rw_at] at eA106
  refine g_aload_n dX13_doDeliver_107 rfl rfl ?_
  refine g_get_Model_w dX13_doDeliver_108 mw_1155 (by assumption) (by assumption) ?_
  refine g_sipush dX13_doDeliver_111 (by decide) ?_
  refine g_iload dX13_doDeliver_114 rfl ?_
  refine g_iadd dX13_doDeliver_116 ?_
  refine g_lload dX13_doDeliver_117 rfl ?_
  refine g_lastore dX13_doDeliver_119 (by assumption) (by omega) (by omega) (fun A119 hA119 => ?_)
  have eA119 := congrFun (hA119.trans (g_uq_rw _ _ _ _)) w
  rw [g_rw_at] at eA119
  have e119 : A119 w = sU (sU (sU (sU (sU (A w) 1615 (A w 1615 + 1)) (1370 + A w 1615) l) (1410 + A w 1615) c) (1450 + A w 1615) c) (1490 + A w 1615) bad := by rw [eA119, eA106, eA93, eA80, eA66]
  have n119 : ∀ j, j < 1370 → A119 w j = A w j := fun j hj => by rw [e119, sU_ne _ _ (by omega), sU_ne _ _ (by omega), sU_ne _ _ (by omega), sU_ne _ _ (by omega), sU_ne _ _ (by omega)]
  have w119 : sWorth (A119 w) l = sWorth (A w) l := by simp only [sWorth]; rw [n119 (730 + l) (by omega), n119 (410 + l) (by omega), n119 (12 + A w (410 + l)) (by omega)]
  have m119 : mT (A119 w) := by rw [e119]; exact ((((hm.put (by omega)).put (by omega)).put (by omega)).put (by omega)).put (by omega)
  refine g_aload_n dX13_doDeliver_120 rfl rfl ?_
  refine g_get_Model_w dX13_doDeliver_121 mw_1155 (by assumption) (by assumption) ?_
  refine g_sipush dX13_doDeliver_124 (by decide) ?_
  refine g_iload dX13_doDeliver_127 rfl ?_
  refine g_iadd dX13_doDeliver_129 ?_
  refine g_lload dX13_doDeliver_130 rfl ?_
  refine g_aload_n dX13_doDeliver_132 rfl rfl ?_
  refine g_iload dX13_doDeliver_133 rfl ?_
  refine g_callVp (i := 10) rfl (gK0 (by assumption)) (g_at10 (by assumption)) (k_M_worth Y hM m119.mB l (by omega) (by rw [n119 (410 + l) (by omega)]; omega)) u_X13_worth mw_1339 dX13_doDeliver_135 rfl rfl ⟨Nat.le_of_ble_eq_true rfl, Nat.le_of_ble_eq_true rfl⟩ ⟨Nat.le_of_ble_eq_true rfl, Nat.le_of_ble_eq_true rfl⟩ (Nat.le_of_ble_eq_true rfl) ?_
  rw [w119]
  refine g_lmul dX13_doDeliver_138 ?_
  refine g_lastore dX13_doDeliver_139 (by assumption) (by omega) (by omega) (fun A139 hA139 => ?_)
  have eA139 := congrFun (hA139.trans (g_uq_rw _ _ _ _)) w
  rw [g_rw_at] at eA139
  have n139 : ∀ j, j < 1370 → A139 w j = A w j := fun j hj => by rw [eA139, sU_ne _ _ (by omega), n119 j hj]
  have w139 : sWorth (A139 w) l = sWorth (A w) l := by simp only [sWorth]; rw [n139 (730 + l) (by omega), n139 (410 + l) (by omega), n139 (12 + A w (410 + l)) (by omega)]
  have hv0 : 0 ≤ c * A w 89 * sWorth (A w) l := Int.mul_nonneg b2 hwo.1
  have hv1 : c * A w 89 * sWorth (A w) l ≤ 1600000 * 9999 := Int.mul_le_mul (by omega) hwo.2 hwo.1 (by omega)
  have m139 : mT (A139 w) := by rw [eA139]; exact m119.put (by omega)
  refine g_aload_n dX13_doDeliver_140 rfl rfl ?_
  refine g_get_Model_w dX13_doDeliver_141 mw_1155 (by assumption) (by assumption) ?_
  refine g_sipush dX13_doDeliver_144 (by decide) ?_
  refine g_dup2 dX13_doDeliver_147 rfl rfl ?_
  refine g_laload dX13_doDeliver_148 (by assumption) (by omega) (by omega) ?_
  refine g_lload dX13_doDeliver_149 rfl ?_
  refine g_aload_n dX13_doDeliver_151 rfl rfl ?_
  refine g_iload dX13_doDeliver_152 rfl ?_
  refine g_callVp (i := 10) rfl (gK0 (by assumption)) (g_at10 (by assumption)) (k_M_worth Y hM m139.mB l (by omega) (by rw [n139 (410 + l) (by omega)]; omega)) u_X13_worth mw_1339 dX13_doDeliver_154 rfl rfl ⟨Nat.le_of_ble_eq_true rfl, Nat.le_of_ble_eq_true rfl⟩ ⟨Nat.le_of_ble_eq_true rfl, Nat.le_of_ble_eq_true rfl⟩ (Nat.le_of_ble_eq_true rfl) ?_
  rw [w139]
  refine g_lmul dX13_doDeliver_157 ?_
  refine g_ladd dX13_doDeliver_158 ?_
  refine g_lastore dX13_doDeliver_159 (by assumption) (by omega) (by omega) (fun A159 hA159 => ?_)
  have eA159 := congrFun (hA159.trans (g_uq_rw _ _ _ _)) w
  rw [g_rw_at] at eA159
  have e159 : A159 w = sDelD (A w) (A w 1615) l c bad (c * A w 89 * sWorth (A w) l) := by
    rw [eA159, eA139, e119, sDelD, sU_ne _ _ (by omega), sU_ne _ _ (by omega), sU_ne _ _ (by omega), sU_ne _ _ (by omega), sU_ne _ _ (by omega), sU_ne _ _ (by omega)]
  have n159 : ∀ j, j < 1370 → A159 w j = A w j := fun j hj => by rw [eA159, sU_ne _ _ (by omega), n139 j hj]
  refine g_aload_n dX13_doDeliver_160 rfl rfl ?_
  refine g_get_Model_w dX13_doDeliver_161 mw_1155 (by assumption) (by assumption) ?_
  refine g_sipush dX13_doDeliver_164 (by decide) ?_
  refine g_iload dX13_doDeliver_167 rfl ?_
  refine g_iadd dX13_doDeliver_169 ?_
  refine g_dup2 dX13_doDeliver_170 rfl rfl ?_
  refine g_laload dX13_doDeliver_171 (by assumption) (by omega) (by omega) ?_
  refine g_lload dX13_doDeliver_172 rfl ?_
  refine g_lsub dX13_doDeliver_174 ?_
  refine g_lastore dX13_doDeliver_175 (by assumption) (by omega) (by omega) (fun A175 hA175 => ?_)
  have eA175 := congrFun (hA175.trans (g_uq_rw _ _ _ _)) w
  rw [g_rw_at] at eA175
  refine g_aload_n dX13_doDeliver_176 rfl rfl ?_
  refine g_get_Model_w dX13_doDeliver_177 mw_1155 (by assumption) (by assumption) ?_
  refine g_sipush dX13_doDeliver_180 (by decide) ?_
  refine g_iload dX13_doDeliver_183 rfl ?_
  refine g_iadd dX13_doDeliver_185 ?_
  refine g_dup2 dX13_doDeliver_186 rfl rfl ?_
  refine g_laload dX13_doDeliver_187 (by assumption) (by omega) (by omega) ?_
  refine g_iload_n dX13_doDeliver_188 rfl rfl ?_
  refine g_i2l dX13_doDeliver_189 (by omega) ?_
  refine g_lsub dX13_doDeliver_190 ?_
  refine g_lastore dX13_doDeliver_191 (by assumption) (by omega) (by omega) (fun A191 hA191 => ?_)
  have eA191 := congrFun (hA191.trans (g_uq_rw _ _ _ _)) w
  rw [g_rw_at] at eA191
  have e191 : A191 w = sU (sU (A159 w) (1210 + l) (A w (1210 + l) - bad)) (1050 + l) (A w (1050 + l) - c) := by rw [eA191, eA175, sU_ne _ _ (show (1050 + l : Int) ≠ 1210 + l by omega), n159 (1210 + l) (by omega), n159 (1050 + l) (by omega)]
  have c191 : sContent (A191 w) l = A w (890 + l) + (A w (1050 + l) - c) * A w 89 := by simp only [sContent]; rw [e191, sU_ne _ _ (by omega), sU_ne _ _ (by omega), sU_eq, sU_ne _ _ (by omega), sU_ne _ _ (by omega), n159 (890 + l) (by omega), n159 89 (by omega)]
  have d191 : A191 w (1210 + l) = A w (1210 + l) - bad := by rw [e191, sU_ne _ _ (by omega), sU_eq]
  refine g_aload_n dX13_doDeliver_192 rfl rfl ?_
  refine g_iload dX13_doDeliver_193 rfl ?_
  refine g_callVw (i := 10) rfl (gK0 (by assumption)) (g_at10 (by assumption)) (k_M_limit Y hM l (by omega) (by rw [c191]; omega) (by rw [d191]; omega)) u_X13_limit mw_1343 dX13_doDeliver_195 rfl rfl ⟨Nat.le_of_ble_eq_true rfl, Nat.le_of_ble_eq_true rfl⟩ ⟨Nat.le_of_ble_eq_true rfl, Nat.le_of_ble_eq_true rfl⟩ (Nat.le_of_ble_eq_true rfl) (fun v195 I195 A195 h195 => ?_)
  obtain ⟨rfl, rfl, h195⟩ := h195
  have e195 : A195 w = sDelW (A w) l c := by
    rw [h195, g_rw_at, sLim, c191, d191, e191, sU_comm (show (1050 + l : Int) ≠ 1210 + l by omega), sDelW, sLot3, hbd, ← e159]
    rw [sU_sU, sU_comm (w := A159 w) (show (1210 + l : Int) ≠ 1050 + l by omega), show sU (A159 w) (890 + l) (A w (890 + l)) = A159 w from by rw [← n159 (890 + l) (by omega)]; exact sU_id _ _]
    rfl
  have hE : 0 ≤ A195 w 1616 ∧ A195 w 1616 ≤ 20 := by rw [e195]; exact q1.2.2.2.2.2.2.2
  refine g_aload_n dX13_doDeliver_198 rfl rfl ?_
  refine g_iconst dX13_doDeliver_199 ?_
  refine g_iload dX13_doDeliver_200 rfl ?_
  refine g_i2l dX13_doDeliver_202 (by omega) ?_
  refine g_callVw (i := 10) rfl (gK0 (by assumption)) (g_at10 (by assumption)) (k_M_happens Y hM (by rw [e195]; exact q2.mB) 3 (by omega) _ hE) u_X13_happens mw_1275 dX13_doDeliver_203 rfl rfl ⟨Nat.le_of_ble_eq_true rfl, Nat.le_of_ble_eq_true rfl⟩ ⟨Nat.le_of_ble_eq_true rfl, Nat.le_of_ble_eq_true rfl⟩ (Nat.le_of_ble_eq_true rfl) (fun v203 I203 A203 h203 => ?_)
  obtain ⟨rfl, rfl, h203⟩ := h203
  refine g_iload dX13_doDeliver_206 rfl ?_
  exact g_iret dX13_doDeliver_208 rfl (by decide) (by decide) ⟨rfl, rfl, rfl, rfl, rfl, rfl, by
      rw [h203, e195, h195, hA191, hA175, hA159, hA139, hA119, hA106, hA93, hA80, hA66, sDel, hll]; simp only [g_uq_rw, g_rw_rw]⟩
