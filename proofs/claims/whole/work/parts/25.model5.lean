theorem ifd (p : Prop) [Decidable p] : ((if p then (1 : Int) else 0) = 1 ∧ p) ∨ ((if p then (1 : Int) else 0) = 0 ∧ ¬ p) := by
  by_cases h : p
  · exact Or.inl ⟨if_pos h, h⟩
  · exact Or.inr ⟨if_neg h, h⟩
theorem sFireT_range (w : Int → Int) (a b c d : Int) : 0 ≤ sFireT w a b c d ∧ sFireT w a b c d ≤ 3 ∧ (sFireT w a b c d = 0 → 0 ≤ a ∧ a ≤ 2 ∧ 0 ≤ b ∧ b ≤ 3 ∧ 800 ≤ c ∧ c ≤ 1200 ∧ 1 ≤ d ∧ d ≤ 100 ∧ w 1610 ≠ 2000) := by
  simp only [sFireT]
  split
  · omega
  · split
    · omega
    · split <;> omega
theorem sGradeT_range (w : Int → Int) (a : Int) : 0 ≤ sGradeT w a ∧ sGradeT w a ≤ 3 ∧ (sGradeT w a = 0 → 1 ≤ a ∧ a ≤ 10 ∧ w 1613 ≠ 0) := by
  simp only [sGradeT]
  split
  · omega
  · split <;> omega
theorem sDeliverT_range (w : Int → Int) (a b c : Int) : 0 ≤ sDeliverT w a b c ∧ sDeliverT w a b c ≤ 3 ∧ (sDeliverT w a b c = 0 → 0 ≤ a ∧ a ≤ 3 ∧ 1 ≤ b ∧ b ≤ 2 ∧ 1 ≤ c ∧ c ≤ 100000 ∧ w 1615 ≠ 40 ∧ sLotFor w a b c ≠ -1) := by
  simp only [sDeliverT]
  split
  · omega
  · split
    · omega
    · split <;> omega
theorem sDropT_range (w : Int → Int) (a b c d : Int) : 0 ≤ sDropT w a b c d ∧ sDropT w a b c d ≤ 3 ∧ (sDropT w a b c d = 0 → sFind w a b c ≠ -1 ∧ 0 ≤ d ∧ d ≤ w 89 ∧ w (1050 + sFind w a b c) ≠ 0) := by
  simp only [sDropT]
  split
  · omega
  · split
    · omega
    · split <;> omega
set_option maxHeartbeats 4000000 in
set_option maxRecDepth 100000 in
theorem k_M_setGlaze (Y : gEnv) {K N : Nat → Nat} {I : Nat → Nat → Int} {A : Nat → Int → Int} {R : Nat → Nat → Option Nat} {Q : Nat → Int → Option Nat} {x w sv tx ag : Nat} (hM : mS K N R x w sv tx ag) (h0 : iN (A w)) (hm : mT (A w)) (hs : 0 ≤ I 204 x ∧ I 204 x ≤ 6) (g : Int) (a : Int) (b : Int) (hg : (-2147483648 ≤ g ∧ g ≤ 2147483647)) (ha : (-2147483648 ≤ a ∧ a ≤ 2147483647)) (hb : (-2147483648 ≤ b ∧ b ≤ 2147483647)) : gC Y yX13_setGlaze cX13_setGlaze 5 (some .int) ({ frames := 2, cells := 0, slots := 0, locals := 45 } : Room) [.ref x, vi g, vi a, vi b] K N I A R Q (g_wr K N R Q (fun v I' A' => mOpP I A x w sv (if ¬ (0 ≤ g ∧ g ≤ 3) then 1 else if ¬ ((0 ≤ a ∧ a ≤ 19) ∧ (0 ≤ b ∧ b ≤ 20)) then 2 else 0) (A w g) (sU (sU (A w) g a) (4 + g) b) v I' A')) gno := by
  refine gC_of (by decide) (Nat.le_of_ble_eq_true rfl) (fun X => ?_)
  obtain ⟨hKx, hRw, hRs, hRt, hRa, hKw, hNw, hKs, hNs, hKt, hNt, hKa, hNa, hta⟩ := id hM
  have hB : mB (A w) := hm.mB
  have n14 : 0 ≤ A w 1614 ∧ A w 1614 ≤ 160 := ⟨h0.2.2.2.2.1.1, h0.2.2.2.2.1.2.1⟩
  have n15 : 0 ≤ A w 1615 ∧ A w 1615 ≤ 40 := ⟨h0.2.2.2.2.2.1.1, h0.2.2.2.2.2.1.2.1⟩
  refine g_aload_n dX13_setGlaze_0 rfl rfl ?_
  refine g_iconst dX13_setGlaze_1 ?_
  refine g_put_Model_thrown dX13_setGlaze_2 mw_1161 (by assumption) (fun I2 hI2 => ?_)
  refine g_iload_n dX13_setGlaze_5 rfl rfl ?_
  refine g_callSp (k_M_isGlaze Y _ (by omega)) u_X13_isGlaze mw_1195 rfl dX13_setGlaze_6 rfl rfl ⟨Nat.le_of_ble_eq_true rfl, Nat.le_of_ble_eq_true rfl⟩ ⟨Nat.le_of_ble_eq_true rfl, Nat.le_of_ble_eq_true rfl⟩ (Nat.le_of_ble_eq_true rfl) ?_
  have b6 := ifd (0 ≤ g ∧ g ≤ 3)
  generalize (if 0 ≤ g ∧ g ≤ 3 then (1 : Int) else 0) = z6 at b6 ⊢
  refine g_if_ne (tgt := 18) dX13_setGlaze_9 (by decide) (by omega) (fun c_9 => ?_) (fun c_9 => ?_)
  · refine g_iload_n dX13_setGlaze_18 rfl rfl ?_
    refine g_i2l dX13_setGlaze_19 (by omega) ?_
    refine g_lconst (c := 0) dX13_setGlaze_20 (by decide) ?_
    refine g_ldc2 (c := 19) dX13_setGlaze_21 mw_1206 (by decide) ?_
    refine g_callSp (k_M_in Y _ _ _ (by first | omega | exact m64 (hB _)) (by first | omega | exact m64 (hB _)) (by first | omega | exact m64 (hB _))) u_X13_in mw_1199 rfl dX13_setGlaze_24 rfl rfl ⟨Nat.le_of_ble_eq_true rfl, Nat.le_of_ble_eq_true rfl⟩ ⟨Nat.le_of_ble_eq_true rfl, Nat.le_of_ble_eq_true rfl⟩ (Nat.le_of_ble_eq_true rfl) ?_
    have b24 := ifd (0 ≤ a ∧ a ≤ 19)
    generalize (if 0 ≤ a ∧ a ≤ 19 then (1 : Int) else 0) = z24 at b24 ⊢
    refine g_if_eq (tgt := 42) dX13_setGlaze_27 (by decide) (by omega) (fun c_27 => ?_) (fun c_27 => ?_)
    · refine g_aload_n dX13_setGlaze_42 rfl rfl ?_
      refine g_iconst dX13_setGlaze_43 ?_
      refine g_callVw (i := 10) rfl (gK0 (by assumption)) (g_at10 (by assumption)) (k_M_refuse Y hM _) u_X13_refuse mw_1202 dX13_setGlaze_44 rfl rfl ⟨Nat.le_of_ble_eq_true rfl, Nat.le_of_ble_eq_true rfl⟩ ⟨Nat.le_of_ble_eq_true rfl, Nat.le_of_ble_eq_true rfl⟩ (Nat.le_of_ble_eq_true rfl) (fun v44 I44 A44 h44 => ?_)
      obtain ⟨rfl, e44, f44⟩ := h44
      exact g_iret dX13_setGlaze_47 rfl (by decide) (by decide) ⟨rfl, rfl, rfl, rfl, by rw [f44]; exact mOpP.no hI2 e44 (by first | (rw [if_pos (by omega)]; done) | (rw [if_neg (by omega), if_pos (by omega)]; done) | (rw [if_neg (by omega)]; done) | (rw [if_neg (by omega), if_neg (by omega), if_pos (by omega)]; done) | (rw [if_neg (by omega), if_neg (by omega)]; done) | (rw [if_neg (by omega), if_neg (by omega), if_neg (by omega), if_pos (by omega)]; done) | (rw [if_neg (by omega), if_neg (by omega), if_neg (by omega)]; done) | omega | rfl) (by omega)⟩
    · refine g_iload_n dX13_setGlaze_30 rfl rfl ?_
      refine g_i2l dX13_setGlaze_31 (by omega) ?_
      refine g_lconst (c := 0) dX13_setGlaze_32 (by decide) ?_
      refine g_ldc2 (c := 20) dX13_setGlaze_33 mw_1207 (by decide) ?_
      refine g_callSp (k_M_in Y _ _ _ (by first | omega | exact m64 (hB _)) (by first | omega | exact m64 (hB _)) (by first | omega | exact m64 (hB _))) u_X13_in mw_1199 rfl dX13_setGlaze_36 rfl rfl ⟨Nat.le_of_ble_eq_true rfl, Nat.le_of_ble_eq_true rfl⟩ ⟨Nat.le_of_ble_eq_true rfl, Nat.le_of_ble_eq_true rfl⟩ (Nat.le_of_ble_eq_true rfl) ?_
      have b36 := ifd (0 ≤ b ∧ b ≤ 20)
      generalize (if 0 ≤ b ∧ b ≤ 20 then (1 : Int) else 0) = z36 at b36 ⊢
      refine g_if_ne (tgt := 48) dX13_setGlaze_39 (by decide) (by omega) (fun c_39 => ?_) (fun c_39 => ?_)
      · refine g_aload_n dX13_setGlaze_48 rfl rfl ?_
        have e2 : I2 204 x = I 204 x := by rw [hI2]; simp [g_up]
        refine g_callVw (i := 10) rfl (gK0 (by assumption)) (g_at10 (by assumption)) (k_M_save Y hM (by omega)) u_X13_save mw_1208 dX13_setGlaze_49 rfl rfl ⟨Nat.le_of_ble_eq_true rfl, Nat.le_of_ble_eq_true rfl⟩ ⟨Nat.le_of_ble_eq_true rfl, Nat.le_of_ble_eq_true rfl⟩ (Nat.le_of_ble_eq_true rfl) (fun v49 I49 A49 h49 => ?_)
        obtain ⟨rfl, i49, a49⟩ := h49
        have hws : w ≠ sv := fun e => by rw [e] at hNw; omega
        have eS : A49 w = A w := by rw [a49, g_rw_ne _ _ hws]
        rw [e2] at a49 i49
        rw [hI2] at i49
        refine g_aload_n dX13_setGlaze_52 rfl rfl ?_
        refine g_get_Model_w dX13_setGlaze_53 mw_1155 (by assumption) (by assumption) ?_
        refine g_iconst dX13_setGlaze_56 ?_
        refine g_iload_n dX13_setGlaze_57 rfl rfl ?_
        refine g_iadd dX13_setGlaze_58 ?_
        refine g_laload dX13_setGlaze_59 (by assumption) (by omega) (by omega) ?_
        refine g_l2i dX13_setGlaze_60 ?_
        refine g_istore dX13_setGlaze_61 (by decide) ?_
        refine g_aload_n dX13_setGlaze_63 rfl rfl ?_
        refine g_get_Model_w dX13_setGlaze_64 mw_1155 (by assumption) (by assumption) ?_
        refine g_iconst dX13_setGlaze_67 ?_
        refine g_iload_n dX13_setGlaze_68 rfl rfl ?_
        refine g_iadd dX13_setGlaze_69 ?_
        refine g_iload_n dX13_setGlaze_70 rfl rfl ?_
        refine g_i2l dX13_setGlaze_71 (by omega) ?_
        refine g_lastore dX13_setGlaze_72 (by assumption) (by omega) (by omega) (fun A72 hA72 => ?_)
        have eA72 := congrFun (hA72.trans (g_uq_rw _ _ _ _)) w
        rw [g_rw_at] at eA72
        refine g_aload_n dX13_setGlaze_73 rfl rfl ?_
        refine g_get_Model_w dX13_setGlaze_74 mw_1155 (by assumption) (by assumption) ?_
        refine g_iconst dX13_setGlaze_77 ?_
        refine g_iload_n dX13_setGlaze_78 rfl rfl ?_
        refine g_iadd dX13_setGlaze_79 ?_
        refine g_iload_n dX13_setGlaze_80 rfl rfl ?_
        refine g_i2l dX13_setGlaze_81 (by omega) ?_
        refine g_lastore dX13_setGlaze_82 (by assumption) (by omega) (by omega) (fun A82 hA82 => ?_)
        have eA82 := congrFun (hA82.trans (g_uq_rw _ _ _ _)) w
        rw [g_rw_at] at eA82
        refine g_iload dX13_setGlaze_83 rfl ?_
        exact g_iret dX13_setGlaze_85 rfl (by decide) (by decide) ⟨rfl, rfl, rfl, rfl, mOpP.yes (by first | (rw [if_pos (by omega)]; done) | (rw [if_neg (by omega), if_pos (by omega)]; done) | (rw [if_neg (by omega)]; done) | (rw [if_neg (by omega), if_neg (by omega), if_pos (by omega)]; done) | (rw [if_neg (by omega), if_neg (by omega)]; done) | (rw [if_neg (by omega), if_neg (by omega), if_neg (by omega), if_pos (by omega)]; done) | (rw [if_neg (by omega), if_neg (by omega), if_neg (by omega)]; done) | omega | rfl) ⟨by rw [eS]; try rw [Int.zero_add], i49, by rw [hA82, hA72]; simp only [g_uq_rw, g_rw_rw, g_rw_at]; rw [eS, a49]; try rw [Int.zero_add]⟩⟩
      · refine g_aload_n dX13_setGlaze_42 rfl rfl ?_
        refine g_iconst dX13_setGlaze_43 ?_
        refine g_callVw (i := 10) rfl (gK0 (by assumption)) (g_at10 (by assumption)) (k_M_refuse Y hM _) u_X13_refuse mw_1202 dX13_setGlaze_44 rfl rfl ⟨Nat.le_of_ble_eq_true rfl, Nat.le_of_ble_eq_true rfl⟩ ⟨Nat.le_of_ble_eq_true rfl, Nat.le_of_ble_eq_true rfl⟩ (Nat.le_of_ble_eq_true rfl) (fun v44 I44 A44 h44 => ?_)
        obtain ⟨rfl, e44, f44⟩ := h44
        exact g_iret dX13_setGlaze_47 rfl (by decide) (by decide) ⟨rfl, rfl, rfl, rfl, by rw [f44]; exact mOpP.no hI2 e44 (by first | (rw [if_pos (by omega)]; done) | (rw [if_neg (by omega), if_pos (by omega)]; done) | (rw [if_neg (by omega)]; done) | (rw [if_neg (by omega), if_neg (by omega), if_pos (by omega)]; done) | (rw [if_neg (by omega), if_neg (by omega)]; done) | (rw [if_neg (by omega), if_neg (by omega), if_neg (by omega), if_pos (by omega)]; done) | (rw [if_neg (by omega), if_neg (by omega), if_neg (by omega)]; done) | omega | rfl) (by omega)⟩
  · refine g_aload_n dX13_setGlaze_12 rfl rfl ?_
    refine g_iconst dX13_setGlaze_13 ?_
    refine g_callVw (i := 10) rfl (gK0 (by assumption)) (g_at10 (by assumption)) (k_M_refuse Y hM _) u_X13_refuse mw_1202 dX13_setGlaze_14 rfl rfl ⟨Nat.le_of_ble_eq_true rfl, Nat.le_of_ble_eq_true rfl⟩ ⟨Nat.le_of_ble_eq_true rfl, Nat.le_of_ble_eq_true rfl⟩ (Nat.le_of_ble_eq_true rfl) (fun v14 I14 A14 h14 => ?_)
    obtain ⟨rfl, e14, f14⟩ := h14
    exact g_iret dX13_setGlaze_17 rfl (by decide) (by decide) ⟨rfl, rfl, rfl, rfl, by rw [f14]; exact mOpP.no hI2 e14 (by first | (rw [if_pos (by omega)]; done) | (rw [if_neg (by omega), if_pos (by omega)]; done) | (rw [if_neg (by omega)]; done) | (rw [if_neg (by omega), if_neg (by omega), if_pos (by omega)]; done) | (rw [if_neg (by omega), if_neg (by omega)]; done) | (rw [if_neg (by omega), if_neg (by omega), if_neg (by omega), if_pos (by omega)]; done) | (rw [if_neg (by omega), if_neg (by omega), if_neg (by omega)]; done) | omega | rfl) (by omega)⟩
set_option maxHeartbeats 4000000 in
set_option maxRecDepth 100000 in
theorem k_M_setQuality (Y : gEnv) {K N : Nat → Nat} {I : Nat → Nat → Int} {A : Nat → Int → Int} {R : Nat → Nat → Option Nat} {Q : Nat → Int → Option Nat} {x w sv tx ag : Nat} (hM : mS K N R x w sv tx ag) (h0 : iN (A w)) (hm : mT (A w)) (hs : 0 ≤ I 204 x ∧ I 204 x ≤ 6) (g : Int) (a : Int) (b : Int) (hg : (-2147483648 ≤ g ∧ g ≤ 2147483647)) (ha : (-2147483648 ≤ a ∧ a ≤ 2147483647)) (hb : (-2147483648 ≤ b ∧ b ≤ 2147483647)) : gC Y yX13_setQuality cX13_setQuality 5 (some .int) ({ frames := 2, cells := 0, slots := 0, locals := 45 } : Room) [.ref x, vi g, vi a, vi b] K N I A R Q (g_wr K N R Q (fun v I' A' => mOpP I A x w sv (if ¬ (0 ≤ g ∧ g ≤ 3) then 1 else if ¬ ((0 ≤ a ∧ a ≤ 100) ∧ (0 ≤ b ∧ b ≤ 9999)) then 2 else 0) (A w (8 + g)) (sU (sU (A w) (8 + g) a) (12 + g) b) v I' A')) gno := by
  refine gC_of (by decide) (Nat.le_of_ble_eq_true rfl) (fun X => ?_)
  obtain ⟨hKx, hRw, hRs, hRt, hRa, hKw, hNw, hKs, hNs, hKt, hNt, hKa, hNa, hta⟩ := id hM
  have hB : mB (A w) := hm.mB
  have n14 : 0 ≤ A w 1614 ∧ A w 1614 ≤ 160 := ⟨h0.2.2.2.2.1.1, h0.2.2.2.2.1.2.1⟩
  have n15 : 0 ≤ A w 1615 ∧ A w 1615 ≤ 40 := ⟨h0.2.2.2.2.2.1.1, h0.2.2.2.2.2.1.2.1⟩
  refine g_aload_n dX13_setQuality_0 rfl rfl ?_
  refine g_iconst dX13_setQuality_1 ?_
  refine g_put_Model_thrown dX13_setQuality_2 mw_1161 (by assumption) (fun I2 hI2 => ?_)
  refine g_iload_n dX13_setQuality_5 rfl rfl ?_
  refine g_callSp (k_M_isGlaze Y _ (by omega)) u_X13_isGlaze mw_1195 rfl dX13_setQuality_6 rfl rfl ⟨Nat.le_of_ble_eq_true rfl, Nat.le_of_ble_eq_true rfl⟩ ⟨Nat.le_of_ble_eq_true rfl, Nat.le_of_ble_eq_true rfl⟩ (Nat.le_of_ble_eq_true rfl) ?_
  have b6 := ifd (0 ≤ g ∧ g ≤ 3)
  generalize (if 0 ≤ g ∧ g ≤ 3 then (1 : Int) else 0) = z6 at b6 ⊢
  refine g_if_ne (tgt := 18) dX13_setQuality_9 (by decide) (by omega) (fun c_9 => ?_) (fun c_9 => ?_)
  · refine g_iload_n dX13_setQuality_18 rfl rfl ?_
    refine g_i2l dX13_setQuality_19 (by omega) ?_
    refine g_lconst (c := 0) dX13_setQuality_20 (by decide) ?_
    refine g_ldc2 (c := 100) dX13_setQuality_21 mw_1153 (by decide) ?_
    refine g_callSp (k_M_in Y _ _ _ (by first | omega | exact m64 (hB _)) (by first | omega | exact m64 (hB _)) (by first | omega | exact m64 (hB _))) u_X13_in mw_1199 rfl dX13_setQuality_24 rfl rfl ⟨Nat.le_of_ble_eq_true rfl, Nat.le_of_ble_eq_true rfl⟩ ⟨Nat.le_of_ble_eq_true rfl, Nat.le_of_ble_eq_true rfl⟩ (Nat.le_of_ble_eq_true rfl) ?_
    have b24 := ifd (0 ≤ a ∧ a ≤ 100)
    generalize (if 0 ≤ a ∧ a ≤ 100 then (1 : Int) else 0) = z24 at b24 ⊢
    refine g_if_eq (tgt := 42) dX13_setQuality_27 (by decide) (by omega) (fun c_27 => ?_) (fun c_27 => ?_)
    · refine g_aload_n dX13_setQuality_42 rfl rfl ?_
      refine g_iconst dX13_setQuality_43 ?_
      refine g_callVw (i := 10) rfl (gK0 (by assumption)) (g_at10 (by assumption)) (k_M_refuse Y hM _) u_X13_refuse mw_1202 dX13_setQuality_44 rfl rfl ⟨Nat.le_of_ble_eq_true rfl, Nat.le_of_ble_eq_true rfl⟩ ⟨Nat.le_of_ble_eq_true rfl, Nat.le_of_ble_eq_true rfl⟩ (Nat.le_of_ble_eq_true rfl) (fun v44 I44 A44 h44 => ?_)
      obtain ⟨rfl, e44, f44⟩ := h44
      exact g_iret dX13_setQuality_47 rfl (by decide) (by decide) ⟨rfl, rfl, rfl, rfl, by rw [f44]; exact mOpP.no hI2 e44 (by first | (rw [if_pos (by omega)]; done) | (rw [if_neg (by omega), if_pos (by omega)]; done) | (rw [if_neg (by omega)]; done) | (rw [if_neg (by omega), if_neg (by omega), if_pos (by omega)]; done) | (rw [if_neg (by omega), if_neg (by omega)]; done) | (rw [if_neg (by omega), if_neg (by omega), if_neg (by omega), if_pos (by omega)]; done) | (rw [if_neg (by omega), if_neg (by omega), if_neg (by omega)]; done) | omega | rfl) (by omega)⟩
    · refine g_iload_n dX13_setQuality_30 rfl rfl ?_
      refine g_i2l dX13_setQuality_31 (by omega) ?_
      refine g_lconst (c := 0) dX13_setQuality_32 (by decide) ?_
      refine g_ldc2 (c := 9999) dX13_setQuality_33 mw_1216 (by decide) ?_
      refine g_callSp (k_M_in Y _ _ _ (by first | omega | exact m64 (hB _)) (by first | omega | exact m64 (hB _)) (by first | omega | exact m64 (hB _))) u_X13_in mw_1199 rfl dX13_setQuality_36 rfl rfl ⟨Nat.le_of_ble_eq_true rfl, Nat.le_of_ble_eq_true rfl⟩ ⟨Nat.le_of_ble_eq_true rfl, Nat.le_of_ble_eq_true rfl⟩ (Nat.le_of_ble_eq_true rfl) ?_
      have b36 := ifd (0 ≤ b ∧ b ≤ 9999)
      generalize (if 0 ≤ b ∧ b ≤ 9999 then (1 : Int) else 0) = z36 at b36 ⊢
      refine g_if_ne (tgt := 48) dX13_setQuality_39 (by decide) (by omega) (fun c_39 => ?_) (fun c_39 => ?_)
      · refine g_aload_n dX13_setQuality_48 rfl rfl ?_
        have e2 : I2 204 x = I 204 x := by rw [hI2]; simp [g_up]
        refine g_callVw (i := 10) rfl (gK0 (by assumption)) (g_at10 (by assumption)) (k_M_save Y hM (by omega)) u_X13_save mw_1208 dX13_setQuality_49 rfl rfl ⟨Nat.le_of_ble_eq_true rfl, Nat.le_of_ble_eq_true rfl⟩ ⟨Nat.le_of_ble_eq_true rfl, Nat.le_of_ble_eq_true rfl⟩ (Nat.le_of_ble_eq_true rfl) (fun v49 I49 A49 h49 => ?_)
        obtain ⟨rfl, i49, a49⟩ := h49
        have hws : w ≠ sv := fun e => by rw [e] at hNw; omega
        have eS : A49 w = A w := by rw [a49, g_rw_ne _ _ hws]
        rw [e2] at a49 i49
        rw [hI2] at i49
        refine g_aload_n dX13_setQuality_52 rfl rfl ?_
        refine g_get_Model_w dX13_setQuality_53 mw_1155 (by assumption) (by assumption) ?_
        refine g_bipush dX13_setQuality_56 (by decide) ?_
        refine g_iload_n dX13_setQuality_58 rfl rfl ?_
        refine g_iadd dX13_setQuality_59 ?_
        refine g_laload dX13_setQuality_60 (by assumption) (by omega) (by omega) ?_
        refine g_l2i dX13_setQuality_61 ?_
        refine g_istore dX13_setQuality_62 (by decide) ?_
        refine g_aload_n dX13_setQuality_64 rfl rfl ?_
        refine g_get_Model_w dX13_setQuality_65 mw_1155 (by assumption) (by assumption) ?_
        refine g_bipush dX13_setQuality_68 (by decide) ?_
        refine g_iload_n dX13_setQuality_70 rfl rfl ?_
        refine g_iadd dX13_setQuality_71 ?_
        refine g_iload_n dX13_setQuality_72 rfl rfl ?_
        refine g_i2l dX13_setQuality_73 (by omega) ?_
        refine g_lastore dX13_setQuality_74 (by assumption) (by omega) (by omega) (fun A74 hA74 => ?_)
        have eA74 := congrFun (hA74.trans (g_uq_rw _ _ _ _)) w
        rw [g_rw_at] at eA74
        refine g_aload_n dX13_setQuality_75 rfl rfl ?_
        refine g_get_Model_w dX13_setQuality_76 mw_1155 (by assumption) (by assumption) ?_
        refine g_bipush dX13_setQuality_79 (by decide) ?_
        refine g_iload_n dX13_setQuality_81 rfl rfl ?_
        refine g_iadd dX13_setQuality_82 ?_
        refine g_iload_n dX13_setQuality_83 rfl rfl ?_
        refine g_i2l dX13_setQuality_84 (by omega) ?_
        refine g_lastore dX13_setQuality_85 (by assumption) (by omega) (by omega) (fun A85 hA85 => ?_)
        have eA85 := congrFun (hA85.trans (g_uq_rw _ _ _ _)) w
        rw [g_rw_at] at eA85
        refine g_iload dX13_setQuality_86 rfl ?_
        exact g_iret dX13_setQuality_88 rfl (by decide) (by decide) ⟨rfl, rfl, rfl, rfl, mOpP.yes (by first | (rw [if_pos (by omega)]; done) | (rw [if_neg (by omega), if_pos (by omega)]; done) | (rw [if_neg (by omega)]; done) | (rw [if_neg (by omega), if_neg (by omega), if_pos (by omega)]; done) | (rw [if_neg (by omega), if_neg (by omega)]; done) | (rw [if_neg (by omega), if_neg (by omega), if_neg (by omega), if_pos (by omega)]; done) | (rw [if_neg (by omega), if_neg (by omega), if_neg (by omega)]; done) | omega | rfl) ⟨by rw [eS]; try rw [Int.zero_add], i49, by rw [hA85, hA74]; simp only [g_uq_rw, g_rw_rw, g_rw_at]; rw [eS, a49]; try rw [Int.zero_add]⟩⟩
      · refine g_aload_n dX13_setQuality_42 rfl rfl ?_
        refine g_iconst dX13_setQuality_43 ?_
        refine g_callVw (i := 10) rfl (gK0 (by assumption)) (g_at10 (by assumption)) (k_M_refuse Y hM _) u_X13_refuse mw_1202 dX13_setQuality_44 rfl rfl ⟨Nat.le_of_ble_eq_true rfl, Nat.le_of_ble_eq_true rfl⟩ ⟨Nat.le_of_ble_eq_true rfl, Nat.le_of_ble_eq_true rfl⟩ (Nat.le_of_ble_eq_true rfl) (fun v44 I44 A44 h44 => ?_)
        obtain ⟨rfl, e44, f44⟩ := h44
        exact g_iret dX13_setQuality_47 rfl (by decide) (by decide) ⟨rfl, rfl, rfl, rfl, by rw [f44]; exact mOpP.no hI2 e44 (by first | (rw [if_pos (by omega)]; done) | (rw [if_neg (by omega), if_pos (by omega)]; done) | (rw [if_neg (by omega)]; done) | (rw [if_neg (by omega), if_neg (by omega), if_pos (by omega)]; done) | (rw [if_neg (by omega), if_neg (by omega)]; done) | (rw [if_neg (by omega), if_neg (by omega), if_neg (by omega), if_pos (by omega)]; done) | (rw [if_neg (by omega), if_neg (by omega), if_neg (by omega)]; done) | omega | rfl) (by omega)⟩
  · refine g_aload_n dX13_setQuality_12 rfl rfl ?_
    refine g_iconst dX13_setQuality_13 ?_
    refine g_callVw (i := 10) rfl (gK0 (by assumption)) (g_at10 (by assumption)) (k_M_refuse Y hM _) u_X13_refuse mw_1202 dX13_setQuality_14 rfl rfl ⟨Nat.le_of_ble_eq_true rfl, Nat.le_of_ble_eq_true rfl⟩ ⟨Nat.le_of_ble_eq_true rfl, Nat.le_of_ble_eq_true rfl⟩ (Nat.le_of_ble_eq_true rfl) (fun v14 I14 A14 h14 => ?_)
    obtain ⟨rfl, e14, f14⟩ := h14
    exact g_iret dX13_setQuality_17 rfl (by decide) (by decide) ⟨rfl, rfl, rfl, rfl, by rw [f14]; exact mOpP.no hI2 e14 (by first | (rw [if_pos (by omega)]; done) | (rw [if_neg (by omega), if_pos (by omega)]; done) | (rw [if_neg (by omega)]; done) | (rw [if_neg (by omega), if_neg (by omega), if_pos (by omega)]; done) | (rw [if_neg (by omega), if_neg (by omega)]; done) | (rw [if_neg (by omega), if_neg (by omega), if_neg (by omega), if_pos (by omega)]; done) | (rw [if_neg (by omega), if_neg (by omega), if_neg (by omega)]; done) | omega | rfl) (by omega)⟩
set_option maxHeartbeats 4000000 in
set_option maxRecDepth 100000 in
theorem k_M_setPosition (Y : gEnv) {K N : Nat → Nat} {I : Nat → Nat → Int} {A : Nat → Int → Int} {R : Nat → Nat → Option Nat} {Q : Nat → Int → Option Nat} {x w sv tx ag : Nat} (hM : mS K N R x w sv tx ag) (h0 : iN (A w)) (hm : mT (A w)) (hs : 0 ≤ I 204 x ∧ I 204 x ≤ 6) (k : Int) (p : Int) (a : Int) (b : Int) (hk : (-2147483648 ≤ k ∧ k ≤ 2147483647)) (hp : (-2147483648 ≤ p ∧ p ≤ 2147483647)) (ha : (-2147483648 ≤ a ∧ a ≤ 2147483647)) (hb : (-2147483648 ≤ b ∧ b ≤ 2147483647)) : gC Y yX13_setPosition cX13_setPosition 7 (some .int) ({ frames := 2, cells := 0, slots := 0, locals := 45 } : Room) [.ref x, vi k, vi p, vi a, vi b] K N I A R Q (g_wr K N R Q (fun v I' A' => mOpP I A x w sv (if ¬ ((0 ≤ k ∧ k ≤ 2) ∧ (0 ≤ p ∧ p ≤ 7)) then 1 else if ¬ ((-40 ≤ a ∧ a ≤ 40) ∧ (0 ≤ b ∧ b ≤ 100)) then 2 else 0) (A w (16 + (8 * k + p))) (sU (sU (A w) (16 + (8 * k + p)) a) (40 + (8 * k + p)) b) v I' A')) gno := by
  refine gC_of (by decide) (Nat.le_of_ble_eq_true rfl) (fun X => ?_)
  obtain ⟨hKx, hRw, hRs, hRt, hRa, hKw, hNw, hKs, hNs, hKt, hNt, hKa, hNa, hta⟩ := id hM
  have hB : mB (A w) := hm.mB
  have n14 : 0 ≤ A w 1614 ∧ A w 1614 ≤ 160 := ⟨h0.2.2.2.2.1.1, h0.2.2.2.2.1.2.1⟩
  have n15 : 0 ≤ A w 1615 ∧ A w 1615 ≤ 40 := ⟨h0.2.2.2.2.2.1.1, h0.2.2.2.2.2.1.2.1⟩
  refine g_aload_n dX13_setPosition_0 rfl rfl ?_
  refine g_iconst dX13_setPosition_1 ?_
  refine g_put_Model_thrown dX13_setPosition_2 mw_1161 (by assumption) (fun I2 hI2 => ?_)
  refine g_iload_n dX13_setPosition_5 rfl rfl ?_
  refine g_callSp (k_M_isKiln Y _ (by omega)) u_X13_isKiln mw_1221 rfl dX13_setPosition_6 rfl rfl ⟨Nat.le_of_ble_eq_true rfl, Nat.le_of_ble_eq_true rfl⟩ ⟨Nat.le_of_ble_eq_true rfl, Nat.le_of_ble_eq_true rfl⟩ (Nat.le_of_ble_eq_true rfl) ?_
  have b6 := ifd (0 ≤ k ∧ k ≤ 2)
  generalize (if 0 ≤ k ∧ k ≤ 2 then (1 : Int) else 0) = z6 at b6 ⊢
  refine g_if_eq (tgt := 19) dX13_setPosition_9 (by decide) (by omega) (fun c_9 => ?_) (fun c_9 => ?_)
  · refine g_aload_n dX13_setPosition_19 rfl rfl ?_
    refine g_iconst dX13_setPosition_20 ?_
    refine g_callVw (i := 10) rfl (gK0 (by assumption)) (g_at10 (by assumption)) (k_M_refuse Y hM _) u_X13_refuse mw_1202 dX13_setPosition_21 rfl rfl ⟨Nat.le_of_ble_eq_true rfl, Nat.le_of_ble_eq_true rfl⟩ ⟨Nat.le_of_ble_eq_true rfl, Nat.le_of_ble_eq_true rfl⟩ (Nat.le_of_ble_eq_true rfl) (fun v21 I21 A21 h21 => ?_)
    obtain ⟨rfl, e21, f21⟩ := h21
    exact g_iret dX13_setPosition_24 rfl (by decide) (by decide) ⟨rfl, rfl, rfl, rfl, by rw [f21]; exact mOpP.no hI2 e21 (by first | (rw [if_pos (by omega)]; done) | (rw [if_neg (by omega), if_pos (by omega)]; done) | (rw [if_neg (by omega)]; done) | (rw [if_neg (by omega), if_neg (by omega), if_pos (by omega)]; done) | (rw [if_neg (by omega), if_neg (by omega)]; done) | (rw [if_neg (by omega), if_neg (by omega), if_neg (by omega), if_pos (by omega)]; done) | (rw [if_neg (by omega), if_neg (by omega), if_neg (by omega)]; done) | omega | rfl) (by omega)⟩
  · refine g_iload_n dX13_setPosition_12 rfl rfl ?_
    refine g_callSp (k_M_isPlace Y _ (by omega)) u_X13_isPlace mw_1225 rfl dX13_setPosition_13 rfl rfl ⟨Nat.le_of_ble_eq_true rfl, Nat.le_of_ble_eq_true rfl⟩ ⟨Nat.le_of_ble_eq_true rfl, Nat.le_of_ble_eq_true rfl⟩ (Nat.le_of_ble_eq_true rfl) ?_
    have b13 := ifd (0 ≤ p ∧ p ≤ 7)
    generalize (if 0 ≤ p ∧ p ≤ 7 then (1 : Int) else 0) = z13 at b13 ⊢
    refine g_if_ne (tgt := 25) dX13_setPosition_16 (by decide) (by omega) (fun c_16 => ?_) (fun c_16 => ?_)
    · refine g_iload_n dX13_setPosition_25 rfl rfl ?_
      refine g_i2l dX13_setPosition_26 (by omega) ?_
      refine g_ldc2 (c := -40) dX13_setPosition_27 mw_1229 (by decide) ?_
      refine g_ldc2 (c := 40) dX13_setPosition_30 mw_1230 (by decide) ?_
      refine g_callSp (k_M_in Y _ _ _ (by first | omega | exact m64 (hB _)) (by first | omega | exact m64 (hB _)) (by first | omega | exact m64 (hB _))) u_X13_in mw_1199 rfl dX13_setPosition_33 rfl rfl ⟨Nat.le_of_ble_eq_true rfl, Nat.le_of_ble_eq_true rfl⟩ ⟨Nat.le_of_ble_eq_true rfl, Nat.le_of_ble_eq_true rfl⟩ (Nat.le_of_ble_eq_true rfl) ?_
      have b33 := ifd (-40 ≤ a ∧ a ≤ 40)
      generalize (if -40 ≤ a ∧ a ≤ 40 then (1 : Int) else 0) = z33 at b33 ⊢
      refine g_if_eq (tgt := 52) dX13_setPosition_36 (by decide) (by omega) (fun c_36 => ?_) (fun c_36 => ?_)
      · refine g_aload_n dX13_setPosition_52 rfl rfl ?_
        refine g_iconst dX13_setPosition_53 ?_
        refine g_callVw (i := 10) rfl (gK0 (by assumption)) (g_at10 (by assumption)) (k_M_refuse Y hM _) u_X13_refuse mw_1202 dX13_setPosition_54 rfl rfl ⟨Nat.le_of_ble_eq_true rfl, Nat.le_of_ble_eq_true rfl⟩ ⟨Nat.le_of_ble_eq_true rfl, Nat.le_of_ble_eq_true rfl⟩ (Nat.le_of_ble_eq_true rfl) (fun v54 I54 A54 h54 => ?_)
        obtain ⟨rfl, e54, f54⟩ := h54
        exact g_iret dX13_setPosition_57 rfl (by decide) (by decide) ⟨rfl, rfl, rfl, rfl, by rw [f54]; exact mOpP.no hI2 e54 (by first | (rw [if_pos (by omega)]; done) | (rw [if_neg (by omega), if_pos (by omega)]; done) | (rw [if_neg (by omega)]; done) | (rw [if_neg (by omega), if_neg (by omega), if_pos (by omega)]; done) | (rw [if_neg (by omega), if_neg (by omega)]; done) | (rw [if_neg (by omega), if_neg (by omega), if_neg (by omega), if_pos (by omega)]; done) | (rw [if_neg (by omega), if_neg (by omega), if_neg (by omega)]; done) | omega | rfl) (by omega)⟩
      · refine g_iload dX13_setPosition_39 rfl ?_
        refine g_i2l dX13_setPosition_41 (by omega) ?_
        refine g_lconst (c := 0) dX13_setPosition_42 (by decide) ?_
        refine g_ldc2 (c := 100) dX13_setPosition_43 mw_1153 (by decide) ?_
        refine g_callSp (k_M_in Y _ _ _ (by first | omega | exact m64 (hB _)) (by first | omega | exact m64 (hB _)) (by first | omega | exact m64 (hB _))) u_X13_in mw_1199 rfl dX13_setPosition_46 rfl rfl ⟨Nat.le_of_ble_eq_true rfl, Nat.le_of_ble_eq_true rfl⟩ ⟨Nat.le_of_ble_eq_true rfl, Nat.le_of_ble_eq_true rfl⟩ (Nat.le_of_ble_eq_true rfl) ?_
        have b46 := ifd (0 ≤ b ∧ b ≤ 100)
        generalize (if 0 ≤ b ∧ b ≤ 100 then (1 : Int) else 0) = z46 at b46 ⊢
        refine g_if_ne (tgt := 58) dX13_setPosition_49 (by decide) (by omega) (fun c_49 => ?_) (fun c_49 => ?_)
        · refine g_aload_n dX13_setPosition_58 rfl rfl ?_
          have e2 : I2 204 x = I 204 x := by rw [hI2]; simp [g_up]
          refine g_callVw (i := 10) rfl (gK0 (by assumption)) (g_at10 (by assumption)) (k_M_save Y hM (by omega)) u_X13_save mw_1208 dX13_setPosition_59 rfl rfl ⟨Nat.le_of_ble_eq_true rfl, Nat.le_of_ble_eq_true rfl⟩ ⟨Nat.le_of_ble_eq_true rfl, Nat.le_of_ble_eq_true rfl⟩ (Nat.le_of_ble_eq_true rfl) (fun v59 I59 A59 h59 => ?_)
          obtain ⟨rfl, i59, a59⟩ := h59
          have hws : w ≠ sv := fun e => by rw [e] at hNw; omega
          have eS : A59 w = A w := by rw [a59, g_rw_ne _ _ hws]
          rw [e2] at a59 i59
          rw [hI2] at i59
          refine g_bipush dX13_setPosition_62 (by decide) ?_
          refine g_iload_n dX13_setPosition_64 rfl rfl ?_
          refine g_imul dX13_setPosition_65 ?_
          refine g_iload_n dX13_setPosition_66 rfl rfl ?_
          refine g_iadd dX13_setPosition_67 ?_
          refine g_istore dX13_setPosition_68 (by decide) ?_
          refine g_aload_n dX13_setPosition_70 rfl rfl ?_
          refine g_get_Model_w dX13_setPosition_71 mw_1155 (by assumption) (by assumption) ?_
          refine g_bipush dX13_setPosition_74 (by decide) ?_
          refine g_iload dX13_setPosition_76 rfl ?_
          refine g_iadd dX13_setPosition_78 ?_
          refine g_laload dX13_setPosition_79 (by assumption) (by omega) (by omega) ?_
          refine g_l2i dX13_setPosition_80 ?_
          refine g_istore dX13_setPosition_81 (by decide) ?_
          refine g_aload_n dX13_setPosition_83 rfl rfl ?_
          refine g_get_Model_w dX13_setPosition_84 mw_1155 (by assumption) (by assumption) ?_
          refine g_bipush dX13_setPosition_87 (by decide) ?_
          refine g_iload dX13_setPosition_89 rfl ?_
          refine g_iadd dX13_setPosition_91 ?_
          refine g_iload_n dX13_setPosition_92 rfl rfl ?_
          refine g_i2l dX13_setPosition_93 (by omega) ?_
          refine g_lastore dX13_setPosition_94 (by assumption) (by omega) (by omega) (fun A94 hA94 => ?_)
          have eA94 := congrFun (hA94.trans (g_uq_rw _ _ _ _)) w
          rw [g_rw_at] at eA94
          refine g_aload_n dX13_setPosition_95 rfl rfl ?_
          refine g_get_Model_w dX13_setPosition_96 mw_1155 (by assumption) (by assumption) ?_
          refine g_bipush dX13_setPosition_99 (by decide) ?_
          refine g_iload dX13_setPosition_101 rfl ?_
          refine g_iadd dX13_setPosition_103 ?_
          refine g_iload dX13_setPosition_104 rfl ?_
          refine g_i2l dX13_setPosition_106 (by omega) ?_
          refine g_lastore dX13_setPosition_107 (by assumption) (by omega) (by omega) (fun A107 hA107 => ?_)
          have eA107 := congrFun (hA107.trans (g_uq_rw _ _ _ _)) w
          rw [g_rw_at] at eA107
          refine g_iload dX13_setPosition_108 rfl ?_
          exact g_iret dX13_setPosition_110 rfl (by decide) (by decide) ⟨rfl, rfl, rfl, rfl, mOpP.yes (by first | (rw [if_pos (by omega)]; done) | (rw [if_neg (by omega), if_pos (by omega)]; done) | (rw [if_neg (by omega)]; done) | (rw [if_neg (by omega), if_neg (by omega), if_pos (by omega)]; done) | (rw [if_neg (by omega), if_neg (by omega)]; done) | (rw [if_neg (by omega), if_neg (by omega), if_neg (by omega), if_pos (by omega)]; done) | (rw [if_neg (by omega), if_neg (by omega), if_neg (by omega)]; done) | omega | rfl) ⟨by rw [eS]; try rw [Int.zero_add], i59, by rw [hA107, hA94]; simp only [g_uq_rw, g_rw_rw, g_rw_at]; rw [eS, a59]; try rw [Int.zero_add]⟩⟩
        · refine g_aload_n dX13_setPosition_52 rfl rfl ?_
          refine g_iconst dX13_setPosition_53 ?_
          refine g_callVw (i := 10) rfl (gK0 (by assumption)) (g_at10 (by assumption)) (k_M_refuse Y hM _) u_X13_refuse mw_1202 dX13_setPosition_54 rfl rfl ⟨Nat.le_of_ble_eq_true rfl, Nat.le_of_ble_eq_true rfl⟩ ⟨Nat.le_of_ble_eq_true rfl, Nat.le_of_ble_eq_true rfl⟩ (Nat.le_of_ble_eq_true rfl) (fun v54 I54 A54 h54 => ?_)
          obtain ⟨rfl, e54, f54⟩ := h54
          exact g_iret dX13_setPosition_57 rfl (by decide) (by decide) ⟨rfl, rfl, rfl, rfl, by rw [f54]; exact mOpP.no hI2 e54 (by first | (rw [if_pos (by omega)]; done) | (rw [if_neg (by omega), if_pos (by omega)]; done) | (rw [if_neg (by omega)]; done) | (rw [if_neg (by omega), if_neg (by omega), if_pos (by omega)]; done) | (rw [if_neg (by omega), if_neg (by omega)]; done) | (rw [if_neg (by omega), if_neg (by omega), if_neg (by omega), if_pos (by omega)]; done) | (rw [if_neg (by omega), if_neg (by omega), if_neg (by omega)]; done) | omega | rfl) (by omega)⟩
    · refine g_aload_n dX13_setPosition_19 rfl rfl ?_
      refine g_iconst dX13_setPosition_20 ?_
      refine g_callVw (i := 10) rfl (gK0 (by assumption)) (g_at10 (by assumption)) (k_M_refuse Y hM _) u_X13_refuse mw_1202 dX13_setPosition_21 rfl rfl ⟨Nat.le_of_ble_eq_true rfl, Nat.le_of_ble_eq_true rfl⟩ ⟨Nat.le_of_ble_eq_true rfl, Nat.le_of_ble_eq_true rfl⟩ (Nat.le_of_ble_eq_true rfl) (fun v21 I21 A21 h21 => ?_)
      obtain ⟨rfl, e21, f21⟩ := h21
      exact g_iret dX13_setPosition_24 rfl (by decide) (by decide) ⟨rfl, rfl, rfl, rfl, by rw [f21]; exact mOpP.no hI2 e21 (by first | (rw [if_pos (by omega)]; done) | (rw [if_neg (by omega), if_pos (by omega)]; done) | (rw [if_neg (by omega)]; done) | (rw [if_neg (by omega), if_neg (by omega), if_pos (by omega)]; done) | (rw [if_neg (by omega), if_neg (by omega)]; done) | (rw [if_neg (by omega), if_neg (by omega), if_neg (by omega), if_pos (by omega)]; done) | (rw [if_neg (by omega), if_neg (by omega), if_neg (by omega)]; done) | omega | rfl) (by omega)⟩
set_option maxHeartbeats 4000000 in
set_option maxRecDepth 100000 in
theorem k_M_setSharpness (Y : gEnv) {K N : Nat → Nat} {I : Nat → Nat → Int} {A : Nat → Int → Int} {R : Nat → Nat → Option Nat} {Q : Nat → Int → Option Nat} {x w sv tx ag : Nat} (hM : mS K N R x w sv tx ag) (h0 : iN (A w)) (hm : mT (A w)) (hs : 0 ≤ I 204 x ∧ I 204 x ≤ 6) (a : Int) (ha : (-2147483648 ≤ a ∧ a ≤ 2147483647)) : gC Y yX13_setSharpness cX13_setSharpness 3 (some .int) ({ frames := 1, cells := 0, slots := 0, locals := 25 } : Room) [.ref x, vi a] K N I A R Q (g_wr K N R Q (fun v I' A' => mOpP I A x w sv (if ¬ (0 ≤ a ∧ a ≤ 100) then 1 else 0) (A w 88) (sU (A w) 88 a) v I' A')) gno := by
  refine gC_of (by decide) (Nat.le_of_ble_eq_true rfl) (fun X => ?_)
  obtain ⟨hKx, hRw, hRs, hRt, hRa, hKw, hNw, hKs, hNs, hKt, hNt, hKa, hNa, hta⟩ := id hM
  have hB : mB (A w) := hm.mB
  have n14 : 0 ≤ A w 1614 ∧ A w 1614 ≤ 160 := ⟨h0.2.2.2.2.1.1, h0.2.2.2.2.1.2.1⟩
  have n15 : 0 ≤ A w 1615 ∧ A w 1615 ≤ 40 := ⟨h0.2.2.2.2.2.1.1, h0.2.2.2.2.2.1.2.1⟩
  refine g_aload_n dX13_setSharpness_0 rfl rfl ?_
  refine g_iconst dX13_setSharpness_1 ?_
  refine g_put_Model_thrown dX13_setSharpness_2 mw_1161 (by assumption) (fun I2 hI2 => ?_)
  refine g_iload_n dX13_setSharpness_5 rfl rfl ?_
  refine g_i2l dX13_setSharpness_6 (by omega) ?_
  refine g_lconst (c := 0) dX13_setSharpness_7 (by decide) ?_
  refine g_ldc2 (c := 100) dX13_setSharpness_8 mw_1153 (by decide) ?_
  refine g_callSp (k_M_in Y _ _ _ (by first | omega | exact m64 (hB _)) (by first | omega | exact m64 (hB _)) (by first | omega | exact m64 (hB _))) u_X13_in mw_1199 rfl dX13_setSharpness_11 rfl rfl ⟨Nat.le_of_ble_eq_true rfl, Nat.le_of_ble_eq_true rfl⟩ ⟨Nat.le_of_ble_eq_true rfl, Nat.le_of_ble_eq_true rfl⟩ (Nat.le_of_ble_eq_true rfl) ?_
  have b11 := ifd (0 ≤ a ∧ a ≤ 100)
  generalize (if 0 ≤ a ∧ a ≤ 100 then (1 : Int) else 0) = z11 at b11 ⊢
  refine g_if_ne (tgt := 23) dX13_setSharpness_14 (by decide) (by omega) (fun c_14 => ?_) (fun c_14 => ?_)
  · refine g_aload_n dX13_setSharpness_23 rfl rfl ?_
    have e2 : I2 204 x = I 204 x := by rw [hI2]; simp [g_up]
    refine g_callVw (i := 10) rfl (gK0 (by assumption)) (g_at10 (by assumption)) (k_M_save Y hM (by omega)) u_X13_save mw_1208 dX13_setSharpness_24 rfl rfl ⟨Nat.le_of_ble_eq_true rfl, Nat.le_of_ble_eq_true rfl⟩ ⟨Nat.le_of_ble_eq_true rfl, Nat.le_of_ble_eq_true rfl⟩ (Nat.le_of_ble_eq_true rfl) (fun v24 I24 A24 h24 => ?_)
    obtain ⟨rfl, i24, a24⟩ := h24
    have hws : w ≠ sv := fun e => by rw [e] at hNw; omega
    have eS : A24 w = A w := by rw [a24, g_rw_ne _ _ hws]
    rw [e2] at a24 i24
    rw [hI2] at i24
    refine g_aload_n dX13_setSharpness_27 rfl rfl ?_
    refine g_get_Model_w dX13_setSharpness_28 mw_1155 (by assumption) (by assumption) ?_
    refine g_bipush dX13_setSharpness_31 (by decide) ?_
    refine g_laload dX13_setSharpness_33 (by assumption) (by omega) (by omega) ?_
    refine g_l2i dX13_setSharpness_34 ?_
    refine g_istore_n dX13_setSharpness_35 rfl (by decide) ?_
    refine g_aload_n dX13_setSharpness_36 rfl rfl ?_
    refine g_get_Model_w dX13_setSharpness_37 mw_1155 (by assumption) (by assumption) ?_
    refine g_bipush dX13_setSharpness_40 (by decide) ?_
    refine g_iload_n dX13_setSharpness_42 rfl rfl ?_
    refine g_i2l dX13_setSharpness_43 (by omega) ?_
    refine g_lastore dX13_setSharpness_44 (by assumption) (by omega) (by omega) (fun A44 hA44 => ?_)
    have eA44 := congrFun (hA44.trans (g_uq_rw _ _ _ _)) w
    rw [g_rw_at] at eA44
    refine g_iload_n dX13_setSharpness_45 rfl rfl ?_
    exact g_iret dX13_setSharpness_46 rfl (by decide) (by decide) ⟨rfl, rfl, rfl, rfl, mOpP.yes (by first | (rw [if_pos (by omega)]; done) | (rw [if_neg (by omega), if_pos (by omega)]; done) | (rw [if_neg (by omega)]; done) | (rw [if_neg (by omega), if_neg (by omega), if_pos (by omega)]; done) | (rw [if_neg (by omega), if_neg (by omega)]; done) | (rw [if_neg (by omega), if_neg (by omega), if_neg (by omega), if_pos (by omega)]; done) | (rw [if_neg (by omega), if_neg (by omega), if_neg (by omega)]; done) | omega | rfl) ⟨by rw [eS]; try rw [Int.zero_add], i24, by rw [hA44]; simp only [g_uq_rw, g_rw_rw, g_rw_at]; rw [eS, a24]; try rw [Int.zero_add]⟩⟩
  · refine g_aload_n dX13_setSharpness_17 rfl rfl ?_
    refine g_iconst dX13_setSharpness_18 ?_
    refine g_callVw (i := 10) rfl (gK0 (by assumption)) (g_at10 (by assumption)) (k_M_refuse Y hM _) u_X13_refuse mw_1202 dX13_setSharpness_19 rfl rfl ⟨Nat.le_of_ble_eq_true rfl, Nat.le_of_ble_eq_true rfl⟩ ⟨Nat.le_of_ble_eq_true rfl, Nat.le_of_ble_eq_true rfl⟩ (Nat.le_of_ble_eq_true rfl) (fun v19 I19 A19 h19 => ?_)
    obtain ⟨rfl, e19, f19⟩ := h19
    exact g_iret dX13_setSharpness_22 rfl (by decide) (by decide) ⟨rfl, rfl, rfl, rfl, by rw [f19]; exact mOpP.no hI2 e19 (by first | (rw [if_pos (by omega)]; done) | (rw [if_neg (by omega), if_pos (by omega)]; done) | (rw [if_neg (by omega)]; done) | (rw [if_neg (by omega), if_neg (by omega), if_pos (by omega)]; done) | (rw [if_neg (by omega), if_neg (by omega)]; done) | (rw [if_neg (by omega), if_neg (by omega), if_neg (by omega), if_pos (by omega)]; done) | (rw [if_neg (by omega), if_neg (by omega), if_neg (by omega)]; done) | omega | rfl) (by omega)⟩
set_option maxHeartbeats 4000000 in
set_option maxRecDepth 100000 in
theorem k_M_setBoxSize (Y : gEnv) {K N : Nat → Nat} {I : Nat → Nat → Int} {A : Nat → Int → Int} {R : Nat → Nat → Option Nat} {Q : Nat → Int → Option Nat} {x w sv tx ag : Nat} (hM : mS K N R x w sv tx ag) (h0 : iN (A w)) (hm : mT (A w)) (hs : 0 ≤ I 204 x ∧ I 204 x ≤ 6) (a : Int) (ha : (-2147483648 ≤ a ∧ a ≤ 2147483647)) : gC Y yX13_setBoxSize cX13_setBoxSize 3 (some .int) ({ frames := 1, cells := 0, slots := 0, locals := 25 } : Room) [.ref x, vi a] K N I A R Q (g_wr K N R Q (fun v I' A' => mOpP I A x w sv (if ¬ (1 ≤ a ∧ a ≤ 50) then 1 else if 0 < sSum (fun l => A w (1050 + l)) (A w 1614).toNat 0 ∨ 0 < sumO (A w) then 2 else 0) (A w 89) (sU (A w) 89 a) v I' A')) gno := by
  refine gC_of (by decide) (Nat.le_of_ble_eq_true rfl) (fun X => ?_)
  obtain ⟨hKx, hRw, hRs, hRt, hRa, hKw, hNw, hKs, hNs, hKt, hNt, hKa, hNa, hta⟩ := id hM
  have hB : mB (A w) := hm.mB
  have n14 : 0 ≤ A w 1614 ∧ A w 1614 ≤ 160 := ⟨h0.2.2.2.2.1.1, h0.2.2.2.2.1.2.1⟩
  have n15 : 0 ≤ A w 1615 ∧ A w 1615 ≤ 40 := ⟨h0.2.2.2.2.2.1.1, h0.2.2.2.2.2.1.2.1⟩
  refine g_aload_n dX13_setBoxSize_0 rfl rfl ?_
  refine g_iconst dX13_setBoxSize_1 ?_
  refine g_put_Model_thrown dX13_setBoxSize_2 mw_1161 (by assumption) (fun I2 hI2 => ?_)
  refine g_iload_n dX13_setBoxSize_5 rfl rfl ?_
  refine g_i2l dX13_setBoxSize_6 (by omega) ?_
  refine g_lconst (c := 1) dX13_setBoxSize_7 (by decide) ?_
  refine g_ldc2 (c := 50) dX13_setBoxSize_8 mw_1239 (by decide) ?_
  refine g_callSp (k_M_in Y _ _ _ (by first | omega | exact m64 (hB _)) (by first | omega | exact m64 (hB _)) (by first | omega | exact m64 (hB _))) u_X13_in mw_1199 rfl dX13_setBoxSize_11 rfl rfl ⟨Nat.le_of_ble_eq_true rfl, Nat.le_of_ble_eq_true rfl⟩ ⟨Nat.le_of_ble_eq_true rfl, Nat.le_of_ble_eq_true rfl⟩ (Nat.le_of_ble_eq_true rfl) ?_
  have b11 := ifd (1 ≤ a ∧ a ≤ 50)
  generalize (if 1 ≤ a ∧ a ≤ 50 then (1 : Int) else 0) = z11 at b11 ⊢
  refine g_if_ne (tgt := 23) dX13_setBoxSize_14 (by decide) (by omega) (fun c_14 => ?_) (fun c_14 => ?_)
  · refine g_aload_n dX13_setBoxSize_23 rfl rfl ?_
    have hsu := h0.sums
    have hbx : 0 ≤ sSum (fun l => A w (1050 + l)) (A w 1614).toNat 0 ∧ sSum (fun l => A w (1050 + l)) (A w 1614).toNat 0 ≤ 1600000 := by
      have h1 := sSum_nnI (f := fun l => A w (1050 + l)) (n := A w 1614) (fun j a b => (h0.lot a b).2.1)
      have h2 := sSum_leq (f := fun l => A w (1050 + l)) (g := fun l => sContent (A w) l) (A w 1614).toNat 0 (fun j a b => by have := h0.lot a (show j < A w 1614 by omega); omega)
      have h3 : sumL (A w) = sSum (fun l => sContent (A w) l) (A w 1614).toNat 0 := rfl
      have hS := h0.2.2.2.2.2.2.1
      have h4 : 0 ≤ A w 1612 := hS.2.2.2.2.2.2.1
      omega
    have h12 : 0 ≤ A w 1612 := h0.2.2.2.2.2.2.1.2.2.2.2.2.2.1
    have h14 := h0.2.2.2.2.1.1
    have h14b := h0.2.2.2.2.1.2.1
    have h15 := h0.2.2.2.2.2.1.1
    have h15b := h0.2.2.2.2.2.1.2.1
    refine g_callVp (i := 10) rfl (gK0 (by assumption)) (g_at10 (by assumption)) (k_M_boxes Y hM hB (by omega)) u_X13_boxes mw_1240 dX13_setBoxSize_24 rfl rfl ⟨Nat.le_of_ble_eq_true rfl, Nat.le_of_ble_eq_true rfl⟩ ⟨Nat.le_of_ble_eq_true rfl, Nat.le_of_ble_eq_true rfl⟩ (Nat.le_of_ble_eq_true rfl) ?_
    refine g_lconst (c := 0) dX13_setBoxSize_27 (by decide) ?_
    refine g_lcmp_gt (tgt := 41) dX13_setBoxSize_28 dX13_setBoxSize_29 (by decide) (by omega) (by omega) (fun c_28 => ?_) (fun c_28 => ?_)
    · refine g_aload_n dX13_setBoxSize_41 rfl rfl ?_
      refine g_iconst dX13_setBoxSize_42 ?_
      refine g_callVw (i := 10) rfl (gK0 (by assumption)) (g_at10 (by assumption)) (k_M_refuse Y hM _) u_X13_refuse mw_1202 dX13_setBoxSize_43 rfl rfl ⟨Nat.le_of_ble_eq_true rfl, Nat.le_of_ble_eq_true rfl⟩ ⟨Nat.le_of_ble_eq_true rfl, Nat.le_of_ble_eq_true rfl⟩ (Nat.le_of_ble_eq_true rfl) (fun v43 I43 A43 h43 => ?_)
      obtain ⟨rfl, e43, f43⟩ := h43
      exact g_iret dX13_setBoxSize_46 rfl (by decide) (by decide) ⟨rfl, rfl, rfl, rfl, by rw [f43]; exact mOpP.no hI2 e43 (by first | (rw [if_pos (by omega)]; done) | (rw [if_neg (by omega), if_pos (by omega)]; done) | (rw [if_neg (by omega)]; done) | (rw [if_neg (by omega), if_neg (by omega), if_pos (by omega)]; done) | (rw [if_neg (by omega), if_neg (by omega)]; done) | (rw [if_neg (by omega), if_neg (by omega), if_neg (by omega), if_pos (by omega)]; done) | (rw [if_neg (by omega), if_neg (by omega), if_neg (by omega)]; done) | omega | rfl) (by omega)⟩
    · refine g_aload_n dX13_setBoxSize_32 rfl rfl ?_
      refine g_callVp (i := 10) rfl (gK0 (by assumption)) (g_at10 (by assumption)) (k_M_boxesOut Y hM hB (by omega)) u_X13_boxesOut mw_1244 dX13_setBoxSize_33 rfl rfl ⟨Nat.le_of_ble_eq_true rfl, Nat.le_of_ble_eq_true rfl⟩ ⟨Nat.le_of_ble_eq_true rfl, Nat.le_of_ble_eq_true rfl⟩ (Nat.le_of_ble_eq_true rfl) ?_
      rw [show sSum (fun l => A w (1450 + l)) (A w 1615).toNat 0 = sumO (A w) from rfl]
      refine g_lconst (c := 0) dX13_setBoxSize_36 (by decide) ?_
      refine g_lcmp_le (tgt := 47) dX13_setBoxSize_37 dX13_setBoxSize_38 (by decide) (by omega) (by omega) (fun c_37 => ?_) (fun c_37 => ?_)
      · refine g_aload_n dX13_setBoxSize_47 rfl rfl ?_
        have e2 : I2 204 x = I 204 x := by rw [hI2]; simp [g_up]
        refine g_callVw (i := 10) rfl (gK0 (by assumption)) (g_at10 (by assumption)) (k_M_save Y hM (by omega)) u_X13_save mw_1208 dX13_setBoxSize_48 rfl rfl ⟨Nat.le_of_ble_eq_true rfl, Nat.le_of_ble_eq_true rfl⟩ ⟨Nat.le_of_ble_eq_true rfl, Nat.le_of_ble_eq_true rfl⟩ (Nat.le_of_ble_eq_true rfl) (fun v48 I48 A48 h48 => ?_)
        obtain ⟨rfl, i48, a48⟩ := h48
        have hws : w ≠ sv := fun e => by rw [e] at hNw; omega
        have eS : A48 w = A w := by rw [a48, g_rw_ne _ _ hws]
        rw [e2] at a48 i48
        rw [hI2] at i48
        refine g_aload_n dX13_setBoxSize_51 rfl rfl ?_
        refine g_get_Model_w dX13_setBoxSize_52 mw_1155 (by assumption) (by assumption) ?_
        refine g_bipush dX13_setBoxSize_55 (by decide) ?_
        refine g_laload dX13_setBoxSize_57 (by assumption) (by omega) (by omega) ?_
        refine g_l2i dX13_setBoxSize_58 ?_
        refine g_istore_n dX13_setBoxSize_59 rfl (by decide) ?_
        refine g_aload_n dX13_setBoxSize_60 rfl rfl ?_
        refine g_get_Model_w dX13_setBoxSize_61 mw_1155 (by assumption) (by assumption) ?_
        refine g_bipush dX13_setBoxSize_64 (by decide) ?_
        refine g_iload_n dX13_setBoxSize_66 rfl rfl ?_
        refine g_i2l dX13_setBoxSize_67 (by omega) ?_
        refine g_lastore dX13_setBoxSize_68 (by assumption) (by omega) (by omega) (fun A68 hA68 => ?_)
        have eA68 := congrFun (hA68.trans (g_uq_rw _ _ _ _)) w
        rw [g_rw_at] at eA68
        refine g_iload_n dX13_setBoxSize_69 rfl rfl ?_
        exact g_iret dX13_setBoxSize_70 rfl (by decide) (by decide) ⟨rfl, rfl, rfl, rfl, mOpP.yes (by first | (rw [if_pos (by omega)]; done) | (rw [if_neg (by omega), if_pos (by omega)]; done) | (rw [if_neg (by omega)]; done) | (rw [if_neg (by omega), if_neg (by omega), if_pos (by omega)]; done) | (rw [if_neg (by omega), if_neg (by omega)]; done) | (rw [if_neg (by omega), if_neg (by omega), if_neg (by omega), if_pos (by omega)]; done) | (rw [if_neg (by omega), if_neg (by omega), if_neg (by omega)]; done) | omega | rfl) ⟨by rw [eS]; try rw [Int.zero_add], i48, by rw [hA68]; simp only [g_uq_rw, g_rw_rw, g_rw_at]; rw [eS, a48]; try rw [Int.zero_add]⟩⟩
      · refine g_aload_n dX13_setBoxSize_41 rfl rfl ?_
        refine g_iconst dX13_setBoxSize_42 ?_
        refine g_callVw (i := 10) rfl (gK0 (by assumption)) (g_at10 (by assumption)) (k_M_refuse Y hM _) u_X13_refuse mw_1202 dX13_setBoxSize_43 rfl rfl ⟨Nat.le_of_ble_eq_true rfl, Nat.le_of_ble_eq_true rfl⟩ ⟨Nat.le_of_ble_eq_true rfl, Nat.le_of_ble_eq_true rfl⟩ (Nat.le_of_ble_eq_true rfl) (fun v43 I43 A43 h43 => ?_)
        obtain ⟨rfl, e43, f43⟩ := h43
        exact g_iret dX13_setBoxSize_46 rfl (by decide) (by decide) ⟨rfl, rfl, rfl, rfl, by rw [f43]; exact mOpP.no hI2 e43 (by first | (rw [if_pos (by omega)]; done) | (rw [if_neg (by omega), if_pos (by omega)]; done) | (rw [if_neg (by omega)]; done) | (rw [if_neg (by omega), if_neg (by omega), if_pos (by omega)]; done) | (rw [if_neg (by omega), if_neg (by omega)]; done) | (rw [if_neg (by omega), if_neg (by omega), if_neg (by omega), if_pos (by omega)]; done) | (rw [if_neg (by omega), if_neg (by omega), if_neg (by omega)]; done) | omega | rfl) (by omega)⟩
  · refine g_aload_n dX13_setBoxSize_17 rfl rfl ?_
    refine g_iconst dX13_setBoxSize_18 ?_
    refine g_callVw (i := 10) rfl (gK0 (by assumption)) (g_at10 (by assumption)) (k_M_refuse Y hM _) u_X13_refuse mw_1202 dX13_setBoxSize_19 rfl rfl ⟨Nat.le_of_ble_eq_true rfl, Nat.le_of_ble_eq_true rfl⟩ ⟨Nat.le_of_ble_eq_true rfl, Nat.le_of_ble_eq_true rfl⟩ (Nat.le_of_ble_eq_true rfl) (fun v19 I19 A19 h19 => ?_)
    obtain ⟨rfl, e19, f19⟩ := h19
    exact g_iret dX13_setBoxSize_22 rfl (by decide) (by decide) ⟨rfl, rfl, rfl, rfl, by rw [f19]; exact mOpP.no hI2 e19 (by first | (rw [if_pos (by omega)]; done) | (rw [if_neg (by omega), if_pos (by omega)]; done) | (rw [if_neg (by omega)]; done) | (rw [if_neg (by omega), if_neg (by omega), if_pos (by omega)]; done) | (rw [if_neg (by omega), if_neg (by omega)]; done) | (rw [if_neg (by omega), if_neg (by omega), if_neg (by omega), if_pos (by omega)]; done) | (rw [if_neg (by omega), if_neg (by omega), if_neg (by omega)]; done) | omega | rfl) (by omega)⟩
set_option maxHeartbeats 4000000 in
set_option maxRecDepth 100000 in
theorem k_M_fire (Y : gEnv) {K N : Nat → Nat} {I : Nat → Nat → Int} {A : Nat → Int → Int} {R : Nat → Nat → Option Nat} {Q : Nat → Int → Option Nat} {x w sv tx ag : Nat} (hM : mS K N R x w sv tx ag) (h0 : iN (A w)) (hm : mT (A w)) (hs : 0 ≤ I 204 x ∧ I 204 x ≤ 6) (a : Int) (b : Int) (c : Int) (d : Int) (ha : (-2147483648 ≤ a ∧ a ≤ 2147483647)) (hb : (-2147483648 ≤ b ∧ b ≤ 2147483647)) (hc : (-2147483648 ≤ c ∧ c ≤ 2147483647)) (hd : (-2147483648 ≤ d ∧ d ≤ 2147483647)) : gC Y yX13_fire cX13_fire 6 (some .int) ({ frames := 3, cells := 0, slots := 0, locals := 83 } : Room) [.ref x, vi a, vi b, vi c, vi d] K N I A R Q (g_wr K N R Q (fun v I' A' => mOpP I A x w sv (sFireT (A w) a b c d) (sFireV (A w) a d 8 0) (sFire (A w) a b c d) v I' A')) gno := by
  refine gC_of (by decide) (Nat.le_of_ble_eq_true rfl) (fun X => ?_)
  obtain ⟨hKx, hRw, hRs, hRt, hRa, hKw, hNw, hKs, hNs, hKt, hNt, hKa, hNa, hta⟩ := id hM
  have hB : mB (A w) := hm.mB
  have n14 : 0 ≤ A w 1614 ∧ A w 1614 ≤ 160 := ⟨h0.2.2.2.2.1.1, h0.2.2.2.2.1.2.1⟩
  have n15 : 0 ≤ A w 1615 ∧ A w 1615 ≤ 40 := ⟨h0.2.2.2.2.2.1.1, h0.2.2.2.2.2.1.2.1⟩
  refine g_aload_n dX13_fire_0 rfl rfl ?_
  refine g_iconst dX13_fire_1 ?_
  refine g_put_Model_thrown dX13_fire_2 mw_1161 (by assumption) (fun I2 hI2 => ?_)
  refine g_aload_n dX13_fire_5 rfl rfl ?_
  refine g_iload_n dX13_fire_6 rfl rfl ?_
  refine g_iload_n dX13_fire_7 rfl rfl ?_
  refine g_iload_n dX13_fire_8 rfl rfl ?_
  refine g_iload dX13_fire_9 rfl ?_
  refine g_callVp (i := 10) rfl (gK0 (by assumption)) (g_at10 (by assumption)) (k_M_fireThrows Y hM hB _ _ _ _ (by omega) (by omega) (by omega) (by omega)) u_X13_fireThrows mw_1252 dX13_fire_11 rfl rfl ⟨Nat.le_of_ble_eq_true rfl, Nat.le_of_ble_eq_true rfl⟩ ⟨Nat.le_of_ble_eq_true rfl, Nat.le_of_ble_eq_true rfl⟩ (Nat.le_of_ble_eq_true rfl) ?_
  have hct := sFireT_range (A w) a b c d
  generalize hcode : (sFireT (A w) a b c d) = cd at hct ⊢
  refine g_istore dX13_fire_14 (by decide) ?_
  refine g_iload dX13_fire_16 rfl ?_
  refine g_if_le (tgt := 28) dX13_fire_18 (by decide) (by omega) (fun c_18 => ?_) (fun c_18 => ?_)
  · refine g_aload_n dX13_fire_28 rfl rfl ?_
    have e2 : I2 204 x = I 204 x := by rw [hI2]; simp [g_up]
    obtain ⟨hc0, hc1, hok⟩ := hct
    have hok := hok (by omega)
    refine g_callVw (i := 10) rfl (gK0 (by assumption)) (g_at10 (by assumption)) (k_M_save Y hM (by omega)) u_X13_save mw_1208 dX13_fire_29 rfl rfl ⟨Nat.le_of_ble_eq_true rfl, Nat.le_of_ble_eq_true rfl⟩ ⟨Nat.le_of_ble_eq_true rfl, Nat.le_of_ble_eq_true rfl⟩ (Nat.le_of_ble_eq_true rfl) (fun v29 I29 A29 h29 => ?_)
    obtain ⟨rfl, i29, a29⟩ := h29
    have hws : w ≠ sv := fun e => by rw [e] at hNw; omega
    have eS : A29 w = A w := by rw [a29, g_rw_ne _ _ hws]
    rw [e2] at a29 i29
    rw [hI2] at i29
    refine g_aload_n dX13_fire_32 rfl rfl ?_
    refine g_iload_n dX13_fire_33 rfl rfl ?_
    refine g_iload_n dX13_fire_34 rfl rfl ?_
    refine g_iload_n dX13_fire_35 rfl rfl ?_
    refine g_iload dX13_fire_36 rfl ?_
    have hf0 := h0.2.2.2.2.2.2.1.2.2.2.2.2.1
    refine g_callVw (i := 10) rfl (gK0 (by assumption)) (g_at10 (by assumption)) (k_M_doFire Y hM (by rw [eS]; exact h0) a b c d (by omega) (by omega) (by omega) (by omega) (by rw [eS]; omega) (by rw [eS]; exact hm)) u_X13_doFire mw_1259 dX13_fire_38 rfl rfl ⟨Nat.le_of_ble_eq_true rfl, Nat.le_of_ble_eq_true rfl⟩ ⟨Nat.le_of_ble_eq_true rfl, Nat.le_of_ble_eq_true rfl⟩ (Nat.le_of_ble_eq_true rfl) (fun v38 I38 A38 h38 => ?_)
    obtain ⟨rfl, rfl, h38⟩ := h38
    exact g_iret dX13_fire_41 rfl (by decide) (by decide) ⟨rfl, rfl, rfl, rfl, mOpP.yes (by omega) ⟨by rw [eS], i29, by rw [h38, eS, a29]⟩⟩
  · refine g_aload_n dX13_fire_21 rfl rfl ?_
    refine g_iload dX13_fire_22 rfl ?_
    refine g_callVw (i := 10) rfl (gK0 (by assumption)) (g_at10 (by assumption)) (k_M_refuse Y hM _) u_X13_refuse mw_1202 dX13_fire_24 rfl rfl ⟨Nat.le_of_ble_eq_true rfl, Nat.le_of_ble_eq_true rfl⟩ ⟨Nat.le_of_ble_eq_true rfl, Nat.le_of_ble_eq_true rfl⟩ (Nat.le_of_ble_eq_true rfl) (fun v24 I24 A24 h24 => ?_)
    obtain ⟨rfl, e24, f24⟩ := h24
    exact g_iret dX13_fire_27 rfl (by decide) (by decide) ⟨rfl, rfl, rfl, rfl, by rw [f24]; exact mOpP.no hI2 e24 rfl (by omega)⟩
set_option maxHeartbeats 4000000 in
set_option maxRecDepth 100000 in
theorem k_M_grade (Y : gEnv) {K N : Nat → Nat} {I : Nat → Nat → Int} {A : Nat → Int → Int} {R : Nat → Nat → Option Nat} {Q : Nat → Int → Option Nat} {x w sv tx ag : Nat} (hM : mS K N R x w sv tx ag) (h0 : iN (A w)) (hm : mT (A w)) (hs : 0 ≤ I 204 x ∧ I 204 x ≤ 6) (hz : iZ (A w)) (a : Int) (ha : (-2147483648 ≤ a ∧ a ≤ 2147483647)) : gC Y yX13_grade cX13_grade 3 (some .int) ({ frames := 3, cells := 0, slots := 0, locals := 80 } : Room) [.ref x, vi a] K N I A R Q (g_wr K N R Q (fun v I' A' => mOpP I A x w sv (sGradeT (A w) a) (sGrV (A w) a (A w 1613).toNat 0) (sGrade (A w) a) v I' A')) gno := by
  refine gC_of (by decide) (Nat.le_of_ble_eq_true rfl) (fun X => ?_)
  obtain ⟨hKx, hRw, hRs, hRt, hRa, hKw, hNw, hKs, hNs, hKt, hNt, hKa, hNa, hta⟩ := id hM
  have hB : mB (A w) := hm.mB
  have n14 : 0 ≤ A w 1614 ∧ A w 1614 ≤ 160 := ⟨h0.2.2.2.2.1.1, h0.2.2.2.2.1.2.1⟩
  have n15 : 0 ≤ A w 1615 ∧ A w 1615 ≤ 40 := ⟨h0.2.2.2.2.2.1.1, h0.2.2.2.2.2.1.2.1⟩
  refine g_aload_n dX13_grade_0 rfl rfl ?_
  refine g_iconst dX13_grade_1 ?_
  refine g_put_Model_thrown dX13_grade_2 mw_1161 (by assumption) (fun I2 hI2 => ?_)
  refine g_aload_n dX13_grade_5 rfl rfl ?_
  refine g_iload_n dX13_grade_6 rfl rfl ?_
  refine g_callVp (i := 10) rfl (gK0 (by assumption)) (g_at10 (by assumption)) (k_M_gradeThrows Y hM hB _ (by omega)) u_X13_gradeThrows mw_1283 dX13_grade_7 rfl rfl ⟨Nat.le_of_ble_eq_true rfl, Nat.le_of_ble_eq_true rfl⟩ ⟨Nat.le_of_ble_eq_true rfl, Nat.le_of_ble_eq_true rfl⟩ (Nat.le_of_ble_eq_true rfl) ?_
  have hct := sGradeT_range (A w) a
  generalize hcode : (sGradeT (A w) a) = cd at hct ⊢
  refine g_istore_n dX13_grade_10 rfl (by decide) ?_
  refine g_iload_n dX13_grade_11 rfl rfl ?_
  refine g_if_le (tgt := 21) dX13_grade_12 (by decide) (by omega) (fun c_12 => ?_) (fun c_12 => ?_)
  · refine g_aload_n dX13_grade_21 rfl rfl ?_
    have e2 : I2 204 x = I 204 x := by rw [hI2]; simp [g_up]
    obtain ⟨hc0, hc1, hok⟩ := hct
    have hok := hok (by omega)
    refine g_callVw (i := 10) rfl (gK0 (by assumption)) (g_at10 (by assumption)) (k_M_save Y hM (by omega)) u_X13_save mw_1208 dX13_grade_22 rfl rfl ⟨Nat.le_of_ble_eq_true rfl, Nat.le_of_ble_eq_true rfl⟩ ⟨Nat.le_of_ble_eq_true rfl, Nat.le_of_ble_eq_true rfl⟩ (Nat.le_of_ble_eq_true rfl) (fun v22 I22 A22 h22 => ?_)
    obtain ⟨rfl, i22, a22⟩ := h22
    have hws : w ≠ sv := fun e => by rw [e] at hNw; omega
    have eS : A22 w = A w := by rw [a22, g_rw_ne _ _ hws]
    rw [e2] at a22 i22
    rw [hI2] at i22
    refine g_aload_n dX13_grade_25 rfl rfl ?_
    refine g_iload_n dX13_grade_26 rfl rfl ?_
    skip
    refine g_callVw (i := 10) rfl (gK0 (by assumption)) (g_at10 (by assumption)) (k_M_doGrade Y hM (by rw [eS]; exact h0) a (by omega) (by rw [eS]; exact hm) (by rw [eS]; exact hz)) u_X13_doGrade mw_1287 dX13_grade_27 rfl rfl ⟨Nat.le_of_ble_eq_true rfl, Nat.le_of_ble_eq_true rfl⟩ ⟨Nat.le_of_ble_eq_true rfl, Nat.le_of_ble_eq_true rfl⟩ (Nat.le_of_ble_eq_true rfl) (fun v27 I27 A27 h27 => ?_)
    obtain ⟨rfl, rfl, h27⟩ := h27
    exact g_iret dX13_grade_30 rfl (by decide) (by decide) ⟨rfl, rfl, rfl, rfl, mOpP.yes (by omega) ⟨by rw [eS], i22, by rw [h27, eS, a22]⟩⟩
  · refine g_aload_n dX13_grade_15 rfl rfl ?_
    refine g_iload_n dX13_grade_16 rfl rfl ?_
    refine g_callVw (i := 10) rfl (gK0 (by assumption)) (g_at10 (by assumption)) (k_M_refuse Y hM _) u_X13_refuse mw_1202 dX13_grade_17 rfl rfl ⟨Nat.le_of_ble_eq_true rfl, Nat.le_of_ble_eq_true rfl⟩ ⟨Nat.le_of_ble_eq_true rfl, Nat.le_of_ble_eq_true rfl⟩ (Nat.le_of_ble_eq_true rfl) (fun v17 I17 A17 h17 => ?_)
    obtain ⟨rfl, e17, f17⟩ := h17
    exact g_iret dX13_grade_20 rfl (by decide) (by decide) ⟨rfl, rfl, rfl, rfl, by rw [f17]; exact mOpP.no hI2 e17 rfl (by omega)⟩
set_option maxHeartbeats 4000000 in
set_option maxRecDepth 100000 in
theorem k_M_deliver (Y : gEnv) {K N : Nat → Nat} {I : Nat → Nat → Int} {A : Nat → Int → Int} {R : Nat → Nat → Option Nat} {Q : Nat → Int → Option Nat} {x w sv tx ag : Nat} (hM : mS K N R x w sv tx ag) (h0 : iN (A w)) (hm : mT (A w)) (hs : 0 ≤ I 204 x ∧ I 204 x ≤ 6) (a : Int) (b : Int) (c : Int) (ha : (-2147483648 ≤ a ∧ a ≤ 2147483647)) (hb : (-2147483648 ≤ b ∧ b ≤ 2147483647)) (hc : (-2147483648 ≤ c ∧ c ≤ 2147483647)) : gC Y yX13_deliver cX13_deliver 5 (some .int) ({ frames := 3, cells := 0, slots := 0, locals := 71 } : Room) [.ref x, vi a, vi b, vi c] K N I A R Q (g_wr K N R Q (fun v I' A' => mOpP I A x w sv (sDeliverT (A w) a b c) (A w 1615) (sDel (A w) a b c) v I' A')) gno := by
  refine gC_of (by decide) (Nat.le_of_ble_eq_true rfl) (fun X => ?_)
  obtain ⟨hKx, hRw, hRs, hRt, hRa, hKw, hNw, hKs, hNs, hKt, hNt, hKa, hNa, hta⟩ := id hM
  have hB : mB (A w) := hm.mB
  have n14 : 0 ≤ A w 1614 ∧ A w 1614 ≤ 160 := ⟨h0.2.2.2.2.1.1, h0.2.2.2.2.1.2.1⟩
  have n15 : 0 ≤ A w 1615 ∧ A w 1615 ≤ 40 := ⟨h0.2.2.2.2.2.1.1, h0.2.2.2.2.2.1.2.1⟩
  refine g_aload_n dX13_deliver_0 rfl rfl ?_
  refine g_iconst dX13_deliver_1 ?_
  refine g_put_Model_thrown dX13_deliver_2 mw_1161 (by assumption) (fun I2 hI2 => ?_)
  refine g_aload_n dX13_deliver_5 rfl rfl ?_
  refine g_iload_n dX13_deliver_6 rfl rfl ?_
  refine g_iload_n dX13_deliver_7 rfl rfl ?_
  refine g_iload_n dX13_deliver_8 rfl rfl ?_
  refine g_callVp (i := 10) rfl (gK0 (by assumption)) (g_at10 (by assumption)) (k_M_deliverThrows Y hM hB (by omega) _ _ _ (by omega) (by omega) (by omega)) u_X13_deliverThrows mw_1316 dX13_deliver_9 rfl rfl ⟨Nat.le_of_ble_eq_true rfl, Nat.le_of_ble_eq_true rfl⟩ ⟨Nat.le_of_ble_eq_true rfl, Nat.le_of_ble_eq_true rfl⟩ (Nat.le_of_ble_eq_true rfl) ?_
  have hct := sDeliverT_range (A w) a b c
  generalize hcode : (sDeliverT (A w) a b c) = cd at hct ⊢
  refine g_istore dX13_deliver_12 (by decide) ?_
  refine g_iload dX13_deliver_14 rfl ?_
  refine g_if_le (tgt := 26) dX13_deliver_16 (by decide) (by omega) (fun c_16 => ?_) (fun c_16 => ?_)
  · refine g_aload_n dX13_deliver_26 rfl rfl ?_
    have e2 : I2 204 x = I 204 x := by rw [hI2]; simp [g_up]
    obtain ⟨hc0, hc1, hok⟩ := hct
    have hok := hok (by omega)
    refine g_callVw (i := 10) rfl (gK0 (by assumption)) (g_at10 (by assumption)) (k_M_save Y hM (by omega)) u_X13_save mw_1208 dX13_deliver_27 rfl rfl ⟨Nat.le_of_ble_eq_true rfl, Nat.le_of_ble_eq_true rfl⟩ ⟨Nat.le_of_ble_eq_true rfl, Nat.le_of_ble_eq_true rfl⟩ (Nat.le_of_ble_eq_true rfl) (fun v27 I27 A27 h27 => ?_)
    obtain ⟨rfl, i27, a27⟩ := h27
    have hws : w ≠ sv := fun e => by rw [e] at hNw; omega
    have eS : A27 w = A w := by rw [a27, g_rw_ne _ _ hws]
    rw [e2] at a27 i27
    rw [hI2] at i27
    refine g_aload_n dX13_deliver_30 rfl rfl ?_
    refine g_iload_n dX13_deliver_31 rfl rfl ?_
    refine g_iload_n dX13_deliver_32 rfl rfl ?_
    refine g_iload_n dX13_deliver_33 rfl rfl ?_
    have hd40 := h0.2.2.2.2.2.1.2.1
    have hlf := (sLotFor_range h0.2.2.2.2.1.1 a b c).resolve_left (by omega)
    refine g_callVw (i := 10) rfl (gK0 (by assumption)) (g_at10 (by assumption)) (k_M_doDeliver Y hM (by rw [eS]; exact h0) (by rw [eS]; exact hm) a b c (by omega) (by omega) (by omega) (by rw [eS]; omega) (by rw [eS]; exact hlf)) u_X13_doDeliver mw_1331 dX13_deliver_34 rfl rfl ⟨Nat.le_of_ble_eq_true rfl, Nat.le_of_ble_eq_true rfl⟩ ⟨Nat.le_of_ble_eq_true rfl, Nat.le_of_ble_eq_true rfl⟩ (Nat.le_of_ble_eq_true rfl) (fun v34 I34 A34 h34 => ?_)
    obtain ⟨rfl, rfl, h34⟩ := h34
    exact g_iret dX13_deliver_37 rfl (by decide) (by decide) ⟨rfl, rfl, rfl, rfl, mOpP.yes (by omega) ⟨by rw [eS], i27, by rw [h34, eS, a27]⟩⟩
  · refine g_aload_n dX13_deliver_19 rfl rfl ?_
    refine g_iload dX13_deliver_20 rfl ?_
    refine g_callVw (i := 10) rfl (gK0 (by assumption)) (g_at10 (by assumption)) (k_M_refuse Y hM _) u_X13_refuse mw_1202 dX13_deliver_22 rfl rfl ⟨Nat.le_of_ble_eq_true rfl, Nat.le_of_ble_eq_true rfl⟩ ⟨Nat.le_of_ble_eq_true rfl, Nat.le_of_ble_eq_true rfl⟩ (Nat.le_of_ble_eq_true rfl) (fun v22 I22 A22 h22 => ?_)
    obtain ⟨rfl, e22, f22⟩ := h22
    exact g_iret dX13_deliver_25 rfl (by decide) (by decide) ⟨rfl, rfl, rfl, rfl, by rw [f22]; exact mOpP.no hI2 e22 rfl (by omega)⟩
set_option maxHeartbeats 4000000 in
set_option maxRecDepth 100000 in
theorem k_M_drop (Y : gEnv) {K N : Nat → Nat} {I : Nat → Nat → Int} {A : Nat → Int → Int} {R : Nat → Nat → Option Nat} {Q : Nat → Int → Option Nat} {x w sv tx ag : Nat} (hM : mS K N R x w sv tx ag) (h0 : iN (A w)) (hm : mT (A w)) (hs : 0 ≤ I 204 x ∧ I 204 x ≤ 6) (a : Int) (b : Int) (c : Int) (d : Int) (ha : (-2147483648 ≤ a ∧ a ≤ 2147483647)) (hb : (-2147483648 ≤ b ∧ b ≤ 2147483647)) (hc : (-2147483648 ≤ c ∧ c ≤ 2147483647)) (hd : (-2147483648 ≤ d ∧ d ≤ 2147483647)) : gC Y yX13_drop cX13_drop 6 (some .int) ({ frames := 3, cells := 0, slots := 0, locals := 71 } : Room) [.ref x, vi a, vi b, vi c, vi d] K N I A R Q (g_wr K N R Q (fun v I' A' => mOpP I A x w sv (sDropT (A w) a b c d) (A w (1050 + sFind (A w) a b c) - 1) (sDrop (A w) a b c d) v I' A')) gno := by
  refine gC_of (by decide) (Nat.le_of_ble_eq_true rfl) (fun X => ?_)
  obtain ⟨hKx, hRw, hRs, hRt, hRa, hKw, hNw, hKs, hNs, hKt, hNt, hKa, hNa, hta⟩ := id hM
  have hB : mB (A w) := hm.mB
  have n14 : 0 ≤ A w 1614 ∧ A w 1614 ≤ 160 := ⟨h0.2.2.2.2.1.1, h0.2.2.2.2.1.2.1⟩
  have n15 : 0 ≤ A w 1615 ∧ A w 1615 ≤ 40 := ⟨h0.2.2.2.2.2.1.1, h0.2.2.2.2.2.1.2.1⟩
  refine g_aload_n dX13_drop_0 rfl rfl ?_
  refine g_iconst dX13_drop_1 ?_
  refine g_put_Model_thrown dX13_drop_2 mw_1161 (by assumption) (fun I2 hI2 => ?_)
  refine g_aload_n dX13_drop_5 rfl rfl ?_
  refine g_iload_n dX13_drop_6 rfl rfl ?_
  refine g_iload_n dX13_drop_7 rfl rfl ?_
  refine g_iload_n dX13_drop_8 rfl rfl ?_
  refine g_iload dX13_drop_9 rfl ?_
  refine g_callVp (i := 10) rfl (gK0 (by assumption)) (g_at10 (by assumption)) (k_M_dropThrows Y hM hB (by omega) _ _ _ _ (by omega) (by omega) (by omega) (by omega)) u_X13_dropThrows mw_1351 dX13_drop_11 rfl rfl ⟨Nat.le_of_ble_eq_true rfl, Nat.le_of_ble_eq_true rfl⟩ ⟨Nat.le_of_ble_eq_true rfl, Nat.le_of_ble_eq_true rfl⟩ (Nat.le_of_ble_eq_true rfl) ?_
  have hct := sDropT_range (A w) a b c d
  generalize hcode : (sDropT (A w) a b c d) = cd at hct ⊢
  refine g_istore dX13_drop_14 (by decide) ?_
  refine g_iload dX13_drop_16 rfl ?_
  refine g_if_le (tgt := 28) dX13_drop_18 (by decide) (by omega) (fun c_18 => ?_) (fun c_18 => ?_)
  · refine g_aload_n dX13_drop_28 rfl rfl ?_
    have e2 : I2 204 x = I 204 x := by rw [hI2]; simp [g_up]
    obtain ⟨hc0, hc1, hok⟩ := hct
    have hok := hok (by omega)
    refine g_callVw (i := 10) rfl (gK0 (by assumption)) (g_at10 (by assumption)) (k_M_save Y hM (by omega)) u_X13_save mw_1208 dX13_drop_29 rfl rfl ⟨Nat.le_of_ble_eq_true rfl, Nat.le_of_ble_eq_true rfl⟩ ⟨Nat.le_of_ble_eq_true rfl, Nat.le_of_ble_eq_true rfl⟩ (Nat.le_of_ble_eq_true rfl) (fun v29 I29 A29 h29 => ?_)
    obtain ⟨rfl, i29, a29⟩ := h29
    have hws : w ≠ sv := fun e => by rw [e] at hNw; omega
    have eS : A29 w = A w := by rw [a29, g_rw_ne _ _ hws]
    rw [e2] at a29 i29
    rw [hI2] at i29
    refine g_aload_n dX13_drop_32 rfl rfl ?_
    refine g_iload_n dX13_drop_33 rfl rfl ?_
    refine g_iload_n dX13_drop_34 rfl rfl ?_
    refine g_iload_n dX13_drop_35 rfl rfl ?_
    refine g_iload dX13_drop_36 rfl ?_
    have hlf := (sFind_range h0.2.2.2.2.1.1 a b c).resolve_left (by omega)
    refine g_callVw (i := 10) rfl (gK0 (by assumption)) (g_at10 (by assumption)) (k_M_doDrop Y hM (by rw [eS]; exact h0) (by rw [eS]; exact hm) a b c d (by omega) (by omega) (by omega) (by rw [eS]; omega) (by rw [eS]; exact ⟨hlf.1, hlf.2.1⟩) (by rw [eS]; omega)) u_X13_doDrop mw_1355 dX13_drop_38 rfl rfl ⟨Nat.le_of_ble_eq_true rfl, Nat.le_of_ble_eq_true rfl⟩ ⟨Nat.le_of_ble_eq_true rfl, Nat.le_of_ble_eq_true rfl⟩ (Nat.le_of_ble_eq_true rfl) (fun v38 I38 A38 h38 => ?_)
    obtain ⟨rfl, rfl, h38⟩ := h38
    exact g_iret dX13_drop_41 rfl (by decide) (by decide) ⟨rfl, rfl, rfl, rfl, mOpP.yes (by omega) ⟨by rw [eS], i29, by rw [h38, eS, a29]⟩⟩
  · refine g_aload_n dX13_drop_21 rfl rfl ?_
    refine g_iload dX13_drop_22 rfl ?_
    refine g_callVw (i := 10) rfl (gK0 (by assumption)) (g_at10 (by assumption)) (k_M_refuse Y hM _) u_X13_refuse mw_1202 dX13_drop_24 rfl rfl ⟨Nat.le_of_ble_eq_true rfl, Nat.le_of_ble_eq_true rfl⟩ ⟨Nat.le_of_ble_eq_true rfl, Nat.le_of_ble_eq_true rfl⟩ (Nat.le_of_ble_eq_true rfl) (fun v24 I24 A24 h24 => ?_)
    obtain ⟨rfl, e24, f24⟩ := h24
    exact g_iret dX13_drop_27 rfl (by decide) (by decide) ⟨rfl, rfl, rfl, rfl, by rw [f24]; exact mOpP.no hI2 e24 rfl (by omega)⟩
set_option maxHeartbeats 4000000 in
set_option maxRecDepth 100000 in
theorem k_M_pack (Y : gEnv) {K N : Nat → Nat} {I : Nat → Nat → Int} {A : Nat → Int → Int} {R : Nat → Nat → Option Nat} {Q : Nat → Int → Option Nat} {x w sv tx ag : Nat} (hM : mS K N R x w sv tx ag) (h0 : iN (A w)) (hm : mT (A w)) (hs : 0 ≤ I 204 x ∧ I 204 x ≤ 6)  : gC Y yX13_pack cX13_pack 1 (some .int) ({ frames := 1, cells := 0, slots := 0, locals := 25 } : Room) [.ref x] K N I A R Q (g_wr K N R Q (fun v I' A' => mOpP I A x w sv 0 (sSum (fun l => (A w (890 + l)).tdiv (A w 89)) (A w 1614).toNat 0) (sPack (A w)) v I' A')) gno := by
  refine gC_of (by decide) (Nat.le_of_ble_eq_true rfl) (fun X => ?_)
  obtain ⟨hKx, hRw, hRs, hRt, hRa, hKw, hNw, hKs, hNs, hKt, hNt, hKa, hNa, hta⟩ := id hM
  have hB : mB (A w) := hm.mB
  have n14 : 0 ≤ A w 1614 ∧ A w 1614 ≤ 160 := ⟨h0.2.2.2.2.1.1, h0.2.2.2.2.1.2.1⟩
  have n15 : 0 ≤ A w 1615 ∧ A w 1615 ≤ 40 := ⟨h0.2.2.2.2.2.1.1, h0.2.2.2.2.2.1.2.1⟩
  refine g_aload_n dX13_pack_0 rfl rfl ?_
  refine g_iconst dX13_pack_1 ?_
  refine g_put_Model_thrown dX13_pack_2 mw_1161 (by assumption) (fun I2 hI2 => ?_)
  refine g_aload_n dX13_pack_5 rfl rfl ?_
  have e2 : I2 204 x = I 204 x := by rw [hI2]; simp [g_up]
  refine g_callVw (i := 10) rfl (gK0 (by assumption)) (g_at10 (by assumption)) (k_M_save Y hM (by omega)) u_X13_save mw_1208 dX13_pack_6 rfl rfl ⟨Nat.le_of_ble_eq_true rfl, Nat.le_of_ble_eq_true rfl⟩ ⟨Nat.le_of_ble_eq_true rfl, Nat.le_of_ble_eq_true rfl⟩ (Nat.le_of_ble_eq_true rfl) (fun v6 I6 A6 h6 => ?_)
  obtain ⟨rfl, i6, a6⟩ := h6
  have hws : w ≠ sv := fun e => by rw [e] at hNw; omega
  have eS : A6 w = A w := by rw [a6, g_rw_ne _ _ hws]
  rw [e2] at a6 i6
  rw [hI2] at i6
  refine g_aload_n dX13_pack_9 rfl rfl ?_
  have hS := h0.2.2.2.2.2.2.1
  refine g_callVw (i := 10) rfl (gK0 (by assumption)) (g_at10 (by assumption)) (k_M_doPack Y hM (by rw [eS]; exact hB) (by rw [eS]; exact ⟨h0.2.2.2.2.1.1, h0.2.2.2.2.1.2.1⟩) (by rw [eS]; exact ⟨hS.2.2.1, hS.2.2.2.1⟩)) u_X13_doPack mw_1308 dX13_pack_10 rfl rfl ⟨Nat.le_of_ble_eq_true rfl, Nat.le_of_ble_eq_true rfl⟩ ⟨Nat.le_of_ble_eq_true rfl, Nat.le_of_ble_eq_true rfl⟩ (Nat.le_of_ble_eq_true rfl) (fun v10 I10 A10 h10 => ?_)
  obtain ⟨rfl, rfl, h10⟩ := h10
  exact g_iret dX13_pack_13 rfl (by decide) (by decide) ⟨rfl, rfl, rfl, rfl, mOpP.yes rfl ⟨by rw [eS], i6, by rw [h10, eS, a6]⟩⟩
set_option maxHeartbeats 4000000 in
set_option maxRecDepth 100000 in
theorem k_M_takeBack (Y : gEnv) {K N : Nat → Nat} {I : Nat → Nat → Int} {A : Nat → Int → Int} {R : Nat → Nat → Option Nat} {Q : Nat → Int → Option Nat} {x w sv tx ag : Nat} (hM : mS K N R x w sv tx ag) (h0 : iN (A w)) (hm : mT (A w)) (hs : 0 ≤ I 204 x ∧ I 204 x ≤ 6) (a : Int) (b : Int) (c : Int) (ha : (-2147483648 ≤ a ∧ a ≤ 2147483647)) (hb : (-2147483648 ≤ b ∧ b ≤ 2147483647)) (hc : (-2147483648 ≤ c ∧ c ≤ 2147483647)) : gC Y yX13_takeBack cX13_takeBack 5 (some .int) ({ frames := 2, cells := 0, slots := 0, locals := 46 } : Room) [.ref x, vi a, vi b, vi c] K N I A R Q (g_wr K N R Q (fun v I' A' => mOpP I A x w sv (if ¬ (0 ≤ a ∧ a < A w 1615) then 1 else if ¬ ((1 ≤ b ∧ b ≤ 100000) ∧ (0 ≤ c ∧ c ≤ b * A w 89)) then 2 else if A w (1450 + a) < b then 3 else 0) (A w (1450 + a) - b) (sTake (A w) a b c) v I' A')) gno := by
  refine gC_of (by decide) (Nat.le_of_ble_eq_true rfl) (fun X => ?_)
  obtain ⟨hKx, hRw, hRs, hRt, hRa, hKw, hNw, hKs, hNs, hKt, hNt, hKa, hNa, hta⟩ := id hM
  have hB : mB (A w) := hm.mB
  have n14 : 0 ≤ A w 1614 ∧ A w 1614 ≤ 160 := ⟨h0.2.2.2.2.1.1, h0.2.2.2.2.1.2.1⟩
  have n15 : 0 ≤ A w 1615 ∧ A w 1615 ≤ 40 := ⟨h0.2.2.2.2.2.1.1, h0.2.2.2.2.2.1.2.1⟩
  refine g_aload_n dX13_takeBack_0 rfl rfl ?_
  refine g_iconst dX13_takeBack_1 ?_
  refine g_put_Model_thrown dX13_takeBack_2 mw_1161 (by assumption) (fun I2 hI2 => ?_)
  refine g_aload_n dX13_takeBack_5 rfl rfl ?_
  refine g_iload_n dX13_takeBack_6 rfl rfl ?_
  refine g_callVp (i := 10) rfl (gK0 (by assumption)) (g_at10 (by assumption)) (k_M_isDelivery Y hM hB _ (by omega) (by omega)) u_X13_isDelivery mw_1367 dX13_takeBack_7 rfl rfl ⟨Nat.le_of_ble_eq_true rfl, Nat.le_of_ble_eq_true rfl⟩ ⟨Nat.le_of_ble_eq_true rfl, Nat.le_of_ble_eq_true rfl⟩ (Nat.le_of_ble_eq_true rfl) ?_
  have b7 := ifd (0 ≤ a ∧ a < A w 1615)
  generalize (if 0 ≤ a ∧ a < A w 1615 then (1 : Int) else 0) = z7 at b7 ⊢
  refine g_if_ne (tgt := 19) dX13_takeBack_10 (by decide) (by omega) (fun c_10 => ?_) (fun c_10 => ?_)
  · refine g_iload_n dX13_takeBack_19 rfl rfl ?_
    refine g_callSp (k_M_isMany Y _ (by omega)) u_X13_isMany mw_1323 rfl dX13_takeBack_20 rfl rfl ⟨Nat.le_of_ble_eq_true rfl, Nat.le_of_ble_eq_true rfl⟩ ⟨Nat.le_of_ble_eq_true rfl, Nat.le_of_ble_eq_true rfl⟩ (Nat.le_of_ble_eq_true rfl) ?_
    have b20 := ifd (1 ≤ b ∧ b ≤ 100000)
    generalize (if 1 ≤ b ∧ b ≤ 100000 then (1 : Int) else 0) = z20 at b20 ⊢
    refine g_if_eq (tgt := 45) dX13_takeBack_23 (by decide) (by omega) (fun c_23 => ?_) (fun c_23 => ?_)
    · refine g_aload_n dX13_takeBack_45 rfl rfl ?_
      refine g_iconst dX13_takeBack_46 ?_
      refine g_callVw (i := 10) rfl (gK0 (by assumption)) (g_at10 (by assumption)) (k_M_refuse Y hM _) u_X13_refuse mw_1202 dX13_takeBack_47 rfl rfl ⟨Nat.le_of_ble_eq_true rfl, Nat.le_of_ble_eq_true rfl⟩ ⟨Nat.le_of_ble_eq_true rfl, Nat.le_of_ble_eq_true rfl⟩ (Nat.le_of_ble_eq_true rfl) (fun v47 I47 A47 h47 => ?_)
      obtain ⟨rfl, e47, f47⟩ := h47
      exact g_iret dX13_takeBack_50 rfl (by decide) (by decide) ⟨rfl, rfl, rfl, rfl, by rw [f47]; exact mOpP.no hI2 e47 (by first | (rw [if_pos (by omega)]; done) | (rw [if_neg (by omega), if_pos (by omega)]; done) | (rw [if_neg (by omega)]; done) | (rw [if_neg (by omega), if_neg (by omega), if_pos (by omega)]; done) | (rw [if_neg (by omega), if_neg (by omega)]; done) | (rw [if_neg (by omega), if_neg (by omega), if_neg (by omega), if_pos (by omega)]; done) | (rw [if_neg (by omega), if_neg (by omega), if_neg (by omega)]; done) | omega | rfl) (by omega)⟩
    · have hS := h0.2.2.2.2.2.2.1
      have hb1 : 0 ≤ b * A w 89 := Int.mul_nonneg (by omega) (by have := hS.2.2.1; omega)
      have hb2 : b * A w 89 ≤ 100000 * 50 := Int.mul_le_mul (by omega) hS.2.2.2.1 (by have := hS.2.2.1; omega) (by omega)
      refine g_iload_n dX13_takeBack_26 rfl rfl ?_
      refine g_i2l dX13_takeBack_27 (by omega) ?_
      refine g_lconst (c := 0) dX13_takeBack_28 (by decide) ?_
      refine g_iload_n dX13_takeBack_29 rfl rfl ?_
      refine g_i2l dX13_takeBack_30 (by omega) ?_
      refine g_aload_n dX13_takeBack_31 rfl rfl ?_
      refine g_get_Model_w dX13_takeBack_32 mw_1155 (by assumption) (by assumption) ?_
      refine g_bipush dX13_takeBack_35 (by decide) ?_
      refine g_laload dX13_takeBack_37 (by assumption) (by omega) (by omega) ?_
      refine g_lmul dX13_takeBack_38 ?_
      refine g_callSp (k_M_in Y _ _ _ (by first | omega | exact m64 (hB _)) (by first | omega | exact m64 (hB _)) (by first | omega | exact m64 (hB _))) u_X13_in mw_1199 rfl dX13_takeBack_39 rfl rfl ⟨Nat.le_of_ble_eq_true rfl, Nat.le_of_ble_eq_true rfl⟩ ⟨Nat.le_of_ble_eq_true rfl, Nat.le_of_ble_eq_true rfl⟩ (Nat.le_of_ble_eq_true rfl) ?_
      have b39 := ifd (0 ≤ c ∧ c ≤ b * A w 89)
      generalize (if 0 ≤ c ∧ c ≤ b * A w 89 then (1 : Int) else 0) = z39 at b39 ⊢
      refine g_if_ne (tgt := 51) dX13_takeBack_42 (by decide) (by omega) (fun c_42 => ?_) (fun c_42 => ?_)
      · have h15b := h0.2.2.2.2.2.1.2.1
        refine g_aload_n dX13_takeBack_51 rfl rfl ?_
        refine g_get_Model_w dX13_takeBack_52 mw_1155 (by assumption) (by assumption) ?_
        refine g_sipush dX13_takeBack_55 (by decide) ?_
        refine g_iload_n dX13_takeBack_58 rfl rfl ?_
        refine g_iadd dX13_takeBack_59 ?_
        refine g_laload dX13_takeBack_60 (by assumption) (by omega) (by omega) ?_
        refine g_iload_n dX13_takeBack_61 rfl rfl ?_
        refine g_i2l dX13_takeBack_62 (by omega) ?_
        refine g_lcmp_ge (tgt := 73) dX13_takeBack_63 dX13_takeBack_64 (by decide) (by have := h0.2.2.2.2.2.1.2.2 a (by omega) (by omega); have := h0.out (d := a) (by omega) (by omega); omega) (by omega) (fun c_63 => ?_) (fun c_63 => ?_)
        · refine g_aload_n dX13_takeBack_73 rfl rfl ?_
          have e2 : I2 204 x = I 204 x := by rw [hI2]; simp [g_up]
          refine g_callVw (i := 10) rfl (gK0 (by assumption)) (g_at10 (by assumption)) (k_M_save Y hM (by omega)) u_X13_save mw_1208 dX13_takeBack_74 rfl rfl ⟨Nat.le_of_ble_eq_true rfl, Nat.le_of_ble_eq_true rfl⟩ ⟨Nat.le_of_ble_eq_true rfl, Nat.le_of_ble_eq_true rfl⟩ (Nat.le_of_ble_eq_true rfl) (fun v74 I74 A74 h74 => ?_)
          obtain ⟨rfl, i74, a74⟩ := h74
          have hws : w ≠ sv := fun e => by rw [e] at hNw; omega
          have eS : A74 w = A w := by rw [a74, g_rw_ne _ _ hws]
          rw [e2] at a74 i74
          rw [hI2] at i74
          have hD := h0.2.2.2.2.2.1.2.2 a (by omega) (by omega)
          have hL2 := h0.2.2.2.2.1.2.1
          obtain ⟨t1, t2, t3, t4, t5, t6, t7⟩ := sTake_pre h0 (d := a) (b := b) (lost := c) (by omega) (by omega) (by omega)
          have t2 := t2 hm
          have hsu := h0.sums
          have hs12 := hS.2.2.2.2.2.2.1
          have h12 : sTakeW (A w) a b c 1612 = A w 1612 := by rw [sTakeW, sU_ne _ _ (by omega), sU_ne _ _ (by omega)]
          refine g_aload_n dX13_takeBack_77 rfl rfl ?_
          refine g_get_Model_w dX13_takeBack_78 mw_1155 (by assumption) (by assumption) ?_
          refine g_sipush dX13_takeBack_81 (by decide) ?_
          refine g_iload_n dX13_takeBack_84 rfl rfl ?_
          refine g_iadd dX13_takeBack_85 ?_
          refine g_laload dX13_takeBack_86 (by assumption) (by omega) (by omega) ?_
          refine g_l2i dX13_takeBack_87 ?_
          rw [eS]
          refine g_istore dX13_takeBack_88 (by decide) ?_
          refine g_aload_n dX13_takeBack_90 rfl rfl ?_
          refine g_get_Model_w dX13_takeBack_91 mw_1155 (by assumption) (by assumption) ?_
          refine g_sipush dX13_takeBack_94 (by decide) ?_
          refine g_iload_n dX13_takeBack_97 rfl rfl ?_
          refine g_iadd dX13_takeBack_98 ?_
          refine g_dup2 dX13_takeBack_99 rfl rfl ?_
          refine g_laload dX13_takeBack_100 (by assumption) (by omega) (by omega) ?_
          refine g_iload_n dX13_takeBack_101 rfl rfl ?_
          refine g_i2l dX13_takeBack_102 (by omega) ?_
          refine g_lsub dX13_takeBack_103 ?_
          refine g_lastore dX13_takeBack_104 (by assumption) (by omega) (by omega) (fun A104 hA104 => ?_)
          have eA104 := congrFun (hA104.trans (g_uq_rw _ _ _ _)) w
          rw [g_rw_at] at eA104
          refine g_aload_n dX13_takeBack_105 rfl rfl ?_
          refine g_get_Model_w dX13_takeBack_106 mw_1155 (by assumption) (by assumption) ?_
          refine g_sipush dX13_takeBack_109 (by decide) ?_
          refine g_iload dX13_takeBack_112 rfl ?_
          refine g_iadd dX13_takeBack_114 ?_
          refine g_dup2 dX13_takeBack_115 rfl rfl ?_
          refine g_laload dX13_takeBack_116 (by assumption) (by omega) (by omega) ?_
          refine g_iload_n dX13_takeBack_117 rfl rfl ?_
          refine g_i2l dX13_takeBack_118 (by omega) ?_
          refine g_aload_n dX13_takeBack_119 rfl rfl ?_
          refine g_get_Model_w dX13_takeBack_120 mw_1155 (by assumption) (by assumption) ?_
          refine g_bipush dX13_takeBack_123 (by decide) ?_
          refine g_laload dX13_takeBack_125 (by assumption) (by omega) (by omega) ?_
          refine g_lmul dX13_takeBack_126 ?_
          refine g_iload_n dX13_takeBack_127 rfl rfl ?_
          refine g_i2l dX13_takeBack_128 (by omega) ?_
          refine g_lsub dX13_takeBack_129 ?_
          refine g_ladd dX13_takeBack_130 ?_
          refine g_lastore dX13_takeBack_131 (by assumption) (by omega) (by omega) (fun A131 hA131 => ?_)
          have eA131 := congrFun (hA131.trans (g_uq_rw _ _ _ _)) w
          rw [g_rw_at] at eA131
          have e131 : A131 w = sTakeW (A w) a b c := by
            rw [eA131, eA104, eS, sU_ne _ _ (show (890 + A w (1370 + a) : Int) ≠ 1450 + a by omega), sU_ne _ _ (show (89 : Int) ≠ 1450 + a by omega)]
            rfl
          refine g_aload_n dX13_takeBack_132 rfl rfl ?_
          refine g_iload_n dX13_takeBack_133 rfl rfl ?_
          refine g_i2l dX13_takeBack_134 (by omega) ?_
          refine g_callVw (i := 10) rfl (gK0 (by assumption)) (g_at10 (by assumption)) (k_M_breaks Y hM c (by rw [e131]; exact (t2.1.put (by rw [h12]; omega)).mB) (by omega) (by rw [e131]; exact t4)) u_X13_breaks mw_1359 dX13_takeBack_135 rfl rfl ⟨Nat.le_of_ble_eq_true rfl, Nat.le_of_ble_eq_true rfl⟩ ⟨Nat.le_of_ble_eq_true rfl, Nat.le_of_ble_eq_true rfl⟩ (Nat.le_of_ble_eq_true rfl) (fun v135 I135 A135 h135 => ?_)
          obtain ⟨rfl, rfl, h135⟩ := h135
          have e135 : A135 w (1450 + a) = A w (1450 + a) - b := by rw [h135, g_rw_at, e131]; exact t6
          refine g_aload_n dX13_takeBack_138 rfl rfl ?_
          refine g_get_Model_w dX13_takeBack_139 mw_1155 (by assumption) (by assumption) ?_
          refine g_sipush dX13_takeBack_142 (by decide) ?_
          refine g_iload_n dX13_takeBack_145 rfl rfl ?_
          refine g_iadd dX13_takeBack_146 ?_
          refine g_laload dX13_takeBack_147 (by assumption) (by omega) (by omega) ?_
          refine g_l2i dX13_takeBack_148 ?_
          exact g_iret dX13_takeBack_149 rfl (by decide) (by decide) ⟨rfl, rfl, rfl, rfl, mOpP.yes (by first | (rw [if_pos (by omega)]; done) | (rw [if_neg (by omega), if_pos (by omega)]; done) | (rw [if_neg (by omega)]; done) | (rw [if_neg (by omega), if_neg (by omega), if_pos (by omega)]; done) | (rw [if_neg (by omega), if_neg (by omega)]; done) | (rw [if_neg (by omega), if_neg (by omega), if_neg (by omega), if_pos (by omega)]; done) | (rw [if_neg (by omega), if_neg (by omega), if_neg (by omega)]; done) | omega | rfl) ⟨by rw [e135], i74, by rw [h135, e131, hA131, hA104]; simp only [g_uq_rw, g_rw_rw]; rw [a74]; rfl⟩⟩
        · refine g_aload_n dX13_takeBack_67 rfl rfl ?_
          refine g_iconst dX13_takeBack_68 ?_
          refine g_callVw (i := 10) rfl (gK0 (by assumption)) (g_at10 (by assumption)) (k_M_refuse Y hM _) u_X13_refuse mw_1202 dX13_takeBack_69 rfl rfl ⟨Nat.le_of_ble_eq_true rfl, Nat.le_of_ble_eq_true rfl⟩ ⟨Nat.le_of_ble_eq_true rfl, Nat.le_of_ble_eq_true rfl⟩ (Nat.le_of_ble_eq_true rfl) (fun v69 I69 A69 h69 => ?_)
          obtain ⟨rfl, e69, f69⟩ := h69
          exact g_iret dX13_takeBack_72 rfl (by decide) (by decide) ⟨rfl, rfl, rfl, rfl, by rw [f69]; exact mOpP.no hI2 e69 (by first | (rw [if_pos (by omega)]; done) | (rw [if_neg (by omega), if_pos (by omega)]; done) | (rw [if_neg (by omega)]; done) | (rw [if_neg (by omega), if_neg (by omega), if_pos (by omega)]; done) | (rw [if_neg (by omega), if_neg (by omega)]; done) | (rw [if_neg (by omega), if_neg (by omega), if_neg (by omega), if_pos (by omega)]; done) | (rw [if_neg (by omega), if_neg (by omega), if_neg (by omega)]; done) | omega | rfl) (by omega)⟩
      · refine g_aload_n dX13_takeBack_45 rfl rfl ?_
        refine g_iconst dX13_takeBack_46 ?_
        refine g_callVw (i := 10) rfl (gK0 (by assumption)) (g_at10 (by assumption)) (k_M_refuse Y hM _) u_X13_refuse mw_1202 dX13_takeBack_47 rfl rfl ⟨Nat.le_of_ble_eq_true rfl, Nat.le_of_ble_eq_true rfl⟩ ⟨Nat.le_of_ble_eq_true rfl, Nat.le_of_ble_eq_true rfl⟩ (Nat.le_of_ble_eq_true rfl) (fun v47 I47 A47 h47 => ?_)
        obtain ⟨rfl, e47, f47⟩ := h47
        exact g_iret dX13_takeBack_50 rfl (by decide) (by decide) ⟨rfl, rfl, rfl, rfl, by rw [f47]; exact mOpP.no hI2 e47 (by first | (rw [if_pos (by omega)]; done) | (rw [if_neg (by omega), if_pos (by omega)]; done) | (rw [if_neg (by omega)]; done) | (rw [if_neg (by omega), if_neg (by omega), if_pos (by omega)]; done) | (rw [if_neg (by omega), if_neg (by omega)]; done) | (rw [if_neg (by omega), if_neg (by omega), if_neg (by omega), if_pos (by omega)]; done) | (rw [if_neg (by omega), if_neg (by omega), if_neg (by omega)]; done) | omega | rfl) (by omega)⟩
  · refine g_aload_n dX13_takeBack_13 rfl rfl ?_
    refine g_iconst dX13_takeBack_14 ?_
    refine g_callVw (i := 10) rfl (gK0 (by assumption)) (g_at10 (by assumption)) (k_M_refuse Y hM _) u_X13_refuse mw_1202 dX13_takeBack_15 rfl rfl ⟨Nat.le_of_ble_eq_true rfl, Nat.le_of_ble_eq_true rfl⟩ ⟨Nat.le_of_ble_eq_true rfl, Nat.le_of_ble_eq_true rfl⟩ (Nat.le_of_ble_eq_true rfl) (fun v15 I15 A15 h15 => ?_)
    obtain ⟨rfl, e15, f15⟩ := h15
    exact g_iret dX13_takeBack_18 rfl (by decide) (by decide) ⟨rfl, rfl, rfl, rfl, by rw [f15]; exact mOpP.no hI2 e15 (by first | (rw [if_pos (by omega)]; done) | (rw [if_neg (by omega), if_pos (by omega)]; done) | (rw [if_neg (by omega)]; done) | (rw [if_neg (by omega), if_neg (by omega), if_pos (by omega)]; done) | (rw [if_neg (by omega), if_neg (by omega)]; done) | (rw [if_neg (by omega), if_neg (by omega), if_neg (by omega), if_pos (by omega)]; done) | (rw [if_neg (by omega), if_neg (by omega), if_neg (by omega)]; done) | omega | rfl) (by omega)⟩
set_option maxHeartbeats 4000000 in
set_option maxRecDepth 100000 in
theorem k_M_replace (Y : gEnv) {K N : Nat → Nat} {I : Nat → Nat → Int} {A : Nat → Int → Int} {R : Nat → Nat → Option Nat} {Q : Nat → Int → Option Nat} {x w sv tx ag : Nat} (hM : mS K N R x w sv tx ag) (h0 : iN (A w)) (hm : mT (A w)) (hs : 0 ≤ I 204 x ∧ I 204 x ≤ 6) (a : Int) (ha : (-2147483648 ≤ a ∧ a ≤ 2147483647)) : gC Y yX13_replace cX13_replace 5 (some .int) ({ frames := 2, cells := 0, slots := 0, locals := 46 } : Room) [.ref x, vi a] K N I A R Q (g_wr K N R Q (fun v I' A' => mOpP I A x w sv (if ¬ (0 ≤ a ∧ a < A w 1615) then 1 else if A w (1490 + a) = 0 ∨ A w (890 + A w (1370 + a)) < A w (1490 + a) then 2 else 0) (A w (1490 + a)) (sRepl (A w) a) v I' A')) gno := by
  refine gC_of (by decide) (Nat.le_of_ble_eq_true rfl) (fun X => ?_)
  obtain ⟨hKx, hRw, hRs, hRt, hRa, hKw, hNw, hKs, hNs, hKt, hNt, hKa, hNa, hta⟩ := id hM
  have hB : mB (A w) := hm.mB
  have n14 : 0 ≤ A w 1614 ∧ A w 1614 ≤ 160 := ⟨h0.2.2.2.2.1.1, h0.2.2.2.2.1.2.1⟩
  have n15 : 0 ≤ A w 1615 ∧ A w 1615 ≤ 40 := ⟨h0.2.2.2.2.2.1.1, h0.2.2.2.2.2.1.2.1⟩
  refine g_aload_n dX13_replace_0 rfl rfl ?_
  refine g_iconst dX13_replace_1 ?_
  refine g_put_Model_thrown dX13_replace_2 mw_1161 (by assumption) (fun I2 hI2 => ?_)
  refine g_aload_n dX13_replace_5 rfl rfl ?_
  refine g_iload_n dX13_replace_6 rfl rfl ?_
  refine g_callVp (i := 10) rfl (gK0 (by assumption)) (g_at10 (by assumption)) (k_M_isDelivery Y hM hB _ (by omega) (by omega)) u_X13_isDelivery mw_1367 dX13_replace_7 rfl rfl ⟨Nat.le_of_ble_eq_true rfl, Nat.le_of_ble_eq_true rfl⟩ ⟨Nat.le_of_ble_eq_true rfl, Nat.le_of_ble_eq_true rfl⟩ (Nat.le_of_ble_eq_true rfl) ?_
  have b7 := ifd (0 ≤ a ∧ a < A w 1615)
  generalize (if 0 ≤ a ∧ a < A w 1615 then (1 : Int) else 0) = z7 at b7 ⊢
  refine g_if_ne (tgt := 19) dX13_replace_10 (by decide) (by omega) (fun c_10 => ?_) (fun c_10 => ?_)
  · have h15b := h0.2.2.2.2.2.1.2.1
    have hD := h0.2.2.2.2.2.1.2.2 a (by omega) (by omega)
    have hL2 := h0.2.2.2.2.1.2.1
    have hlot := h0.lot (l := A w (1370 + a)) (by omega) (by omega)
    have hS := h0.2.2.2.2.2.2.1
    have hb0 := Int.mul_nonneg hlot.2.1 (show 0 ≤ A w 89 by have := hS.2.2.1; omega)
    refine g_aload_n dX13_replace_19 rfl rfl ?_
    refine g_get_Model_w dX13_replace_20 mw_1155 (by assumption) (by assumption) ?_
    refine g_sipush dX13_replace_23 (by decide) ?_
    refine g_iload_n dX13_replace_26 rfl rfl ?_
    refine g_iadd dX13_replace_27 ?_
    refine g_laload dX13_replace_28 (by assumption) (by omega) (by omega) ?_
    refine g_l2i dX13_replace_29 ?_
    refine g_istore_n dX13_replace_30 rfl (by decide) ?_
    refine g_aload_n dX13_replace_31 rfl rfl ?_
    refine g_get_Model_w dX13_replace_32 mw_1155 (by assumption) (by assumption) ?_
    refine g_sipush dX13_replace_35 (by decide) ?_
    refine g_iload_n dX13_replace_38 rfl rfl ?_
    refine g_iadd dX13_replace_39 ?_
    refine g_laload dX13_replace_40 (by assumption) (by omega) (by omega) ?_
    refine g_lstore_n dX13_replace_41 rfl (by decide) ?_
    refine g_lload_n dX13_replace_42 rfl rfl ?_
    refine g_lconst (c := 0) dX13_replace_43 (by decide) ?_
    refine g_lcmp_eq (tgt := 63) dX13_replace_44 dX13_replace_45 (by decide) (by omega) (by omega) (fun c_44 => ?_) (fun c_44 => ?_)
    · refine g_aload_n dX13_replace_63 rfl rfl ?_
      refine g_iconst dX13_replace_64 ?_
      refine g_callVw (i := 10) rfl (gK0 (by assumption)) (g_at10 (by assumption)) (k_M_refuse Y hM _) u_X13_refuse mw_1202 dX13_replace_65 rfl rfl ⟨Nat.le_of_ble_eq_true rfl, Nat.le_of_ble_eq_true rfl⟩ ⟨Nat.le_of_ble_eq_true rfl, Nat.le_of_ble_eq_true rfl⟩ (Nat.le_of_ble_eq_true rfl) (fun v65 I65 A65 h65 => ?_)
      obtain ⟨rfl, e65, f65⟩ := h65
      exact g_iret dX13_replace_68 rfl (by decide) (by decide) ⟨rfl, rfl, rfl, rfl, by rw [f65]; exact mOpP.no hI2 e65 (by first | (rw [if_pos (by omega)]; done) | (rw [if_neg (by omega), if_pos (by omega)]; done) | (rw [if_neg (by omega)]; done) | (rw [if_neg (by omega), if_neg (by omega), if_pos (by omega)]; done) | (rw [if_neg (by omega), if_neg (by omega)]; done) | (rw [if_neg (by omega), if_neg (by omega), if_neg (by omega), if_pos (by omega)]; done) | (rw [if_neg (by omega), if_neg (by omega), if_neg (by omega)]; done) | omega | rfl) (by omega)⟩
    · refine g_aload_n dX13_replace_48 rfl rfl ?_
      refine g_get_Model_w dX13_replace_49 mw_1155 (by assumption) (by assumption) ?_
      refine g_sipush dX13_replace_52 (by decide) ?_
      refine g_iload_n dX13_replace_55 rfl rfl ?_
      refine g_iadd dX13_replace_56 ?_
      refine g_laload dX13_replace_57 (by assumption) (by omega) (by omega) ?_
      refine g_lload_n dX13_replace_58 rfl rfl ?_
      refine g_lcmp_ge (tgt := 69) dX13_replace_59 dX13_replace_60 (by decide) (by omega) (by omega) (fun c_59 => ?_) (fun c_59 => ?_)
      · refine g_aload_n dX13_replace_69 rfl rfl ?_
        have e2 : I2 204 x = I 204 x := by rw [hI2]; simp [g_up]
        refine g_callVw (i := 10) rfl (gK0 (by assumption)) (g_at10 (by assumption)) (k_M_save Y hM (by omega)) u_X13_save mw_1208 dX13_replace_70 rfl rfl ⟨Nat.le_of_ble_eq_true rfl, Nat.le_of_ble_eq_true rfl⟩ ⟨Nat.le_of_ble_eq_true rfl, Nat.le_of_ble_eq_true rfl⟩ (Nat.le_of_ble_eq_true rfl) (fun v70 I70 A70 h70 => ?_)
        obtain ⟨rfl, i70, a70⟩ := h70
        have hws : w ≠ sv := fun e => by rw [e] at hNw; omega
        have eS : A70 w = A w := by rw [a70, g_rw_ne _ _ hws]
        rw [e2] at a70 i70
        rw [hI2] at i70
        obtain ⟨t1, t2, t3, t4⟩ := sRepl_pre h0 (d := a) (by omega) (by omega)
        have t2 := t2 hm
        have h12 : sReplW (A w) a 1612 = A w 1612 := by rw [sReplW, (sLot3_at ⟨by omega, by omega⟩).2 1612 (by omega), sU_ne _ _ (by omega)]
        have hsu := h0.sums
        have hs12 := hS.2.2.2.2.2.2.1
        generalize hll : A w (1370 + a) = l at hD hlot hb0 ⊢
        generalize htt : A w (1490 + a) = t at hD ⊢
        refine g_aload_n dX13_replace_73 rfl rfl ?_
        refine g_get_Model_w dX13_replace_74 mw_1155 (by assumption) (by assumption) ?_
        refine g_sipush dX13_replace_77 (by decide) ?_
        refine g_iload_n dX13_replace_80 rfl rfl ?_
        refine g_iadd dX13_replace_81 ?_
        refine g_lconst (c := 0) dX13_replace_82 (by decide) ?_
        refine g_lastore dX13_replace_83 (by assumption) (by omega) (by omega) (fun A83 hA83 => ?_)
        have eA83 := congrFun (hA83.trans (g_uq_rw _ _ _ _)) w
        rw [g_rw_at] at eA83
        refine g_aload_n dX13_replace_84 rfl rfl ?_
        refine g_get_Model_w dX13_replace_85 mw_1155 (by assumption) (by assumption) ?_
        refine g_sipush dX13_replace_88 (by decide) ?_
        refine g_iload_n dX13_replace_91 rfl rfl ?_
        refine g_iadd dX13_replace_92 ?_
        refine g_dup2 dX13_replace_93 rfl rfl ?_
        refine g_laload dX13_replace_94 (by assumption) (by omega) (by omega) ?_
        refine g_lload_n dX13_replace_95 rfl rfl ?_
        refine g_lsub dX13_replace_96 ?_
        refine g_lastore dX13_replace_97 (by assumption) (by omega) (by omega) (fun A97 hA97 => ?_)
        have eA97 := congrFun (hA97.trans (g_uq_rw _ _ _ _)) w
        rw [g_rw_at] at eA97
        have e97 : A97 w = sU (sU (A w) (1490 + a) 0) (890 + l) (A w (890 + l) - t) := by rw [eA97, eA83, eS, sU_ne _ _ (show (890 + l : Int) ≠ 1490 + a by omega)]
        have c97 : sContent (A97 w) l = A w (890 + l) - t + A w (1050 + l) * A w 89 := by simp only [sContent]; rw [e97, sU_eq, sU_ne _ _ (by omega), sU_ne _ _ (by omega), sU_ne _ _ (by omega), sU_ne _ _ (by omega)]
        have d97 : A97 w (1210 + l) = A w (1210 + l) := by rw [e97, sU_ne _ _ (by omega), sU_ne _ _ (by omega)]
        have o97 : 0 ≤ A w (890 + l) - t ∧ A w (890 + l) - t ≤ 1600000 ∧ 0 ≤ A w (1050 + l) * A w 89 ∧ A w (1050 + l) * A w 89 ≤ 1600000 ∧ 0 ≤ A w (1210 + l) ∧ A w (1210 + l) ≤ 1600000 ∧ 0 ≤ t ∧ t ≤ 1600000 := by subst htt; subst hll; omega
        refine g_aload_n dX13_replace_98 rfl rfl ?_
        refine g_iload_n dX13_replace_99 rfl rfl ?_
        refine g_callVw (i := 10) rfl (gK0 (by assumption)) (g_at10 (by assumption)) (k_M_limit Y hM l (by subst hll; omega) (by rw [c97]; omega) (by rw [d97]; omega)) u_X13_limit mw_1343 dX13_replace_100 rfl rfl ⟨Nat.le_of_ble_eq_true rfl, Nat.le_of_ble_eq_true rfl⟩ ⟨Nat.le_of_ble_eq_true rfl, Nat.le_of_ble_eq_true rfl⟩ (Nat.le_of_ble_eq_true rfl) (fun v100 I100 A100 h100 => ?_)
        obtain ⟨rfl, rfl, h100⟩ := h100
        have e100 : A100 w = sReplW (A w) a := by
          rw [h100, g_rw_at, sLim, c97, d97, e97, sReplW, hll, htt, sLot3]
          rw [show sU (sU (sU (A w) (1490 + a) 0) (890 + l) (A w (890 + l) - t)) (1050 + l) (A w (1050 + l)) = sU (sU (A w) (1490 + a) 0) (890 + l) (A w (890 + l) - t) from by
            have := sU_id (sU (sU (A w) (1490 + a) 0) (890 + l) (A w (890 + l) - t)) (1050 + l)
            rwa [sU_ne _ _ (by omega), sU_ne _ _ (by omega)] at this]
          rfl
        refine g_aload_n dX13_replace_103 rfl rfl ?_
        refine g_lload_n dX13_replace_104 rfl rfl ?_
        refine g_callVw (i := 10) rfl (gK0 (by assumption)) (g_at10 (by assumption)) (k_M_breaks Y hM t (by rw [e100]; exact (t2.1.put (by rw [h12]; omega)).mB) (by omega) (by rw [e100]; exact t4)) u_X13_breaks mw_1359 dX13_replace_105 rfl rfl ⟨Nat.le_of_ble_eq_true rfl, Nat.le_of_ble_eq_true rfl⟩ ⟨Nat.le_of_ble_eq_true rfl, Nat.le_of_ble_eq_true rfl⟩ (Nat.le_of_ble_eq_true rfl) (fun v105 I105 A105 h105 => ?_)
        obtain ⟨rfl, rfl, h105⟩ := h105
        refine g_lload_n dX13_replace_108 rfl rfl ?_
        refine g_l2i dX13_replace_109 ?_
        exact g_iret dX13_replace_110 rfl (by decide) (by decide) ⟨rfl, rfl, rfl, rfl, mOpP.yes (by subst htt; subst hll; first | rw [if_neg (by omega), if_neg (by omega)]) ⟨rfl, i70, by rw [h105, e100, h100, hA97, hA83]; simp only [g_uq_rw, g_rw_rw]; rw [a70, sRepl, htt]⟩⟩
      · refine g_aload_n dX13_replace_63 rfl rfl ?_
        refine g_iconst dX13_replace_64 ?_
        refine g_callVw (i := 10) rfl (gK0 (by assumption)) (g_at10 (by assumption)) (k_M_refuse Y hM _) u_X13_refuse mw_1202 dX13_replace_65 rfl rfl ⟨Nat.le_of_ble_eq_true rfl, Nat.le_of_ble_eq_true rfl⟩ ⟨Nat.le_of_ble_eq_true rfl, Nat.le_of_ble_eq_true rfl⟩ (Nat.le_of_ble_eq_true rfl) (fun v65 I65 A65 h65 => ?_)
        obtain ⟨rfl, e65, f65⟩ := h65
        exact g_iret dX13_replace_68 rfl (by decide) (by decide) ⟨rfl, rfl, rfl, rfl, by rw [f65]; exact mOpP.no hI2 e65 (by first | (rw [if_pos (by omega)]; done) | (rw [if_neg (by omega), if_pos (by omega)]; done) | (rw [if_neg (by omega)]; done) | (rw [if_neg (by omega), if_neg (by omega), if_pos (by omega)]; done) | (rw [if_neg (by omega), if_neg (by omega)]; done) | (rw [if_neg (by omega), if_neg (by omega), if_neg (by omega), if_pos (by omega)]; done) | (rw [if_neg (by omega), if_neg (by omega), if_neg (by omega)]; done) | omega | rfl) (by omega)⟩
  · refine g_aload_n dX13_replace_13 rfl rfl ?_
    refine g_iconst dX13_replace_14 ?_
    refine g_callVw (i := 10) rfl (gK0 (by assumption)) (g_at10 (by assumption)) (k_M_refuse Y hM _) u_X13_refuse mw_1202 dX13_replace_15 rfl rfl ⟨Nat.le_of_ble_eq_true rfl, Nat.le_of_ble_eq_true rfl⟩ ⟨Nat.le_of_ble_eq_true rfl, Nat.le_of_ble_eq_true rfl⟩ (Nat.le_of_ble_eq_true rfl) (fun v15 I15 A15 h15 => ?_)
    obtain ⟨rfl, e15, f15⟩ := h15
    exact g_iret dX13_replace_18 rfl (by decide) (by decide) ⟨rfl, rfl, rfl, rfl, by rw [f15]; exact mOpP.no hI2 e15 (by first | (rw [if_pos (by omega)]; done) | (rw [if_neg (by omega), if_pos (by omega)]; done) | (rw [if_neg (by omega)]; done) | (rw [if_neg (by omega), if_neg (by omega), if_pos (by omega)]; done) | (rw [if_neg (by omega), if_neg (by omega)]; done) | (rw [if_neg (by omega), if_neg (by omega), if_neg (by omega), if_pos (by omega)]; done) | (rw [if_neg (by omega), if_neg (by omega), if_neg (by omega)]; done) | omega | rfl) (by omega)⟩
def sBack (s : Int → Int) (w : Int → Int) (m k : Int) : Int → Int := fun j => if 0 ≤ j ∧ j < k then s (m * 1618 + j) else w j
theorem sBack_0 (s w : Int → Int) (m : Int) : sBack s w m 0 = w := by funext j; simp only [sBack]; rw [if_neg (by omega)]
theorem sBack_succ {s w : Int → Int} {m k : Int} (hk : 0 ≤ k) : sU (sBack s w m k) k (s (m * 1618 + k)) = sBack s w m (k + 1) := by
  funext j
  simp only [sU, sBack]
  by_cases h : j = k
  · subst h; rw [if_pos rfl, if_pos (by omega)]
  · rw [if_neg h]
    by_cases h2 : 0 ≤ j ∧ j < k
    · rw [if_pos h2, if_pos (by omega)]
    · rw [if_neg h2, if_neg (by omega)]
set_option maxHeartbeats 4000000 in
set_option maxRecDepth 100000 in
theorem lp_M_undo {Y : gEnv} {X : gCtx} {K N : Nat → Nat} {I : Nat → Nat → Int} {A : Nat → Int → Int} {R : Nat → Nat → Option Nat} {Q : Nat → Int → Option Nat} {A0 : Nat → Int → Int} {po : gPo} {px : gPx} {x w sv tx ag : Nat} (hM : mS K N R x w sv tx ag) (hs : 0 ≤ I 204 x ∧ I 204 x ≤ 5) (hpo : po (some (vi (I 204 x))) K N I (g_rw A0 w (sBack (A0 sv) (A0 w) (I 204 x) 1618)) R Q) : ∀ (f m : Nat) (k : Int), m < f → 0 ≤ k → k + m = 1618 → A = g_rw A0 w (sBack (A0 sv) (A0 w) (I 204 x) k) → gJ Y X yX13_undo cX13_undo 2 (some .int) ({ frames := 1, cells := 0, slots := 0, locals := 21 } : Room) po px 0 0 30 [(0, .ref x), (1, vi k)] [] K N I A R Q := by
  obtain ⟨hKx, hRw, hRs, hRt, hRa, hKw, hNw, hKs, hNs, hKt, hNt, hKa, hNa, hta⟩ := id hM
  have hws : sv ≠ w := fun e => by rw [e] at hNs; omega
  intro f
  induction f generalizing A with
  | zero => intro m k h; omega
  | succ f ih =>
  intro m k hf hk hm hA
  have eW : A w = sBack (A0 sv) (A0 w) (I 204 x) k := by rw [hA, g_rw_at]
  have eV : A sv = A0 sv := by rw [hA, g_rw_ne _ _ hws]
  refine g_iload_n dX13_undo_30 rfl rfl ?_
  refine g_sipush dX13_undo_31 (by decide) ?_
  refine g_icmp_ge (tgt := 64) dX13_undo_34 (by decide) (by omega) (by omega) (fun c_34 => ?_) (fun c_34 => ?_)
  · refine g_aload_n dX13_undo_64 rfl rfl ?_
    refine g_get_Model_savedMany dX13_undo_65 mw_1159 (by assumption) ?_
    exact g_iret dX13_undo_68 rfl (by decide) (by decide) (by rw [hA, show k = 1618 by omega]; exact hpo)
  · refine g_aload_n dX13_undo_37 rfl rfl ?_
    refine g_get_Model_w dX13_undo_38 mw_1155 (by assumption) (by assumption) ?_
    refine g_iload_n dX13_undo_41 rfl rfl ?_
    refine g_aload_n dX13_undo_42 rfl rfl ?_
    refine g_get_Model_saved dX13_undo_43 mw_1156 (by assumption) (by assumption) ?_
    refine g_aload_n dX13_undo_46 rfl rfl ?_
    refine g_get_Model_savedMany dX13_undo_47 mw_1159 (by assumption) ?_
    refine g_sipush dX13_undo_50 (by decide) ?_
    refine g_imul dX13_undo_53 ?_
    refine g_iload_n dX13_undo_54 rfl rfl ?_
    refine g_iadd dX13_undo_55 ?_
    refine g_laload dX13_undo_56 (by assumption) (by omega) (by omega) ?_
    refine g_lastore dX13_undo_57 (by assumption) (by omega) (by omega) (fun A57 hA57 => ?_)
    have eA57 := congrFun (hA57.trans (g_uq_rw _ _ _ _)) w
    rw [g_rw_at] at eA57
    refine g_iinc dX13_undo_58 rfl (by decide) ?_
    refine g_goto (tgt := 30) dX13_undo_61 (by decide) ?_
    refine g_locs (by exact ⟨rfl, rfl, trivial⟩) (ih (m - 1) (k + 1) (by omega) (by omega) (by omega) ?_)
    rw [hA57, g_uq_rw, eW, eV, hA, g_rw_rw, sBack_succ (by omega)]
set_option maxHeartbeats 4000000 in
set_option maxRecDepth 100000 in
theorem k_M_undo (Y : gEnv) {K N : Nat → Nat} {I : Nat → Nat → Int} {A : Nat → Int → Int} {R : Nat → Nat → Option Nat} {Q : Nat → Int → Option Nat} {x w sv tx ag : Nat} (hM : mS K N R x w sv tx ag) (hs : 0 ≤ I 204 x ∧ I 204 x ≤ 6) : gC Y yX13_undo cX13_undo 2 (some .int) ({ frames := 1, cells := 0, slots := 0, locals := 21 } : Room) [.ref x] K N I A R Q (g_wr K N R Q (fun v I' A' => (0 < I 204 x → v = some (vi (I 204 x - 1)) ∧ I' = g_up (g_up I 206 x 0) 204 x (I 204 x - 1) ∧ A' = g_rw A w (sBack (A sv) (A w) (I 204 x - 1) 1618)) ∧ (I 204 x = 0 → v = some (vi 0) ∧ I' = g_up I 206 x 1 ∧ A' = A))) gno := by
  refine gC_of (by decide) (Nat.le_of_ble_eq_true rfl) (fun X => ?_)
  obtain ⟨hKx, hRw, hRs, hRt, hRa, hKw, hNw, hKs, hNs, hKt, hNt, hKa, hNa, hta⟩ := id hM
  refine g_aload_n dX13_undo_0 rfl rfl ?_
  refine g_iconst dX13_undo_1 ?_
  refine g_put_Model_thrown dX13_undo_2 mw_1161 (by assumption) (fun I2 hI2 => ?_)
  have e2 : I2 204 x = I 204 x := by rw [hI2]; simp [g_up]
  refine g_aload_n dX13_undo_5 rfl rfl ?_
  refine g_get_Model_savedMany dX13_undo_6 mw_1159 (by assumption) ?_
  refine g_if_ne (tgt := 18) dX13_undo_9 (by decide) (by omega) (fun c_9 => ?_) (fun c_9 => ?_)
  · refine g_aload_n dX13_undo_18 rfl rfl ?_
    refine g_dup dX13_undo_19 rfl ?_
    refine g_get_Model_savedMany dX13_undo_20 mw_1159 (by assumption) ?_
    refine g_iconst dX13_undo_23 ?_
    refine g_isub dX13_undo_24 ?_
    refine g_put_Model_savedMany dX13_undo_25 mw_1159 (by assumption) (fun I25 hI25 => ?_)
    refine g_iconst dX13_undo_28 ?_
    refine g_istore_n dX13_undo_29 rfl (by decide) ?_
    have e25 : I25 204 x = I 204 x - 1 := by rw [hI25, g_up_eq, e2]
    exact g_locs (by exact ⟨rfl, rfl, trivial⟩) (lp_M_undo (A0 := A) hM (by omega) (by exact ⟨rfl, rfl, rfl, rfl, fun _ => ⟨by rw [e25], by rw [hI25, e2, hI2], by rw [e25]⟩, fun h => absurd h (by omega)⟩) _ 1618 0 (Nat.lt_succ_self _) (by omega) (by omega) (by rw [sBack_0, g_rw_self]))
  · refine g_aload_n dX13_undo_12 rfl rfl ?_
    refine g_iconst dX13_undo_13 ?_
    refine g_callVw (i := 10) rfl (gK0 (by assumption)) (g_at10 (by assumption)) (k_M_refuse Y hM _) u_X13_refuse mw_1202 dX13_undo_14 rfl rfl ⟨Nat.le_of_ble_eq_true rfl, Nat.le_of_ble_eq_true rfl⟩ ⟨Nat.le_of_ble_eq_true rfl, Nat.le_of_ble_eq_true rfl⟩ (Nat.le_of_ble_eq_true rfl) (fun v14 I14 A14 h14 => ?_)
    obtain ⟨rfl, e14, f14⟩ := h14
    exact g_iret dX13_undo_17 rfl (by decide) (by decide) ⟨rfl, rfl, rfl, rfl, fun h => absurd h (by omega), fun _ => ⟨rfl, by rw [e14, hI2, g_up_up], by rw [f14]⟩⟩
