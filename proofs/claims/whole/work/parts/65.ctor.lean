def sW1 (g : Int) : Int → Int := fun j => if 0 ≤ j ∧ j < g then 8 else if 4 ≤ j ∧ j < 4 + g then 10 else if 8 ≤ j ∧ j < 8 + g then 10 else if 12 ≤ j ∧ j < 12 + g then 100 else 0
theorem sW1_0 : sW1 0 = fun _ => 0 := by
  funext j
  simp only [sW1]
  (repeat' split) <;> omega
theorem sW1_succ {g : Int} (h : 0 ≤ g ∧ g < 4) : sU (sU (sU (sU (sW1 g) (0 + g) 8) (4 + g) 10) (8 + g) 10) (12 + g) 100 = sW1 (g + 1) := by
  funext j
  simp only [sU, sW1]
  (repeat' split) <;> omega
theorem sW1_end : sU (sU (sW1 4) 88 60) 89 10 = sW0 := by
  funext j
  simp only [sU, sW1, sW0]
  (repeat' split) <;> omega
def mNw (K N : Nat → Nat) (I : Nat → Nat → Int) (A : Nat → Int → Int) (R : Nat → Nat → Option Nat) (Q : Nat → Int → Option Nat) (xm : Nat) : gPo := fun v K' N' I' A' R' Q' => v = none ∧ I' = I ∧ Q' = Q ∧ (∀ b, K b ≠ 0 → K' b = K b ∧ N' b = N b ∧ A' b = A b ∧ (b ≠ xm → ∀ f, R' f b = R f b)) ∧ ∃ w sv tx ag, mS K' N' R' xm w sv tx ag ∧ w ≠ sv ∧ K w = 0 ∧ K sv = 0 ∧ K tx = 0 ∧ K ag = 0 ∧ A' w = sW0 ∧ A' sv = (fun _ => 0) ∧ A' tx = (fun _ => 0)
set_option maxHeartbeats 4000000 in
set_option maxRecDepth 100000 in
theorem lp_M_init {Y : gEnv} {X : gCtx} {po : gPo} {K N : Nat → Nat} {I : Nat → Nat → Int} {A : Nat → Int → Int} {R : Nat → Nat → Option Nat} {Q : Nat → Int → Option Nat} {xm w sv tx ag : Nat} (hMS : mS K N R xm w sv tx ag) (hpo : ∀ A', A' w = sW0 → (∀ b, b ≠ w → A' b = A b) → po none K N I A' R Q) : ∀ (f m : Nat) (g : Int) (A1 : Nat → Int → Int), m < f → 0 ≤ g → g + m = 4 → A1 w = sW1 g → (∀ b, b ≠ w → A1 b = A b) → gJ Y X yX13_init cX13_init 2 none ({ frames := 1, cells := 4, slots := 11526, locals := 12 } : Room) po gno 4 11526 40 [(0, .ref xm), (1, vi g)] [] K N I A1 R Q := by
  intro f
  induction f with
  | zero => intro m g A1 h; omega
  | succ f ih =>
  intro m g A1 hf hg hm hA1 hA2
  refine g_iload_n dX13_init_40 rfl rfl ?_
  refine g_iconst dX13_init_41 ?_
  refine g_icmp_ge (tgt := 97) dX13_init_42 (by decide) (by omega) (by omega) (fun c_42 => ?_) (fun c_42 => ?_)
  · refine g_aload_n dX13_init_97 rfl rfl ?_
    refine g_get_Model_w dX13_init_98 mw_1155 hMS.1 hMS.2.1 ?_
    refine g_bipush dX13_init_101 (by decide) ?_
    refine g_ldc2 (c := 60) dX13_init_103 mw_1154 (by decide) ?_
    refine g_lastore dX13_init_106 hMS.2.2.2.2.2.1 (by rw [hMS.2.2.2.2.2.2.1]; decide) (by rw [hMS.2.2.2.2.2.2.1]; omega) (fun A106 hA106 => ?_)
    have eA106 := congrFun (hA106.trans (g_uq_rw _ _ _ _)) w
    rw [g_rw_at] at eA106
    refine g_aload_n dX13_init_107 rfl rfl ?_
    refine g_get_Model_w dX13_init_108 mw_1155 hMS.1 hMS.2.1 ?_
    refine g_bipush dX13_init_111 (by decide) ?_
    refine g_ldc2 (c := 10) dX13_init_113 mw_1152 (by decide) ?_
    refine g_lastore dX13_init_116 hMS.2.2.2.2.2.1 (by rw [hMS.2.2.2.2.2.2.1]; decide) (by rw [hMS.2.2.2.2.2.2.1]; omega) (fun A116 hA116 => ?_)
    have eA116 := congrFun (hA116.trans (g_uq_rw _ _ _ _)) w
    rw [g_rw_at] at eA116
    exact g_vret dX13_init_117 rfl (by decide) (by decide) (by
      have g4 : g = 4 := by omega
      subst g4
      refine hpo A116 ?_ (fun b hb => ?_)
      · rw [eA116, eA106, hA1, sW1_end]
      · rw [hA116, g_uq_off _ _ _ hb, hA106, g_uq_off _ _ _ hb]; exact hA2 b hb)
  · refine g_aload_n dX13_init_45 rfl rfl ?_
    refine g_get_Model_w dX13_init_46 mw_1155 hMS.1 hMS.2.1 ?_
    refine g_iconst dX13_init_49 ?_
    refine g_iload_n dX13_init_50 rfl rfl ?_
    refine g_iadd dX13_init_51 ?_
    refine g_ldc2 (c := 8) dX13_init_52 mw_1151 (by decide) ?_
    refine g_lastore dX13_init_55 hMS.2.2.2.2.2.1 (by rw [hMS.2.2.2.2.2.2.1]; decide) (by rw [hMS.2.2.2.2.2.2.1]; omega) (fun A55 hA55 => ?_)
    have eA55 := congrFun (hA55.trans (g_uq_rw _ _ _ _)) w
    rw [g_rw_at] at eA55
    refine g_aload_n dX13_init_56 rfl rfl ?_
    refine g_get_Model_w dX13_init_57 mw_1155 hMS.1 hMS.2.1 ?_
    refine g_iconst dX13_init_60 ?_
    refine g_iload_n dX13_init_61 rfl rfl ?_
    refine g_iadd dX13_init_62 ?_
    refine g_ldc2 (c := 10) dX13_init_63 mw_1152 (by decide) ?_
    refine g_lastore dX13_init_66 hMS.2.2.2.2.2.1 (by rw [hMS.2.2.2.2.2.2.1]; decide) (by rw [hMS.2.2.2.2.2.2.1]; omega) (fun A66 hA66 => ?_)
    have eA66 := congrFun (hA66.trans (g_uq_rw _ _ _ _)) w
    rw [g_rw_at] at eA66
    refine g_aload_n dX13_init_67 rfl rfl ?_
    refine g_get_Model_w dX13_init_68 mw_1155 hMS.1 hMS.2.1 ?_
    refine g_bipush dX13_init_71 (by decide) ?_
    refine g_iload_n dX13_init_73 rfl rfl ?_
    refine g_iadd dX13_init_74 ?_
    refine g_ldc2 (c := 10) dX13_init_75 mw_1152 (by decide) ?_
    refine g_lastore dX13_init_78 hMS.2.2.2.2.2.1 (by rw [hMS.2.2.2.2.2.2.1]; decide) (by rw [hMS.2.2.2.2.2.2.1]; omega) (fun A78 hA78 => ?_)
    have eA78 := congrFun (hA78.trans (g_uq_rw _ _ _ _)) w
    rw [g_rw_at] at eA78
    refine g_aload_n dX13_init_79 rfl rfl ?_
    refine g_get_Model_w dX13_init_80 mw_1155 hMS.1 hMS.2.1 ?_
    refine g_bipush dX13_init_83 (by decide) ?_
    refine g_iload_n dX13_init_85 rfl rfl ?_
    refine g_iadd dX13_init_86 ?_
    refine g_ldc2 (c := 100) dX13_init_87 mw_1153 (by decide) ?_
    refine g_lastore dX13_init_90 hMS.2.2.2.2.2.1 (by rw [hMS.2.2.2.2.2.2.1]; decide) (by rw [hMS.2.2.2.2.2.2.1]; omega) (fun A90 hA90 => ?_)
    have eA90 := congrFun (hA90.trans (g_uq_rw _ _ _ _)) w
    rw [g_rw_at] at eA90
    refine g_iinc dX13_init_91 rfl (by decide) ?_
    refine g_goto (tgt := 40) dX13_init_94 (by decide) ?_
    exact g_locs (by exact ⟨rfl, rfl, trivial⟩) (ih (m - 1) (g + 1) A90 (by omega) (by omega) (by omega) (by rw [eA90, eA78, eA66, eA55, hA1, sW1_succ ⟨hg, by omega⟩]) (fun b hb => by rw [hA90, g_uq_off _ _ _ hb, hA78, g_uq_off _ _ _ hb, hA66, g_uq_off _ _ _ hb, hA55, g_uq_off _ _ _ hb]; exact hA2 b hb))
set_option maxHeartbeats 4000000 in
set_option maxRecDepth 100000 in
theorem k_M_init (Y : gEnv) {K N : Nat → Nat} {I : Nat → Nat → Int} {A : Nat → Int → Int} {R : Nat → Nat → Option Nat} {Q : Nat → Int → Option Nat} {xm : Nat} (hK : K xm = 11) : gC Y yX13_init cX13_init 2 none ({ frames := 1, cells := 4, slots := 11526, locals := 12 } : Room) [.ref xm] K N I A R Q (mNw K N I A R Q xm) gno := by
  refine gC_of (by decide) (Nat.le_of_ble_eq_true rfl) (fun X => ?_)
  refine g_aload_n dX13_init_0 rfl rfl ?_
  refine g_objInit dX13_init_1 mw_1150 mw_95 mw_96 (by decide) (by decide) ?_
  refine g_aload_n dX13_init_4 rfl rfl ?_
  refine g_sipush dX13_init_5 (by decide) ?_
  refine g_newa_l (m := 1618) dX13_init_8 mw_1186 (by decide) (by decide) (by decide) (by decide) (fun w K8 N8 A8 zw hK8 hN8 hA8 => ?_)
  have k8 : K8 xm = 11 := by rw [hK8, va_up_ne _ _ (fun e => by rw [e, zw] at hK; cases hK)]; exact hK
  refine g_put_Model_w dX13_init_10 mw_1155 k8 rfl rfl (fun R10 hR10 => ?_)
  refine g_aload_n dX13_init_13 rfl rfl ?_
  refine g_sipush dX13_init_14 (by decide) ?_
  refine g_newa_l (m := 9708) dX13_init_17 mw_1186 (by decide) (by decide) (by decide) (by decide) (fun sv K17 N17 A17 zsv hK17 hN17 hA17 => ?_)
  have k17 : K17 xm = 11 := by rw [hK17, va_up_ne _ _ (fun e => by rw [e, zsv] at k8; cases k8)]; exact k8
  refine g_put_Model_saved dX13_init_19 mw_1156 k17 rfl rfl (fun R19 hR19 => ?_)
  refine g_aload_n dX13_init_22 rfl rfl ?_
  refine g_bipush dX13_init_23 (by decide) ?_
  refine g_newa_i (m := 100) dX13_init_25 mw_129 (by decide) (by decide) (by decide) (by decide) (fun tx K25 N25 A25 ztx hK25 hN25 hA25 => ?_)
  have k25 : K25 xm = 11 := by rw [hK25, va_up_ne _ _ (fun e => by rw [e, ztx] at k17; cases k17)]; exact k17
  refine g_put_Model_text dX13_init_27 mw_1157 k25 rfl rfl (fun R27 hR27 => ?_)
  refine g_aload_n dX13_init_30 rfl rfl ?_
  refine g_bipush dX13_init_31 (by decide) ?_
  refine g_newa_i (m := 100) dX13_init_33 mw_129 (by decide) (by decide) (by decide) (by decide) (fun ag K33 N33 A33 zag hK33 hN33 hA33 => ?_)
  have k33 : K33 xm = 11 := by rw [hK33, va_up_ne _ _ (fun e => by rw [e, zag] at k25; cases k25)]; exact k25
  refine g_put_Model_argument dX13_init_35 mw_1158 k33 rfl rfl (fun R35 hR35 => ?_)
  have kw : K8 w = 14 := by rw [hK8, va_up_self]
  have n12 : sv ≠ w := fun e => by rw [e, kw] at zsv; cases zsv
  have kw2 : K17 w = 14 := by rw [hK17, va_up_ne _ _ (fun e => n12 e.symm)]; exact kw
  have ks : K17 sv = 14 := by rw [hK17, va_up_self]
  have n13 : tx ≠ w := fun e => by rw [e, kw2] at ztx; cases ztx
  have n23 : tx ≠ sv := fun e => by rw [e, ks] at ztx; cases ztx
  have kw3 : K25 w = 14 := by rw [hK25, va_up_ne _ _ (fun e => n13 e.symm)]; exact kw2
  have ks3 : K25 sv = 14 := by rw [hK25, va_up_ne _ _ (fun e => n23 e.symm)]; exact ks
  have kt : K25 tx = 13 := by rw [hK25, va_up_self]
  have n14 : ag ≠ w := fun e => by rw [e, kw3] at zag; cases zag
  have n24 : ag ≠ sv := fun e => by rw [e, ks3] at zag; cases zag
  have n34 : ag ≠ tx := fun e => by rw [e, kt] at zag; cases zag
  have kw4 : K33 w = 14 := by rw [hK33, va_up_ne _ _ (fun e => n14 e.symm)]; exact kw3
  have ks4 : K33 sv = 14 := by rw [hK33, va_up_ne _ _ (fun e => n24 e.symm)]; exact ks3
  have kt4 : K33 tx = 13 := by rw [hK33, va_up_ne _ _ (fun e => n34 e.symm)]; exact kt
  have ka4 : K33 ag = 13 := by rw [hK33, va_up_self]
  have nw4 : N33 w = 1618 := by rw [hN33, va_up_ne _ _ (fun e => n14 e.symm), hN25, va_up_ne _ _ (fun e => n13 e.symm), hN17, va_up_ne _ _ (fun e => n12 e.symm), hN8, va_up_self]
  have ns4 : N33 sv = 9708 := by rw [hN33, va_up_ne _ _ (fun e => n24 e.symm), hN25, va_up_ne _ _ (fun e => n23 e.symm), hN17, va_up_self]
  have nt4 : N33 tx = 100 := by rw [hN33, va_up_ne _ _ (fun e => n34 e.symm), hN25, va_up_self]
  have na4 : N33 ag = 100 := by rw [hN33, va_up_self]
  have xw : xm ≠ w := fun e => by rw [e, zw] at hK; cases hK
  have zs0 : K sv = 0 := by rw [hK8, va_up_ne _ _ n12] at zsv; exact zsv
  have zt0 : K tx = 0 := by rw [hK17, va_up_ne _ _ n23, hK8, va_up_ne _ _ n13] at ztx; exact ztx
  have za0 : K ag = 0 := by rw [hK25, va_up_ne _ _ n34, hK17, va_up_ne _ _ n24, hK8, va_up_ne _ _ n14] at zag; exact zag
  have hMS : mS K33 N33 R35 xm w sv tx ag := ⟨k33, by rw [hR35, g_up_ne1 _ _ (by decide), hR27, g_up_ne1 _ _ (by decide), hR19, g_up_ne1 _ _ (by decide), hR10, g_up_eq], by rw [hR35, g_up_ne1 _ _ (by decide), hR27, g_up_ne1 _ _ (by decide), hR19, g_up_eq], by rw [hR35, g_up_ne1 _ _ (by decide), hR27, g_up_eq], by rw [hR35, g_up_eq], kw4, nw4, ks4, ns4, kt4, nt4, ka4, na4, fun e => n34 e.symm⟩
  have aw : A33 w = fun _ => 0 := by rw [hA33, g_zr_ne _ _ (fun e => n14 e.symm), hA25, g_zr_ne _ _ (fun e => n13 e.symm), hA17, g_zr_ne _ _ (fun e => n12 e.symm), hA8]; funext j; exact g_zr_eq _ _ _ _
  have as_ : A33 sv = fun _ => 0 := by rw [hA33, g_zr_ne _ _ (fun e => n24 e.symm), hA25, g_zr_ne _ _ (fun e => n23 e.symm), hA17]; funext j; exact g_zr_eq _ _ _ _
  have at_ : A33 tx = fun _ => 0 := by rw [hA33, g_zr_ne _ _ (fun e => n34 e.symm), hA25]; funext j; exact g_zr_eq _ _ _ _
  have hold : ∀ b, K b ≠ 0 → K33 b = K b ∧ N33 b = N b ∧ A33 b = A b ∧ (b ≠ xm → ∀ f, R35 f b = R f b) := fun b hb => by
    have b1 : b ≠ w := fun e => hb (by rw [e]; exact zw)
    have b2 : b ≠ sv := fun e => hb (by rw [e]; exact zs0)
    have b3 : b ≠ tx := fun e => hb (by rw [e]; exact zt0)
    have b4 : b ≠ ag := fun e => hb (by rw [e]; exact za0)
    refine ⟨by rw [hK33, va_up_ne _ _ b4, hK25, va_up_ne _ _ b3, hK17, va_up_ne _ _ b2, hK8, va_up_ne _ _ b1], by rw [hN33, va_up_ne _ _ b4, hN25, va_up_ne _ _ b3, hN17, va_up_ne _ _ b2, hN8, va_up_ne _ _ b1], by rw [hA33, g_zr_ne _ _ b4, hA25, g_zr_ne _ _ b3, hA17, g_zr_ne _ _ b2, hA8, g_zr_ne _ _ b1], fun hx f => by rw [hR35, g_up_ne2 _ _ hx, hR27, g_up_ne2 _ _ hx, hR19, g_up_ne2 _ _ hx, hR10, g_up_ne2 _ _ hx]⟩
  clear hK8 hN8 hA8 hR10 hK17 hN17 hA17 hR19 hK25 hN25 hA25 hR27 hK33 hN33 hA33 hR35
  refine g_iconst dX13_init_38 ?_
  refine g_istore_n dX13_init_39 rfl (by decide) ?_
  exact g_locs (by exact ⟨rfl, rfl, trivial⟩) (lp_M_init hMS (fun A' e1 e2 => ⟨rfl, rfl, rfl, fun b hb => ⟨(hold b hb).1, (hold b hb).2.1, (e2 b (fun e => hb (by rw [e]; exact zw))).trans (hold b hb).2.2.1, (hold b hb).2.2.2⟩, w, sv, tx, ag, hMS, fun e => n12 e.symm, zw, zs0, zt0, za0, e1, (e2 sv n12).trans as_, (e2 tx n13).trans at_⟩) _ 4 0 A33 (Nat.lt_succ_self _) (Int.le_refl _) (by omega) (by rw [aw, sW1_0]) (fun _ _ => rfl))
theorem iN_sW0 : iN sW0 := by
  refine ⟨fun g a b => ?_, fun i a b => ?_, fun i a b => ?_, ⟨by decide, by decide, fun p a b => ?_, fun p q a b c => ?_⟩, ⟨by decide, by decide, fun p a b => ?_, fun p q a b c => ?_⟩, ⟨by decide, by decide, fun p a b => ?_⟩, ⟨by decide, by decide, by decide, by decide, by decide, by decide, by decide, by decide, by decide, by decide⟩, by decide, by decide⟩
  · have h : g = 0 ∨ g = 1 ∨ g = 2 ∨ g = 3 := by omega
    rcases h with rfl | rfl | rfl | rfl <;> decide
  · have e1 : sW0 (16 + i) = 0 := by
      simp only [sW0]
      (repeat' split) <;> omega
    have e2 : sW0 (40 + i) = 0 := by
      simp only [sW0]
      (repeat' split) <;> omega
    rw [e1, e2]; decide
  · have e1 : sW0 (64 + i) = 0 := by
      simp only [sW0]
      (repeat' split) <;> omega
    have e2 : sW0 1610 = 0 := by decide
    rw [e1, e2]; decide
  · have e : sW0 1613 = 0 := by decide
    omega
  · have e : sW0 1613 = 0 := by decide
    omega
  · have e : sW0 1614 = 0 := by decide
    omega
  · have e : sW0 1614 = 0 := by decide
    omega
  · have e : sW0 1615 = 0 := by decide
    omega
theorem lOk_0 : lOk sW0 0 (fun _ => 0) (fun _ => 0) 0 := by
  refine ⟨fun l a b => ?_, fun j => ?_, ⟨fun j => ⟨by show (_ : Int) ≤ 0; decide, by show (0 : Int) ≤ _; decide⟩, fun i a b => by omega⟩, fun j a b => ⟨Int.le_refl _, by show (0 : Int) ≤ 126; decide⟩, by omega, by omega⟩
  · have e0 : sW0 1614 = 0 := by decide
    have e1 : sW0 (890 + l) = 0 := by
      simp only [sW0]
      (repeat' split) <;> omega
    have e2 : sW0 (1050 + l) = 0 := by
      simp only [sW0]
      (repeat' split) <;> omega
    have e3 : sW0 (1210 + l) = 0 := by
      simp only [sW0]
      (repeat' split) <;> omega
    exact ⟨e1, e2, e3⟩
  · simp only [sW0]
    (repeat' split) <;> omega
theorem cI.sup {K N : Nat → Nat} {I : Nat → Nat → Int} {A : Nat → Int → Int} {R : Nat → Nat → Option Nat} {Q : Nat → Int → Option Nat} {G : Nat → Nat × Int} {M : Nat → Prop} {x s h hq sc sg ar : Nat} {W SV T : Int → Int} {n len : Int} {K1 N1 : Nat → Nat} {I1 : Nat → Nat → Int} {A1 : Nat → Int → Int} {R1 : Nat → Nat → Option Nat} {Q1 : Nat → Int → Option Nat} {M1 : Nat → Prop} (hI : cI K N I A R Q G M x s h hq sc sg ar W n SV T len) (hx : ∀ b, K b ≠ 0 → K1 b = K b ∧ N1 b = N b ∧ (∀ f, I1 f b = I f b) ∧ A1 b = A b ∧ (∀ f, R1 f b = R f b) ∧ Q1 b = Q b) (hM1 : ∀ b, M1 b → M b ∨ (K b = 0 ∧ K1 b ≠ 0 ∧ K1 b ≠ 9)) : cI K1 N1 I1 A1 R1 Q1 G M1 x s h hq sc sg ar W n SV T len := by
  have g : gEx hq K N I A R Q G K1 N1 I1 A1 R1 Q1 G := fun b hb => ⟨(hx b hb).1, (hx b hb).2.1, rfl, fun _ => ⟨(hx b hb).2.2.1, (hx b hb).2.2.2.1, (hx b hb).2.2.2.2.1, (hx b hb).2.2.2.2.2⟩⟩
  have hI2 := hI
  obtain ⟨⟨x1, x2, x3, x4⟩, ⟨h1, h2, h3, h4, h5, h6, h7⟩, ⟨c1, c2, c3⟩, st, sv, hs, gg, hM⟩ := hI
  have kd : sKd (K hq) := by rw [h3]; unfold sKd; omega
  have eq := hx hq (by rw [h3]; decide)
  have eh := hx h (by rw [h1]; decide)
  have z : ∀ b, K1 b = 0 → G b = (b, 0) := fun b hb => gg.2.2.2.2.2.2 b (Decidable.byContradiction (fun e => e ((hx b e).1.symm.trans hb)))
  obtain ⟨r, -⟩ := hI2.ex g ⟨h6, h7⟩ (hs.keep h7 g kd eq.2.2.2.2.2) ((eh.2.2.1 61).trans h5) z
  obtain ⟨a1, a2, a3, a4, a5, a6, a7, a8⟩ := r
  refine ⟨a1, a2, a3, a4, a5, a6, a7, fun b hb => ?_⟩
  rcases hM1 b hb with h' | ⟨k0, k1, k9⟩
  · exact a8 b h'
  · have ne : ∀ c, K c ≠ 0 → b ≠ c := fun c hc e => hc (by rw [← e]; exact k0)
    exact ⟨k1, k9, by rw [gg.2.2.2.2.2.2 b k0], ne x (by rw [x1]; decide), ne h (by rw [h1]; decide), ne hq (by rw [h3]; decide), ne sc (by rw [c1.1]; decide), ne sg (by rw [c1.2.2.1]; decide), ne ar (by rw [c1.2.2.2.2.2.1]; decide)⟩
set_option maxHeartbeats 4000000 in
set_option maxRecDepth 100000 in
theorem k_A_init (Y : gEnv) {K N : Nat → Nat} {I : Nat → Nat → Int} {A : Nat → Int → Int} {R : Nat → Nat → Option Nat} {Q : Nat → Int → Option Nat} {x : Nat} (hK : K x = 10) : gC Y yX12_init cX12_init 1 none ({ frames := 3, cells := 322, slots := 2076, locals := 60 } : Room) [.ref x] K N I A R Q (fun v K' N' I' A' R' Q' => v = none ∧ ∃ (G' : Nat → Nat × Int) (s h hq sc sg ar : Nat), cI K' N' I' A' R' Q' G' (fun _ => False) x s h hq sc sg ar sW0 0 (fun _ => 0) (fun _ => 0) 0) gno := by
  refine gC_of (by decide) (Nat.le_of_ble_eq_true rfl) (fun X => ?_)
  refine g_aload_n dX12_init_0 rfl rfl ?_
  refine g_objInit dX12_init_1 mw_94 mw_95 mw_96 (by decide) (by decide) ?_
  refine g_aload_n dX12_init_4 rfl rfl ?_
  refine g_new_State dX12_init_5 mw_97 mw_98 mw_64 (by decide) (by decide) (fun q5 K5 I5 R5 z5 hK5 hI5 hR5 => ?_)
  have k5x : K5 x = 10 := by rw [hK5, va_up_ne _ _ (fun e => by rw [e, z5] at hK; cases hK)]; exact hK
  have s5x : x ≠ q5 := fun e => by rw [e, z5] at hK; cases hK
  refine g_dup dX12_init_8 rfl ?_
  refine g_callI (k_N_State Y (G := fun b => (b, 0)) (by rw [hK5, va_up_self]) rfl (fun f => by rw [hI5, g_z_eq])) u_X10_init mw_99 dX12_init_9 rfl rfl ⟨Nat.le_of_ble_eq_true rfl, Nat.le_of_ble_eq_true rfl⟩ ⟨Nat.le_of_ble_eq_true rfl, Nat.le_of_ble_eq_true rfl⟩ (Nat.le_of_ble_eq_true rfl) (fun v9 K9 N9 I9 A9 R9 Q9 h9 => ?_)
  obtain ⟨rfl, G9, x9, z9, b9⟩ := h9
  have x9x := x9 x (by rw [k5x]; decide)
  have k9x : K9 x = 10 := x9x.1.trans k5x
  have g9x : G9 x = (x, 0) := x9x.2.2.1
  refine g_put_TileFactory_state dX12_init_12 mw_348 k9x rfl rfl (fun R12 hR12 => ?_)
  refine g_aload_n dX12_init_15 rfl rfl ?_
  refine g_new_History dX12_init_16 mw_301 mw_302 mw_71 (by decide) (by decide) (fun q16 K16 I16 R16 z16 hK16 hI16 hR16 => ?_)
  have n16 : x ≠ q16 := fun e => by rw [e, z16] at k9x; cases k9x
  have k16x : K16 x = 10 := by rw [hK16, va_up_ne _ _ n16]; exact k9x
  refine g_dup dX12_init_19 rfl ?_
  refine g_callIN (k_N_History Y (by rw [hK16, va_up_self])) u_X5_init mw_303 dX12_init_20 rfl rfl ⟨Nat.le_of_ble_eq_true rfl, Nat.le_of_ble_eq_true rfl⟩ ⟨Nat.le_of_ble_eq_true rfl, Nat.le_of_ble_eq_true rfl⟩ (Nat.le_of_ble_eq_true rfl) (fun v20 K20 N20 I20 A20 R20 Q20 h20 => ?_)
  obtain ⟨rfl, i20, a20, hq, zhq, k20, n20, q20, f20, r20, ef20⟩ := h20
  subst ef20
  have nhq : x ≠ hq := fun e => by rw [e, zhq] at k16x; cases k16x
  have k20x : K20 x = 10 := by rw [k20, va_up_ne _ _ nhq]; exact k16x
  refine g_put_TileFactory_history dX12_init_23 mw_349 k20x rfl rfl (fun R23 hR23 => ?_)
  refine g_aload_n dX12_init_26 rfl rfl ?_
  refine g_new_Script dX12_init_27 mw_317 mw_318 mw_72 (by decide) (by decide) (fun q27 K27 I27 R27 z27 hK27 hI27 hR27 => ?_)
  have n27 : x ≠ q27 := fun e => by rw [e, z27] at k20x; cases k20x
  have k27x : K27 x = 10 := by rw [hK27, va_up_ne _ _ n27]; exact k20x
  refine g_dup dX12_init_30 rfl ?_
  refine g_callIN (k_N_Script Y (by rw [hK27, va_up_self])) u_X9_init mw_319 dX12_init_31 rfl rfl ⟨Nat.le_of_ble_eq_true rfl, Nat.le_of_ble_eq_true rfl⟩ ⟨Nat.le_of_ble_eq_true rfl, Nat.le_of_ble_eq_true rfl⟩ (Nat.le_of_ble_eq_true rfl) (fun v31 K31 N31 I31 A31 R31 Q31 h31 => ?_)
  obtain ⟨rfl, i31, q31, sg, ar, zsg, zar, nsa, k31, n31, a31, r31⟩ := h31
  have nsg : x ≠ sg := fun e => by rw [e, zsg] at k27x; cases k27x
  have nar : x ≠ ar := fun e => by rw [e, zar] at k27x; cases k27x
  have k31x : K31 x = 10 := by rw [k31, va_up_ne _ _ nar, va_up_ne _ _ nsg]; exact k27x
  refine g_put_TileFactory_script dX12_init_34 mw_350 k31x rfl rfl (fun R34 hR34 => ?_)
  have kh16 : K16 q16 = 4 := by rw [hK16, va_up_self]
  have e1 : hq ≠ q16 := fun e => by rw [e, kh16] at zhq; cases zhq
  have kh20 : K20 q16 = 4 := by rw [k20, va_up_ne _ _ (fun e => e1 e.symm)]; exact kh16
  have kq20 : K20 hq = 20 := by rw [k20, va_up_self]
  have e2 : q27 ≠ q16 := fun e => by rw [e, kh20] at z27; cases z27
  have e3 : q27 ≠ hq := fun e => by rw [e, kq20] at z27; cases z27
  have kh27 : K27 q16 = 4 := by rw [hK27, va_up_ne _ _ (fun e => e2 e.symm)]; exact kh20
  have kq27 : K27 hq = 20 := by rw [hK27, va_up_ne _ _ (fun e => e3 e.symm)]; exact kq20
  have kc27 : K27 q27 = 8 := by rw [hK27, va_up_self]
  have e4 : sg ≠ q16 := fun e => by rw [e, kh27] at zsg; cases zsg
  have e5 : sg ≠ hq := fun e => by rw [e, kq27] at zsg; cases zsg
  have e6 : sg ≠ q27 := fun e => by rw [e, kc27] at zsg; cases zsg
  have e7 : ar ≠ q16 := fun e => by rw [e, kh27] at zar; cases zar
  have e8 : ar ≠ hq := fun e => by rw [e, kq27] at zar; cases zar
  have e9 : ar ≠ q27 := fun e => by rw [e, kc27] at zar; cases zar
  have kh : K31 q16 = 4 := by rw [k31, va_up_ne _ _ (fun e => e7 e.symm), va_up_ne _ _ (fun e => e4 e.symm)]; exact kh27
  have kq : K31 hq = 20 := by rw [k31, va_up_ne _ _ (fun e => e8 e.symm), va_up_ne _ _ (fun e => e5 e.symm)]; exact kq27
  have kc : K31 q27 = 8 := by rw [k31, va_up_ne _ _ (fun e => e9 e.symm), va_up_ne _ _ (fun e => e6 e.symm)]; exact kc27
  have kg : K31 sg = 12 := by rw [k31, va_up_ne _ _ nsa, va_up_self]
  have kr : K31 ar = 13 := by rw [k31, va_up_self]
  have nq : N31 hq = 6 := by rw [n31, va_up_ne _ _ (fun e => e8 e.symm), va_up_ne _ _ (fun e => e5 e.symm), n20, va_up_self]
  have ng : N31 sg = 100 := by rw [n31, va_up_ne _ _ nsa, va_up_self]
  have nr : N31 ar = 4 := by rw [n31, va_up_self]
  have zh9 : K9 q16 = 0 := z16
  have zq9 : K9 hq = 0 := by rw [hK16, va_up_ne _ _ e1] at zhq; exact zhq
  have zc9 : K9 q27 = 0 := by rw [k20, va_up_ne _ _ e3, hK16, va_up_ne _ _ e2] at z27; exact z27
  have zg9 : K9 sg = 0 := by rw [hK27, va_up_ne _ _ e6, k20, va_up_ne _ _ e5, hK16, va_up_ne _ _ e4] at zsg; exact zsg
  have zr9 : K9 ar = 0 := by rw [hK27, va_up_ne _ _ e9, k20, va_up_ne _ _ e8, hK16, va_up_ne _ _ e7] at zar; exact zar
  have gx : gEx x K9 N9 I9 A9 R9 Q9 G9 K31 N31 I31 A31 R34 Q31 G9 := fun b hb => by
    have b1 : b ≠ q16 := fun e => hb (by rw [e]; exact zh9)
    have b2 : b ≠ hq := fun e => hb (by rw [e]; exact zq9)
    have b3 : b ≠ q27 := fun e => hb (by rw [e]; exact zc9)
    have b4 : b ≠ sg := fun e => hb (by rw [e]; exact zg9)
    have b5 : b ≠ ar := fun e => hb (by rw [e]; exact zr9)
    refine ⟨by rw [k31, va_up_ne _ _ b5, va_up_ne _ _ b4, hK27, va_up_ne _ _ b3, k20, va_up_ne _ _ b2, hK16, va_up_ne _ _ b1], by rw [n31, va_up_ne _ _ b5, va_up_ne _ _ b4, n20, va_up_ne _ _ b2], rfl, fun hx => ⟨fun f => by rw [i31, hI27, g_z_ne _ _ _ b3, i20, hI16, g_z_ne _ _ _ b1], by rw [a31, g_zr_ne _ _ b5, g_zr_ne _ _ b4, a20], fun f => by rw [hR34, g_up_ne2 _ _ hx, r31, g_up_ne2 _ _ b3, g_up_ne2 _ _ b3, hR27, g_z_ne _ _ _ b3, hR23, g_up_ne2 _ _ hx, r20, g_up_ne2 _ _ b1, hR16, g_z_ne _ _ _ b1, hR12, g_up_ne2 _ _ hx], by rw [q31, q20, g_zr_ne _ _ b2]⟩⟩
  have kdx : sKd (K9 x) := by rw [k9x]; unfold sKd; omega
  obtain ⟨ev, kq_, nq_, hev, hev0⟩ := b9.2.2.2.2.2.2.2.1
  have st9 : cSt K9 N9 I9 R9 Q9 G9 q5 := ⟨b9.sh.1, b9.sh.2, ev, kq_, nq_, hev⟩
  have sv9 : cSv K9 N9 I9 A9 R9 Q9 G9 q5 sW0 := ⟨iN_sW0, b9.ag, ev, kq_, nq_, hev, hev0.trans (by decide), fun i a b => absurd (show i < 0 from b) (Int.not_lt.mpr a)⟩
  have zG : ∀ b, K31 b = 0 → G9 b = (b, 0) := fun b hb => z9 b (Decidable.byContradiction (fun e => e ((gx b e).1.symm.trans hb)))
  have r180 : R34 180 x = some q5 := by rw [hR34, g_up_ne1 _ _ (by decide), r31, g_up_ne2 _ _ n27, g_up_ne2 _ _ n27, hR27, g_z_ne _ _ _ n27, hR23, g_up_ne1 _ _ (by decide), r20, g_up_ne2 _ _ n16, hR16, g_z_ne _ _ _ n16, hR12, g_up_eq]
  have r181 : R34 181 x = some q16 := by rw [hR34, g_up_ne1 _ _ (by decide), r31, g_up_ne2 _ _ n27, g_up_ne2 _ _ n27, hR27, g_z_ne _ _ _ n27, hR23, g_up_eq]
  have r182 : R34 182 x = some q27 := by rw [hR34, g_up_eq]
  have r60 : R34 60 q16 = some hq := by rw [hR34, g_up_ne1 _ _ (by decide), r31, g_up_ne1 _ _ (by decide), g_up_ne1 _ _ (by decide), hR27, g_z_ne _ _ _ (fun e => e2 e.symm), hR23, g_up_ne1 _ _ (by decide), r20, g_up_eq]
  have r140 : R34 140 q27 = some sg := by rw [hR34, g_up_ne1 _ _ (by decide), r31, g_up_ne1 _ _ (by decide), g_up_eq]
  have r145 : R34 145 q27 = some ar := by rw [hR34, g_up_ne1 _ _ (by decide), r31, g_up_eq]
  have i61 : I31 61 q16 = 0 := by rw [i31, hI27, g_z_ne _ _ _ (fun e => e2 e.symm), i20, hI16, g_z_eq]
  have i141 : I31 141 q27 = 0 := by rw [i31, hI27, g_z_eq]
  have asg : A31 sg = fun _ => 0 := by rw [a31, g_zr_ne _ _ nsa]; funext j; exact g_zr_eq _ _ _ _
  have qhq : ∀ i, Q31 hq i = none := fun i => by rw [q31, q20, g_zr_eq]
  have hfin : cI K31 N31 I31 A31 R34 Q31 G9 (fun _ => False) x q5 q16 hq q27 sg ar sW0 0 (fun _ => 0) (fun _ => 0) 0 := ⟨⟨k31x, r180, r181, r182⟩, ⟨kh, r60, kq, nq, i61, Int.le_refl _, by decide⟩, ⟨⟨kc, r140, kg, ng, r145, kr, nr⟩, i141, asg⟩, st9.keep gx kdx, sv9.keep st9.1 gx kdx, ⟨fun i a b t e => absurd (e.symm.trans (qhq i)) (by simp), fun i a b => absurd b (Int.not_lt.mpr a)⟩, ⟨by rw [g9x], by rw [z9 _ zh9], by rw [z9 _ zq9], by rw [z9 _ zc9], by rw [z9 _ zg9], by rw [z9 _ zr9], zG⟩, fun b hb => hb.elim⟩
  exact g_vret dX12_init_37 rfl (by decide) (by decide) ⟨rfl, G9, q5, q16, hq, q27, sg, ar, hfin⟩
