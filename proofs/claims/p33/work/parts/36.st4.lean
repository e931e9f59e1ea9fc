set_option maxHeartbeats 1000000 in
set_option maxRecDepth 100000 in
theorem k_S_dropBox (Y : gEnv) {K N : Nat → Nat} {I : Nat → Nat → Int} {A : Nat → Int → Int} {R : Nat → Nat → Option Nat} {Q : Nat → Int → Option Nat} {s : Nat} {G : Nat → Nat × Int} {W : Int → Int} (hsh : cSh K N R Q G s) (hag : ag (cV I R Q s) W) {ev kq nq : Nat} (hev : cEv K N R G s ev kq nq) (hE : cE I A ev kq nq W) (h0 : iN W) (a b c d : Int) (ha : (-2147483648 ≤ a ∧ a ≤ 2147483647)) (hb : (-2147483648 ≤ b ∧ b ≤ 2147483647)) (hc : (-2147483648 ≤ c ∧ c ≤ 2147483647)) (hd : 0 ≤ d ∧ d ≤ W 89) (hl : 0 ≤ sFind W a b c ∧ sFind W a b c < W 1614) (hx : W (1050 + sFind W a b c) ≠ 0) : gC Y yX10_dropBox cX10_dropBox 7 (some .int) ({ frames := 3, cells := 0, slots := 0, locals := 163 } : Room) [.ref s, vi a, vi b, vi c, vi d] K N I A R Q (g_wr K N R Q (fun v I' A' => v = some (vi (W (1050 + sFind W a b c) - 1)) ∧ cPe R Q G s ev kq nq I I' A A' (sDrop W a b c d))) gno := by
  refine gC_of (by decide) (Nat.le_of_ble_eq_true rfl) (fun X => ?_)
  obtain ⟨hKs, hGs, ⟨zg1, zg2, zg3, zg4, zg5⟩, ⟨zq1, zq2, zq3, zq4, zq5⟩, ⟨zp1, zp2, zp3, zp4, zp5⟩, ⟨zl1, zl2, zl3, zl4, zl5⟩, ⟨zd1, zd2, zd3, zd4, zd5⟩⟩ := id hsh
  have c88 : I 166 s = W 88 := ar_166 hag
  have c89 : I 167 s = W 89 := ar_167 hag
  have c10 : I 171 s = W 1610 := ar_171 hag
  have c11 : I 172 s = W 1611 := ar_172 hag
  have c12 : I 173 s = W 1612 := ar_173 hag
  have c13 : I 168 s = W 1613 := ar_168 hag
  have c14 : I 169 s = W 1614 := ar_169 hag
  have c15 : I 170 s = W 1615 := ar_170 hag
  have hP := h0.2.2.2.1
  have hL := h0.2.2.2.2.1
  have n15 : 0 ≤ W 1615 ∧ W 1615 ≤ 40 := ⟨h0.2.2.2.2.2.1.1, h0.2.2.2.2.2.1.2.1⟩
  have nD := h0.2.2.2.2.2.1.2.2
  have nG := h0.1
  have nO := h0.2.1
  have nB := h0.2.2.1
  obtain ⟨s1, s2, s3, s4, s5, s6, s7, s8, s9, s10⟩ := h0.2.2.2.2.2.2.1
  have hsu := h0.sums
  have n13 : 0 ≤ W 1613 ∧ W 1613 ≤ 80 := ⟨hP.1, hP.2.1⟩
  have nP := hP.2.2.1
  have n14 : 0 ≤ W 1614 ∧ W 1614 ≤ 160 := ⟨hL.1, hL.2.1⟩
  have nL := hL.2.2.1
  obtain ⟨ev1, ev2, ev3, ev4, ev5, ev6, ev7, ev8, ev9, ev10, ev11, ev12⟩ := id hev
  have evG : (G ev).1 = s ∧ (G kq).1 = s ∧ (G nq).1 = s := ⟨by rw [ev10], by rw [ev11], by rw [ev12]⟩
  refine g_aload_n dX10_dropBox_0 rfl rfl ?_
  refine g_iload_n dX10_dropBox_1 rfl rfl ?_
  refine g_iload_n dX10_dropBox_2 rfl rfl ?_
  refine g_iload_n dX10_dropBox_3 rfl rfl ?_
  refine g_callVp (i := 8) rfl (gK0 (by assumption)) (g_at8 (by assumption)) (k_S_indexOfLot Y hsh hag hL a b c ha hb hc) u_X10_indexOfLot mw_638 dX10_dropBox_4 rfl rfl ⟨Nat.le_of_ble_eq_true rfl, Nat.le_of_ble_eq_true rfl⟩ ⟨Nat.le_of_ble_eq_true rfl, Nat.le_of_ble_eq_true rfl⟩ (Nat.le_of_ble_eq_true rfl) ?_
  generalize hll : sFind W a b c = l at hl hx ⊢
  refine g_istore dX10_dropBox_7 (by decide) ?_
  refine g_aload_n dX10_dropBox_9 rfl rfl ?_
  refine g_iload dX10_dropBox_10 rfl ?_
  refine g_callVp (i := 8) rfl (gK0 (by assumption)) (g_at8 (by assumption)) (k_S_hasLot Y hsh hag hL l (by omega)) u_X10_hasLot mw_650 dX10_dropBox_12 rfl rfl ⟨Nat.le_of_ble_eq_true rfl, Nat.le_of_ble_eq_true rfl⟩ ⟨Nat.le_of_ble_eq_true rfl, Nat.le_of_ble_eq_true rfl⟩ (Nat.le_of_ble_eq_true rfl) ?_
  have b12 := ifd (0 ≤ l ∧ l < W 1614)
  generalize (if 0 ≤ l ∧ l < W 1614 then (1 : Int) else 0) = z12 at b12 ⊢
  refine g_if_ne (tgt := 20) dX10_dropBox_15 (by decide) (by omega) (fun c_15 => ?_) (fun c_15 => ?_)
  · refine g_aload_n dX10_dropBox_20 rfl rfl ?_
    refine g_get_State_lots dX10_dropBox_21 mw_209 (by assumption) (by assumption) ?_
    refine g_iload dX10_dropBox_24 rfl ?_
    obtain ⟨zla, zlb, zlc⟩ := zl5 l (by omega) (by omega)
    have hlot := h0.lot hl.1 hl.2
    have hpre := sDrop_pre h0 hl hd hx
    have hiE := h0.2.2.2.2.2.2.2
    have hpp : (W (1050 + l) - 1) * W 89 = W (1050 + l) * W 89 - W 89 := by rw [Int.sub_mul, Int.one_mul]
    refine g_aald_Lot dX10_dropBox_26 (by assumption) (by omega) (by omega) (by assumption) ?_
    refine g_astore dX10_dropBox_27 (by decide) ?_
    refine g_aload dX10_dropBox_29 rfl ?_
    refine g_dup dX10_dropBox_31 rfl ?_
    refine g_get_Lot_boxes dX10_dropBox_32 mw_162 (by assumption) ?_
    rw [ar_84 hag (i := l) (by omega) (by omega) (by omega)]
    refine g_iconst dX10_dropBox_35 ?_
    refine g_isub dX10_dropBox_36 ?_
    refine g_put_Lot_boxes dX10_dropBox_37 mw_162 (by assumption) (fun I37 hI37 => ?_)
    refine g_aload dX10_dropBox_40 rfl ?_
    refine g_dup dX10_dropBox_42 rfl ?_
    refine g_get_Lot_loose dX10_dropBox_43 mw_160 (by assumption) ?_
    rw [show I37 83 (aRow R Q s 163 l) = W (890 + l) by rw [hI37, g_up_ne1 _ _ (by omega), ar_83 hag (i := l) (by omega) (by omega) (by omega)]]
    refine g_aload_n dX10_dropBox_46 rfl rfl ?_
    refine g_get_State_boxSize dX10_dropBox_47 mw_217 (by assumption) ?_
    rw [show I37 167 s = W 89 by rw [hI37, g_up_ne1 _ _ (by omega), c89]]
    refine g_iload dX10_dropBox_50 rfl ?_
    refine g_isub dX10_dropBox_52 ?_
    refine g_iadd dX10_dropBox_53 ?_
    refine g_put_Lot_loose dX10_dropBox_54 mw_160 (by assumption) (fun I54 hI54 => ?_)
    refine g_aload dX10_dropBox_57 rfl ?_
    refine g_aload_n dX10_dropBox_59 rfl rfl ?_
    refine g_get_State_boxSize dX10_dropBox_60 mw_217 (by assumption) ?_
    rw [show I54 167 s = W 89 by rw [hI54, g_up_ne1 _ _ (by omega), hI37, g_up_ne1 _ _ (by omega), c89]]
    have e83 : I54 83 (aRow R Q s 163 l) = W (890 + l) + (W 89 - d) := by rw [hI54, g_up_eq]
    have e84 : I54 84 (aRow R Q s 163 l) = W (1050 + l) - 1 := by rw [hI54, g_up_ne1 _ _ (by omega), hI37, g_up_eq]
    have e85 : I54 85 (aRow R Q s 163 l) = W (1210 + l) := by rw [hI54, g_up_ne1 _ _ (by omega), hI37, g_up_ne1 _ _ (by omega), ar_85 hag (i := l) (by omega) (by omega) (by omega)]
    refine g_callVw (i := 4) rfl (gK0 (by assumption)) (g_at4 (by assumption)) (k_L_limit Y zlb (W 89) (by rw [e83, e84]; omega) (by rw [e85]; omega)) u_X6_limitHidden mw_739 dX10_dropBox_63 rfl rfl ⟨Nat.le_of_ble_eq_true rfl, Nat.le_of_ble_eq_true rfl⟩ ⟨Nat.le_of_ble_eq_true rfl, Nat.le_of_ble_eq_true rfl⟩ (Nat.le_of_ble_eq_true rfl) (fun v63 I63 A63 h63 => ?_)
    obtain ⟨rfl, i63, a63⟩ := h63
    obtain rfl := a63.symm
    rw [e83, e84, e85] at i63
    have v63 : cV I63 R Q s = sU (sU (sU (cV I R Q s) (1050 + l) (W (1050 + l) - 1)) (890 + l) (W (890 + l) + (W 89 - d))) (1210 + l) (sMin (W (1210 + l)) (W (890 + l) + (W 89 - d) + (W (1050 + l) - 1) * W 89)) := by rw [cu_85 hsh (by omega) (by omega) i63, cu_83 hsh (by omega) (by omega) hI54, cu_84 hsh (by omega) (by omega) hI37]
    have g63 : ag (cV I63 R Q s) (sDropW W l d) := by
      rw [v63, sU_comm (w := cV I R Q s) (show (1050 + l : Int) ≠ 890 + l by omega), sDropW, sLot3]
      exact ((hag.put (by omega)).put (by omega)).put (by omega)
    have o63 : cPo R Q G s I I63 A A (sDropW W l d) := ⟨rfl, fun q => by rw [i63, g_up_ne1 _ _ (by omega), hI54, g_up_ne1 _ _ (by omega), hI37, g_up_ne1 _ _ (by omega)], ((cFr.up (by rw [zlc]) (by decide) hI37).trans (cFr.up (by rw [zlc]) (by decide) hI54)).trans (cFr.up (by rw [zlc]) (by decide) i63), g63⟩
    have hs3 : ∀ j, j < 890 ∨ 1370 ≤ j → sDropW W l d j = W j := (sLot3_at ⟨hl.1, by omega⟩).2
    have hE63 : cE I63 A ev kq nq (sDropW W l d) := hE.of hiE.2 (o63.2.1 ev) (fun j x y => hs3 j (by omega))
    refine g_aload_n dX10_dropBox_66 rfl rfl ?_
    refine g_iload dX10_dropBox_67 rfl ?_
    refine g_callVw (i := 8) rfl (gK0 (by assumption)) (g_at8 (by assumption)) (k_S_breakO Y hsh g63 hev hE63 hpre.2.2.2.1 d (by omega)) u_X10_breakOtherwise mw_740 dX10_dropBox_69 rfl rfl ⟨Nat.le_of_ble_eq_true rfl, Nat.le_of_ble_eq_true rfl⟩ ⟨Nat.le_of_ble_eq_true rfl, Nat.le_of_ble_eq_true rfl⟩ (Nat.le_of_ble_eq_true rfl) (fun v69 I69 A69 h69 => ?_)
    obtain ⟨rfl, f69, g69, E69⟩ := h69
    have hsb : ∀ j, j = 1614 → sBrk (sDropW W l d) d j = W j := fun j hj => by rw [sBrk_same hpre.2.2.2.1 (by omega) (by omega) (by omega), hs3 j (by omega)]
    refine g_aload dX10_dropBox_72 rfl ?_
    refine g_get_Lot_boxes dX10_dropBox_74 mw_162 (by assumption) ?_
    rw [ar_84 g69 (i := l) (by omega) (by rw [hsb 1614 rfl]; omega) (by rw [hsb 1614 rfl]; omega), hpre.2.2.2.2.2]
    exact g_iret dX10_dropBox_77 rfl (by decide) (by decide) ⟨rfl, rfl, rfl, rfl, rfl, by rw [sDrop, hll]; exact ⟨o63.2.2.1.trans f69, g69, E69⟩⟩
  · exfalso; omega
set_option maxHeartbeats 1000000 in
set_option maxRecDepth 100000 in
theorem k_S_openReturned (Y : gEnv) {K N : Nat → Nat} {I : Nat → Nat → Int} {A : Nat → Int → Int} {R : Nat → Nat → Option Nat} {Q : Nat → Int → Option Nat} {s : Nat} {G : Nat → Nat × Int} {W : Int → Int} (hsh : cSh K N R Q G s) (hag : ag (cV I R Q s) W) {ev kq nq : Nat} (hev : cEv K N R G s ev kq nq) (hE : cE I A ev kq nq W) (h0 : iN W) (a b c : Int) (ha : 0 ≤ a ∧ a < W 1615) (hb : 1 ≤ b ∧ b ≤ W (1450 + a)) (hc : 0 ≤ c ∧ c ≤ b * W 89) : gC Y yX10_openReturned cX10_openReturned 5 (some .int) ({ frames := 3, cells := 0, slots := 0, locals := 163 } : Room) [.ref s, vi a, vi b, vi c] K N I A R Q (g_wr K N R Q (fun v I' A' => v = some (vi (W (1450 + a) - b)) ∧ cPe R Q G s ev kq nq I I' A A' (sTake W a b c))) gno := by
  refine gC_of (by decide) (Nat.le_of_ble_eq_true rfl) (fun X => ?_)
  obtain ⟨hKs, hGs, ⟨zg1, zg2, zg3, zg4, zg5⟩, ⟨zq1, zq2, zq3, zq4, zq5⟩, ⟨zp1, zp2, zp3, zp4, zp5⟩, ⟨zl1, zl2, zl3, zl4, zl5⟩, ⟨zd1, zd2, zd3, zd4, zd5⟩⟩ := id hsh
  have c88 : I 166 s = W 88 := ar_166 hag
  have c89 : I 167 s = W 89 := ar_167 hag
  have c10 : I 171 s = W 1610 := ar_171 hag
  have c11 : I 172 s = W 1611 := ar_172 hag
  have c12 : I 173 s = W 1612 := ar_173 hag
  have c13 : I 168 s = W 1613 := ar_168 hag
  have c14 : I 169 s = W 1614 := ar_169 hag
  have c15 : I 170 s = W 1615 := ar_170 hag
  have hP := h0.2.2.2.1
  have hL := h0.2.2.2.2.1
  have n15 : 0 ≤ W 1615 ∧ W 1615 ≤ 40 := ⟨h0.2.2.2.2.2.1.1, h0.2.2.2.2.2.1.2.1⟩
  have nD := h0.2.2.2.2.2.1.2.2
  have nG := h0.1
  have nO := h0.2.1
  have nB := h0.2.2.1
  obtain ⟨s1, s2, s3, s4, s5, s6, s7, s8, s9, s10⟩ := h0.2.2.2.2.2.2.1
  have hsu := h0.sums
  have n13 : 0 ≤ W 1613 ∧ W 1613 ≤ 80 := ⟨hP.1, hP.2.1⟩
  have nP := hP.2.2.1
  have n14 : 0 ≤ W 1614 ∧ W 1614 ≤ 160 := ⟨hL.1, hL.2.1⟩
  have nL := hL.2.2.1
  obtain ⟨ev1, ev2, ev3, ev4, ev5, ev6, ev7, ev8, ev9, ev10, ev11, ev12⟩ := id hev
  have evG : (G ev).1 = s ∧ (G kq).1 = s ∧ (G nq).1 = s := ⟨by rw [ev10], by rw [ev11], by rw [ev12]⟩
  refine g_aload_n dX10_openReturned_0 rfl rfl ?_
  refine g_iload_n dX10_openReturned_1 rfl rfl ?_
  refine g_callVp (i := 8) rfl (gK0 (by assumption)) (g_at8 (by assumption)) (k_S_hasDelivery Y hsh hag n15 a (by omega)) u_X10_hasDelivery mw_755 dX10_openReturned_2 rfl rfl ⟨Nat.le_of_ble_eq_true rfl, Nat.le_of_ble_eq_true rfl⟩ ⟨Nat.le_of_ble_eq_true rfl, Nat.le_of_ble_eq_true rfl⟩ (Nat.le_of_ble_eq_true rfl) ?_
  have b2 := ifd (0 ≤ a ∧ a < W 1615)
  generalize (if 0 ≤ a ∧ a < W 1615 then (1 : Int) else 0) = z2 at b2 ⊢
  refine g_if_eq (tgt := 24) dX10_openReturned_5 (by decide) (by omega) (fun c_5 => ?_) (fun c_5 => ?_)
  · exfalso; omega
  · refine g_aload_n dX10_openReturned_8 rfl rfl ?_
    refine g_aload_n dX10_openReturned_9 rfl rfl ?_
    refine g_get_State_deliveries dX10_openReturned_10 mw_211 (by assumption) (by assumption) ?_
    refine g_iload_n dX10_openReturned_13 rfl rfl ?_
    obtain ⟨zda, zdb, zdc⟩ := zd5 a (by omega) (by omega)
    have nda := nD a (by omega) (by omega)
    have hlot := h0.lot (l := W (1370 + a)) (by omega) (by omega)
    have hpre := sTake_pre h0 ha hb hc
    have hiE := h0.2.2.2.2.2.2.2
    refine g_aald_Delivery dX10_openReturned_14 (by assumption) (by omega) (by omega) (by assumption) ?_
    refine g_get_Delivery_lot dX10_openReturned_15 mw_184 (by assumption) ?_
    rw [ar_0 hag (i := a) (by omega) (by omega) (by omega)]
    generalize hll : W (1370 + a) = l at nda hlot ⊢
    refine g_callVp (i := 8) rfl (gK0 (by assumption)) (g_at8 (by assumption)) (k_S_hasLot Y hsh hag hL l (by omega)) u_X10_hasLot mw_650 dX10_openReturned_18 rfl rfl ⟨Nat.le_of_ble_eq_true rfl, Nat.le_of_ble_eq_true rfl⟩ ⟨Nat.le_of_ble_eq_true rfl, Nat.le_of_ble_eq_true rfl⟩ (Nat.le_of_ble_eq_true rfl) ?_
    have b18 := ifd (0 ≤ l ∧ l < W 1614)
    generalize (if 0 ≤ l ∧ l < W 1614 then (1 : Int) else 0) = z18 at b18 ⊢
    refine g_if_ne (tgt := 26) dX10_openReturned_21 (by decide) (by omega) (fun c_21 => ?_) (fun c_21 => ?_)
    · refine g_aload_n dX10_openReturned_26 rfl rfl ?_
      refine g_get_State_deliveries dX10_openReturned_27 mw_211 (by assumption) (by assumption) ?_
      refine g_iload_n dX10_openReturned_30 rfl rfl ?_
      obtain ⟨zda, zdb, zdc⟩ := zd5 a (by omega) (by omega)
      refine g_aald_Delivery dX10_openReturned_31 (by assumption) (by omega) (by omega) (by assumption) ?_
      refine g_astore dX10_openReturned_32 (by decide) ?_
      refine g_aload dX10_openReturned_34 rfl ?_
      refine g_dup dX10_openReturned_36 rfl ?_
      refine g_get_Delivery_out dX10_openReturned_37 mw_188 (by assumption) ?_
      rw [ar_2 hag (i := a) (by omega) (by omega) (by omega)]
      refine g_iload_n dX10_openReturned_40 rfl rfl ?_
      refine g_isub dX10_openReturned_41 ?_
      refine g_put_Delivery_out dX10_openReturned_42 mw_188 (by assumption) (fun I42 hI42 => ?_)
      refine g_aload_n dX10_openReturned_45 rfl rfl ?_
      refine g_get_State_lots dX10_openReturned_46 mw_209 (by assumption) (by assumption) ?_
      refine g_aload dX10_openReturned_49 rfl ?_
      refine g_get_Delivery_lot dX10_openReturned_51 mw_184 (by assumption) ?_
      rw [show I42 0 (aRow R Q s 164 a) = l by rw [hI42, g_up_ne1 _ _ (by omega), ar_0 hag (i := a) (by omega) (by omega) (by omega), hll]]
      obtain ⟨zla, zlb, zlc⟩ := zl5 l (by omega) (by omega)
      refine g_aald_Lot dX10_openReturned_54 (by assumption) (by omega) (by omega) (by assumption) ?_
      refine g_dup dX10_openReturned_55 rfl ?_
      refine g_get_Lot_loose dX10_openReturned_56 mw_160 (by assumption) ?_
      rw [show I42 83 (aRow R Q s 163 l) = W (890 + l) by rw [hI42, g_up_ne1 _ _ (by omega), ar_83 hag (i := l) (by omega) (by omega) (by omega)]]
      refine g_iload_n dX10_openReturned_59 rfl rfl ?_
      refine g_aload_n dX10_openReturned_60 rfl rfl ?_
      refine g_get_State_boxSize dX10_openReturned_61 mw_217 (by assumption) ?_
      rw [show I42 167 s = W 89 by rw [hI42, g_up_ne1 _ _ (by omega), c89]]
      refine g_imul dX10_openReturned_64 ?_
      refine g_iload_n dX10_openReturned_65 rfl rfl ?_
      refine g_isub dX10_openReturned_66 ?_
      refine g_iadd dX10_openReturned_67 ?_
      refine g_put_Lot_loose dX10_openReturned_68 mw_160 (by assumption) (fun I68 hI68 => ?_)
      have v68 : cV I68 R Q s = sU (sU (cV I R Q s) (1450 + a) (W (1450 + a) - b)) (890 + l) (W (890 + l) + (b * W 89 - c)) := by rw [cu_83 hsh (by omega) (by omega) hI68, cu_2 hsh (by omega) (by omega) hI42]
      have g68 : ag (cV I68 R Q s) (sTakeW W a b c) := by
        rw [v68, sTakeW, hll]
        exact (hag.put (by omega)).put (by omega)
      have o68 : cPo R Q G s I I68 A A (sTakeW W a b c) := ⟨rfl, fun q => by rw [hI68, g_up_ne1 _ _ (by omega), hI42, g_up_ne1 _ _ (by omega)], (cFr.up (by rw [zdc]) (by decide) hI42).trans (cFr.up (by rw [zlc]) (by decide) hI68), g68⟩
      have hsW : ∀ j, 1530 ≤ j → sTakeW W a b c j = W j := fun j hj => by rw [sTakeW, hll, sU_ne _ _ (by omega), sU_ne _ _ (by omega)]
      have hE68 : cE I68 A ev kq nq (sTakeW W a b c) := hE.of hiE.2 (o68.2.1 ev) (fun j x y => hsW j (by omega))
      refine g_aload_n dX10_openReturned_71 rfl rfl ?_
      refine g_iload_n dX10_openReturned_72 rfl rfl ?_
      refine g_callVw (i := 8) rfl (gK0 (by assumption)) (g_at8 (by assumption)) (k_S_breakO Y hsh g68 hev hE68 hpre.2.2.2.1 c (by have := hpre.2.2.2.2.2.2; omega)) u_X10_breakOtherwise mw_740 dX10_openReturned_73 rfl rfl ⟨Nat.le_of_ble_eq_true rfl, Nat.le_of_ble_eq_true rfl⟩ ⟨Nat.le_of_ble_eq_true rfl, Nat.le_of_ble_eq_true rfl⟩ (Nat.le_of_ble_eq_true rfl) (fun v73 I73 A73 h73 => ?_)
      obtain ⟨rfl, f73, g73, E73⟩ := h73
      have hsb : ∀ j, j = 1615 → sBrk (sTakeW W a b c) c j = W j := fun j hj => by rw [sBrk_same hpre.2.2.2.1 (by omega) (by omega) (by omega), hsW j (by omega)]
      refine g_aload dX10_openReturned_76 rfl ?_
      refine g_get_Delivery_out dX10_openReturned_78 mw_188 (by assumption) ?_
      rw [ar_2 g73 (i := a) (by omega) (by rw [hsb 1615 rfl]; omega) (by rw [hsb 1615 rfl]; omega), hpre.2.2.2.2.2.1]
      exact g_iret dX10_openReturned_81 rfl (by decide) (by decide) ⟨rfl, rfl, rfl, rfl, rfl, by rw [sTake]; exact ⟨o68.2.2.1.trans f73, g73, E73⟩⟩
    · exfalso; omega
set_option maxHeartbeats 1000000 in
set_option maxRecDepth 100000 in
theorem k_S_replaceC (Y : gEnv) {K N : Nat → Nat} {I : Nat → Nat → Int} {A : Nat → Int → Int} {R : Nat → Nat → Option Nat} {Q : Nat → Int → Option Nat} {s : Nat} {G : Nat → Nat × Int} {W : Int → Int} (hsh : cSh K N R Q G s) (hag : ag (cV I R Q s) W) {ev kq nq : Nat} (hev : cEv K N R G s ev kq nq) (hE : cE I A ev kq nq W) (h0 : iN W) (a : Int) (ha : 0 ≤ a ∧ a < W 1615) (ht : W (1490 + a) ≤ W (890 + W (1370 + a))) : gC Y yX10_replaceComplaints cX10_replaceComplaints 5 (some .int) ({ frames := 3, cells := 0, slots := 0, locals := 163 } : Room) [.ref s, vi a] K N I A R Q (g_wr K N R Q (fun v I' A' => v = some (vi (W (1490 + a))) ∧ cPe R Q G s ev kq nq I I' A A' (sRepl W a))) gno := by
  refine gC_of (by decide) (Nat.le_of_ble_eq_true rfl) (fun X => ?_)
  obtain ⟨hKs, hGs, ⟨zg1, zg2, zg3, zg4, zg5⟩, ⟨zq1, zq2, zq3, zq4, zq5⟩, ⟨zp1, zp2, zp3, zp4, zp5⟩, ⟨zl1, zl2, zl3, zl4, zl5⟩, ⟨zd1, zd2, zd3, zd4, zd5⟩⟩ := id hsh
  have c88 : I 166 s = W 88 := ar_166 hag
  have c89 : I 167 s = W 89 := ar_167 hag
  have c10 : I 171 s = W 1610 := ar_171 hag
  have c11 : I 172 s = W 1611 := ar_172 hag
  have c12 : I 173 s = W 1612 := ar_173 hag
  have c13 : I 168 s = W 1613 := ar_168 hag
  have c14 : I 169 s = W 1614 := ar_169 hag
  have c15 : I 170 s = W 1615 := ar_170 hag
  have hP := h0.2.2.2.1
  have hL := h0.2.2.2.2.1
  have n15 : 0 ≤ W 1615 ∧ W 1615 ≤ 40 := ⟨h0.2.2.2.2.2.1.1, h0.2.2.2.2.2.1.2.1⟩
  have nD := h0.2.2.2.2.2.1.2.2
  have nG := h0.1
  have nO := h0.2.1
  have nB := h0.2.2.1
  obtain ⟨s1, s2, s3, s4, s5, s6, s7, s8, s9, s10⟩ := h0.2.2.2.2.2.2.1
  have hsu := h0.sums
  have n13 : 0 ≤ W 1613 ∧ W 1613 ≤ 80 := ⟨hP.1, hP.2.1⟩
  have nP := hP.2.2.1
  have n14 : 0 ≤ W 1614 ∧ W 1614 ≤ 160 := ⟨hL.1, hL.2.1⟩
  have nL := hL.2.2.1
  obtain ⟨ev1, ev2, ev3, ev4, ev5, ev6, ev7, ev8, ev9, ev10, ev11, ev12⟩ := id hev
  have evG : (G ev).1 = s ∧ (G kq).1 = s ∧ (G nq).1 = s := ⟨by rw [ev10], by rw [ev11], by rw [ev12]⟩
  refine g_aload_n dX10_replaceComplaints_0 rfl rfl ?_
  refine g_iload_n dX10_replaceComplaints_1 rfl rfl ?_
  refine g_callVp (i := 8) rfl (gK0 (by assumption)) (g_at8 (by assumption)) (k_S_hasDelivery Y hsh hag n15 a (by omega)) u_X10_hasDelivery mw_755 dX10_replaceComplaints_2 rfl rfl ⟨Nat.le_of_ble_eq_true rfl, Nat.le_of_ble_eq_true rfl⟩ ⟨Nat.le_of_ble_eq_true rfl, Nat.le_of_ble_eq_true rfl⟩ (Nat.le_of_ble_eq_true rfl) ?_
  have b2 := ifd (0 ≤ a ∧ a < W 1615)
  generalize (if 0 ≤ a ∧ a < W 1615 then (1 : Int) else 0) = z2 at b2 ⊢
  refine g_if_eq (tgt := 24) dX10_replaceComplaints_5 (by decide) (by omega) (fun c_5 => ?_) (fun c_5 => ?_)
  · exfalso; omega
  · refine g_aload_n dX10_replaceComplaints_8 rfl rfl ?_
    refine g_aload_n dX10_replaceComplaints_9 rfl rfl ?_
    refine g_get_State_deliveries dX10_replaceComplaints_10 mw_211 (by assumption) (by assumption) ?_
    refine g_iload_n dX10_replaceComplaints_13 rfl rfl ?_
    obtain ⟨zda, zdb, zdc⟩ := zd5 a (by omega) (by omega)
    have nda := nD a (by omega) (by omega)
    have hlot := h0.lot (l := W (1370 + a)) (by omega) (by omega)
    have hpre := sRepl_pre h0 ha ht
    have hiE := h0.2.2.2.2.2.2.2
    refine g_aald_Delivery dX10_replaceComplaints_14 (by assumption) (by omega) (by omega) (by assumption) ?_
    refine g_get_Delivery_lot dX10_replaceComplaints_15 mw_184 (by assumption) ?_
    rw [ar_0 hag (i := a) (by omega) (by omega) (by omega)]
    generalize hll : W (1370 + a) = l at nda hlot ht ⊢
    refine g_callVp (i := 8) rfl (gK0 (by assumption)) (g_at8 (by assumption)) (k_S_hasLot Y hsh hag hL l (by omega)) u_X10_hasLot mw_650 dX10_replaceComplaints_18 rfl rfl ⟨Nat.le_of_ble_eq_true rfl, Nat.le_of_ble_eq_true rfl⟩ ⟨Nat.le_of_ble_eq_true rfl, Nat.le_of_ble_eq_true rfl⟩ (Nat.le_of_ble_eq_true rfl) ?_
    have b18 := ifd (0 ≤ l ∧ l < W 1614)
    generalize (if 0 ≤ l ∧ l < W 1614 then (1 : Int) else 0) = z18 at b18 ⊢
    refine g_if_ne (tgt := 26) dX10_replaceComplaints_21 (by decide) (by omega) (fun c_21 => ?_) (fun c_21 => ?_)
    · refine g_aload_n dX10_replaceComplaints_26 rfl rfl ?_
      refine g_get_State_deliveries dX10_replaceComplaints_27 mw_211 (by assumption) (by assumption) ?_
      refine g_iload_n dX10_replaceComplaints_30 rfl rfl ?_
      obtain ⟨zda, zdb, zdc⟩ := zd5 a (by omega) (by omega)
      refine g_aald_Delivery dX10_replaceComplaints_31 (by assumption) (by omega) (by omega) (by assumption) ?_
      refine g_astore_n dX10_replaceComplaints_32 rfl (by decide) ?_
      refine g_aload_n dX10_replaceComplaints_33 rfl rfl ?_
      refine g_get_State_lots dX10_replaceComplaints_34 mw_209 (by assumption) (by assumption) ?_
      refine g_aload_n dX10_replaceComplaints_37 rfl rfl ?_
      refine g_get_Delivery_lot dX10_replaceComplaints_38 mw_184 (by assumption) ?_
      rw [show I 0 (aRow R Q s 164 a) = l by rw [ar_0 hag (i := a) (by omega) (by omega) (by omega), hll]]
      obtain ⟨zla, zlb, zlc⟩ := zl5 l (by omega) (by omega)
      refine g_aald_Lot dX10_replaceComplaints_41 (by assumption) (by omega) (by omega) (by assumption) ?_
      refine g_astore_n dX10_replaceComplaints_42 rfl (by decide) ?_
      refine g_aload_n dX10_replaceComplaints_43 rfl rfl ?_
      refine g_get_Delivery_complaints dX10_replaceComplaints_44 mw_190 (by assumption) ?_
      rw [ar_3 hag (i := a) (by omega) (by omega) (by omega)]
      refine g_istore dX10_replaceComplaints_47 (by decide) ?_
      refine g_aload_n dX10_replaceComplaints_49 rfl rfl ?_
      refine g_iconst dX10_replaceComplaints_50 ?_
      refine g_put_Delivery_complaints dX10_replaceComplaints_51 mw_190 (by assumption) (fun I51 hI51 => ?_)
      refine g_aload_n dX10_replaceComplaints_54 rfl rfl ?_
      refine g_dup dX10_replaceComplaints_55 rfl ?_
      refine g_get_Lot_loose dX10_replaceComplaints_56 mw_160 (by assumption) ?_
      rw [show I51 83 (aRow R Q s 163 l) = W (890 + l) by rw [hI51, g_up_ne1 _ _ (by omega), ar_83 hag (i := l) (by omega) (by omega) (by omega)]]
      refine g_iload dX10_replaceComplaints_59 rfl ?_
      refine g_isub dX10_replaceComplaints_61 ?_
      refine g_put_Lot_loose dX10_replaceComplaints_62 mw_160 (by assumption) (fun I62 hI62 => ?_)
      refine g_aload_n dX10_replaceComplaints_65 rfl rfl ?_
      refine g_aload_n dX10_replaceComplaints_66 rfl rfl ?_
      refine g_get_State_boxSize dX10_replaceComplaints_67 mw_217 (by assumption) ?_
      rw [show I62 167 s = W 89 by rw [hI62, g_up_ne1 _ _ (by omega), hI51, g_up_ne1 _ _ (by omega), c89]]
      have e83 : I62 83 (aRow R Q s 163 l) = W (890 + l) - W (1490 + a) := by rw [hI62, g_up_eq]
      have e84 : I62 84 (aRow R Q s 163 l) = W (1050 + l) := by rw [hI62, g_up_ne1 _ _ (by omega), hI51, g_up_ne1 _ _ (by omega), ar_84 hag (i := l) (by omega) (by omega) (by omega)]
      have e85 : I62 85 (aRow R Q s 163 l) = W (1210 + l) := by rw [hI62, g_up_ne1 _ _ (by omega), hI51, g_up_ne1 _ _ (by omega), ar_85 hag (i := l) (by omega) (by omega) (by omega)]
      have hm0 := Int.mul_nonneg hlot.2.1 (show 0 ≤ W 89 by omega)
      refine g_callVw (i := 4) rfl (gK0 (by assumption)) (g_at4 (by assumption)) (k_L_limit Y zlb (W 89) (by rw [e83, e84]; omega) (by rw [e85]; omega)) u_X6_limitHidden mw_739 dX10_replaceComplaints_70 rfl rfl ⟨Nat.le_of_ble_eq_true rfl, Nat.le_of_ble_eq_true rfl⟩ ⟨Nat.le_of_ble_eq_true rfl, Nat.le_of_ble_eq_true rfl⟩ (Nat.le_of_ble_eq_true rfl) (fun v70 I70 A70 h70 => ?_)
      obtain ⟨rfl, i70, a70⟩ := h70
      obtain rfl := a70.symm
      rw [e83, e84, e85] at i70
      have v70 : cV I70 R Q s = sU (sU (sU (cV I R Q s) (1490 + a) 0) (890 + l) (W (890 + l) - W (1490 + a))) (1210 + l) (sMin (W (1210 + l)) (W (890 + l) - W (1490 + a) + W (1050 + l) * W 89)) := by rw [cu_85 hsh (by omega) (by omega) i70, cu_83 hsh (by omega) (by omega) hI62, cu_3 hsh (by omega) (by omega) hI51]
      have eW : sReplW W a = sU (sU (sU W (1490 + a) 0) (890 + l) (W (890 + l) - W (1490 + a))) (1210 + l) (sMin (W (1210 + l)) (W (890 + l) - W (1490 + a) + W (1050 + l) * W 89)) := by
        rw [sReplW, hll, sLot3]
        have := sU_id (sU (sU W (1490 + a) 0) (890 + l) (W (890 + l) - W (1490 + a))) (1050 + l)
        rw [sU_ne _ _ (by omega), sU_ne _ _ (by omega)] at this
        rw [this]
      have g70 : ag (cV I70 R Q s) (sReplW W a) := by
        rw [v70, eW]
        exact ((hag.put (by omega)).put (by omega)).put (by omega)
      have o70 : cPo R Q G s I I70 A A (sReplW W a) := ⟨rfl, fun q => by rw [i70, g_up_ne1 _ _ (by omega), hI62, g_up_ne1 _ _ (by omega), hI51, g_up_ne1 _ _ (by omega)], ((cFr.up (by rw [zdc]) (by decide) hI51).trans (cFr.up (by rw [zlc]) (by decide) hI62)).trans (cFr.up (by rw [zlc]) (by decide) i70), g70⟩
      have hE70 : cE I70 A ev kq nq (sReplW W a) := hE.of hiE.2 (o70.2.1 ev) (fun j x y => by rw [eW, sU_ne _ _ (by omega), sU_ne _ _ (by omega), sU_ne _ _ (by omega)])
      refine g_aload_n dX10_replaceComplaints_73 rfl rfl ?_
      refine g_iload dX10_replaceComplaints_74 rfl ?_
      refine g_callVw (i := 8) rfl (gK0 (by assumption)) (g_at8 (by assumption)) (k_S_breakO Y hsh g70 hev hE70 hpre.2.2.2 _ (by omega)) u_X10_breakOtherwise mw_740 dX10_replaceComplaints_76 rfl rfl ⟨Nat.le_of_ble_eq_true rfl, Nat.le_of_ble_eq_true rfl⟩ ⟨Nat.le_of_ble_eq_true rfl, Nat.le_of_ble_eq_true rfl⟩ (Nat.le_of_ble_eq_true rfl) (fun v76 I76 A76 h76 => ?_)
      obtain ⟨rfl, f76, g76, E76⟩ := h76
      refine g_iload dX10_replaceComplaints_79 rfl ?_
      exact g_iret dX10_replaceComplaints_81 rfl (by decide) (by decide) ⟨rfl, rfl, rfl, rfl, rfl, by rw [sRepl]; exact ⟨o70.2.2.1.trans f76, g76, E76⟩⟩
    · exfalso; omega
theorem sDelW_chain {W : Int → Int} {l c j : Int} (hl : 0 ≤ l ∧ l < 160) (hd : 0 ≤ W 1615 ∧ W 1615 < 40) (hj : j ≠ 1617) : sDelW W l c j = sU (sU (sU (sU (sU (sU (sU (sU W 1615 (W 1615 + 1)) (1370 + W 1615) l) (1410 + W 1615) c) (1450 + W 1615) c) (1050 + l) (W (1050 + l) - c)) (1210 + l) (sMin (W (1210 + l) - sBad W l c) (W (890 + l) + (W (1050 + l) - c) * W 89))) (1490 + W 1615) (sBad W l c)) (1530 + W 1615) (c * W 89 * sWorth W l) j := by
  simp only [sDelW, sLot3, sDelD, sU]
  generalize W 1615 = d at *
  by_cases a1 : j = 1210 + l
  · rw [if_pos a1, if_neg (by omega), if_neg (by omega), if_pos a1]
  · rw [if_neg a1]
    by_cases a2 : j = 1050 + l
    · rw [if_pos a2, if_neg (by omega), if_neg (by omega), if_neg (by omega), if_pos a2]
    · rw [if_neg a2]
      by_cases a3 : j = 890 + l
      · rw [if_pos a3, if_neg (by omega), if_neg (by omega), if_neg (by omega), if_neg (by omega), if_neg (by omega), if_neg (by omega), if_neg (by omega), if_neg (by omega), a3]
      · rw [if_neg a3, if_neg hj]
        by_cases a4 : j = 1530 + d
        · rw [if_pos a4, if_pos a4]
        · rw [if_neg a4, if_neg a4]
          by_cases a5 : j = 1490 + d
          · rw [if_pos a5, if_pos a5]
          · rw [if_neg a5, if_neg a5, if_neg a1, if_neg a2]
set_option maxHeartbeats 1000000 in
set_option maxRecDepth 100000 in
theorem k_S_makeDelivery (Y : gEnv) {K N : Nat → Nat} {I : Nat → Nat → Int} {A : Nat → Int → Int} {R : Nat → Nat → Option Nat} {Q : Nat → Int → Option Nat} {s : Nat} {G : Nat → Nat × Int} {W : Int → Int} (hsh : cSh K N R Q G s) (hag : ag (cV I R Q s) W) {ev kq nq : Nat} (hev : cEv K N R G s ev kq nq) (hE : cE I A ev kq nq W) (h0 : iN W) (a b c : Int) (ha : 0 ≤ a ∧ a ≤ 3) (hb : (-2147483648 ≤ b ∧ b ≤ 2147483647)) (hc : 1 ≤ c ∧ c ≤ 100000) (hd : W 1615 < 40) (hl : 0 ≤ sLotFor W a b c ∧ sLotFor W a b c < W 1614 ∧ sMay W a b c (sLotFor W a b c) = true) : gC Y yX10_makeDelivery cX10_makeDelivery 7 (some .int) ({ frames := 3, cells := 0, slots := 0, locals := 142 } : Room) [.ref s, vi a, vi b, vi c] K N I A R Q (g_wr K N R Q (fun v I' A' => v = some (vi (W 1615)) ∧ cPe R Q G s ev kq nq I I' A A' (sDel W a b c))) gno := by
  refine gC_of (by decide) (Nat.le_of_ble_eq_true rfl) (fun X => ?_)
  obtain ⟨hKs, hGs, ⟨zg1, zg2, zg3, zg4, zg5⟩, ⟨zq1, zq2, zq3, zq4, zq5⟩, ⟨zp1, zp2, zp3, zp4, zp5⟩, ⟨zl1, zl2, zl3, zl4, zl5⟩, ⟨zd1, zd2, zd3, zd4, zd5⟩⟩ := id hsh
  have c88 : I 166 s = W 88 := ar_166 hag
  have c89 : I 167 s = W 89 := ar_167 hag
  have c10 : I 171 s = W 1610 := ar_171 hag
  have c11 : I 172 s = W 1611 := ar_172 hag
  have c12 : I 173 s = W 1612 := ar_173 hag
  have c13 : I 168 s = W 1613 := ar_168 hag
  have c14 : I 169 s = W 1614 := ar_169 hag
  have c15 : I 170 s = W 1615 := ar_170 hag
  have hP := h0.2.2.2.1
  have hL := h0.2.2.2.2.1
  have n15 : 0 ≤ W 1615 ∧ W 1615 ≤ 40 := ⟨h0.2.2.2.2.2.1.1, h0.2.2.2.2.2.1.2.1⟩
  have nD := h0.2.2.2.2.2.1.2.2
  have nG := h0.1
  have nO := h0.2.1
  have nB := h0.2.2.1
  obtain ⟨s1, s2, s3, s4, s5, s6, s7, s8, s9, s10⟩ := h0.2.2.2.2.2.2.1
  have hsu := h0.sums
  have n13 : 0 ≤ W 1613 ∧ W 1613 ≤ 80 := ⟨hP.1, hP.2.1⟩
  have nP := hP.2.2.1
  have n14 : 0 ≤ W 1614 ∧ W 1614 ≤ 160 := ⟨hL.1, hL.2.1⟩
  have nL := hL.2.2.1
  obtain ⟨ev1, ev2, ev3, ev4, ev5, ev6, ev7, ev8, ev9, ev10, ev11, ev12⟩ := id hev
  have evG : (G ev).1 = s ∧ (G kq).1 = s ∧ (G nq).1 = s := ⟨by rw [ev10], by rw [ev11], by rw [ev12]⟩
  refine g_aload_n dX10_makeDelivery_0 rfl rfl ?_
  refine g_iload_n dX10_makeDelivery_1 rfl rfl ?_
  refine g_iload_n dX10_makeDelivery_2 rfl rfl ?_
  refine g_iload_n dX10_makeDelivery_3 rfl rfl ?_
  refine g_callVp (i := 8) rfl (gK0 (by assumption)) (g_at8 (by assumption)) (k_S_lotToDeliver Y hsh hag h0 a b c (by omega) hb (by omega)) u_X10_lotToDeliver mw_684 dX10_makeDelivery_4 rfl rfl ⟨Nat.le_of_ble_eq_true rfl, Nat.le_of_ble_eq_true rfl⟩ ⟨Nat.le_of_ble_eq_true rfl, Nat.le_of_ble_eq_true rfl⟩ (Nat.le_of_ble_eq_true rfl) ?_
  generalize hll : sLotFor W a b c = l at hl ⊢
  have hmay : W (410 + l) = a ∧ W (730 + l) = b ∧ c ≤ W (1050 + l) := by have := hl.2.2; simpa [sMay] using this
  refine g_istore dX10_makeDelivery_7 (by decide) ?_
  refine g_iload_n dX10_makeDelivery_9 rfl rfl ?_
  refine g_callSNp (k_isGlaze Y _ (by omega)) u_X12_isGlaze mw_546 dX10_makeDelivery_10 rfl rfl ⟨Nat.le_of_ble_eq_true rfl, Nat.le_of_ble_eq_true rfl⟩ ⟨Nat.le_of_ble_eq_true rfl, Nat.le_of_ble_eq_true rfl⟩ (Nat.le_of_ble_eq_true rfl) ?_
  have b10 := ifd (0 ≤ a ∧ a ≤ 3)
  generalize (if 0 ≤ a ∧ a ≤ 3 then (1 : Int) else 0) = z10 at b10 ⊢
  refine g_if_eq (tgt := 37) dX10_makeDelivery_13 (by decide) (by omega) (fun c_13 => ?_) (fun c_13 => ?_)
  · exfalso; omega
  · refine g_aload_n dX10_makeDelivery_16 rfl rfl ?_
    refine g_iload dX10_makeDelivery_17 rfl ?_
    refine g_callVp (i := 8) rfl (gK0 (by assumption)) (g_at8 (by assumption)) (k_S_hasLot Y hsh hag hL l (by omega)) u_X10_hasLot mw_650 dX10_makeDelivery_19 rfl rfl ⟨Nat.le_of_ble_eq_true rfl, Nat.le_of_ble_eq_true rfl⟩ ⟨Nat.le_of_ble_eq_true rfl, Nat.le_of_ble_eq_true rfl⟩ (Nat.le_of_ble_eq_true rfl) ?_
    have b19 := ifd (0 ≤ l ∧ l < W 1614)
    generalize (if 0 ≤ l ∧ l < W 1614 then (1 : Int) else 0) = z19 at b19 ⊢
    refine g_if_eq (tgt := 37) dX10_makeDelivery_22 (by decide) (by omega) (fun c_22 => ?_) (fun c_22 => ?_)
    · exfalso; omega
    · refine g_aload_n dX10_makeDelivery_25 rfl rfl ?_
      refine g_get_State_deliveryCount dX10_makeDelivery_26 mw_221 (by assumption) ?_
      refine g_aload_n dX10_makeDelivery_29 rfl rfl ?_
      refine g_get_State_deliveries dX10_makeDelivery_30 mw_211 (by assumption) (by assumption) ?_
      refine g_alen_Delivery dX10_makeDelivery_33 (by assumption) ?_
      refine g_icmp_lt (tgt := 39) dX10_makeDelivery_34 (by decide) (by omega) (by omega) (fun c_34 => ?_) (fun c_34 => ?_)
      · have hlot := h0.lot hl.1 hl.2.1
        have hbr := sBad_range h0 ⟨hl.1, hl.2.1⟩ ⟨hc.1, hmay.2.2⟩
        obtain ⟨b1, b2, b3, b4, b5, b6, b7, b8, b9⟩ := hbr
        obtain ⟨q1, q2, q3⟩ := sDel_pre h0 ⟨hl.1, hl.2.1⟩ ⟨hc.1, hmay.2.2⟩ hc.2 hd
        have hwo := sWorth_range h0 ⟨hl.1, hl.2.1⟩
        have hiE := h0.2.2.2.2.2.2.2
        have nLl := nL l hl.1 hl.2.1
        have nGa := nG a (by omega) (by omega)
        have hpp : (W (1050 + l) - c) * W 89 = W (1050 + l) * W 89 - c * W 89 := by rw [Int.sub_mul]
        have eC : sContent W l = W (890 + l) + W (1050 + l) * W 89 := rfl
        refine g_aload_n dX10_makeDelivery_39 rfl rfl ?_
        refine g_get_State_deliveryCount dX10_makeDelivery_40 mw_221 (by assumption) ?_
        rw [c15]
        refine g_istore dX10_makeDelivery_43 (by decide) ?_
        refine g_aload_n dX10_makeDelivery_45 rfl rfl ?_
        refine g_dup dX10_makeDelivery_46 rfl ?_
        refine g_get_State_deliveryCount dX10_makeDelivery_47 mw_221 (by assumption) ?_
        rw [c15]
        refine g_iconst dX10_makeDelivery_50 ?_
        refine g_iadd dX10_makeDelivery_51 ?_
        refine g_put_State_deliveryCount dX10_makeDelivery_52 mw_221 (by assumption) (fun I52 hI52 => ?_)
        refine g_aload_n dX10_makeDelivery_55 rfl rfl ?_
        refine g_get_State_deliveries dX10_makeDelivery_56 mw_211 (by assumption) (by assumption) ?_
        refine g_iload dX10_makeDelivery_59 rfl ?_
        obtain ⟨zda, zdb, zdc⟩ := zd5 (W 1615) (by omega) (by omega)
        refine g_aald_Delivery dX10_makeDelivery_61 (by assumption) (by omega) (by omega) (by assumption) ?_
        refine g_astore dX10_makeDelivery_62 (by decide) ?_
        refine g_aload dX10_makeDelivery_64 rfl ?_
        refine g_iload dX10_makeDelivery_66 rfl ?_
        refine g_put_Delivery_lot dX10_makeDelivery_68 mw_184 (by assumption) (fun I68 hI68 => ?_)
        refine g_aload dX10_makeDelivery_71 rfl ?_
        refine g_iload_n dX10_makeDelivery_73 rfl rfl ?_
        refine g_put_Delivery_boxes dX10_makeDelivery_74 mw_186 (by assumption) (fun I74 hI74 => ?_)
        refine g_aload dX10_makeDelivery_77 rfl ?_
        refine g_iload_n dX10_makeDelivery_79 rfl rfl ?_
        refine g_put_Delivery_out dX10_makeDelivery_80 mw_188 (by assumption) (fun I80 hI80 => ?_)
        refine g_aload dX10_makeDelivery_83 rfl ?_
        refine g_aload_n dX10_makeDelivery_85 rfl rfl ?_
        refine g_get_State_lots dX10_makeDelivery_86 mw_209 (by assumption) (by assumption) ?_
        refine g_iload dX10_makeDelivery_89 rfl ?_
        obtain ⟨zla, zlb, zlc⟩ := zl5 l (by omega) (by omega)
        refine g_aald_Lot dX10_makeDelivery_91 (by assumption) (by omega) (by omega) (by assumption) ?_
        refine g_iload_n dX10_makeDelivery_92 rfl rfl ?_
        refine g_aload_n dX10_makeDelivery_93 rfl rfl ?_
        refine g_get_State_boxSize dX10_makeDelivery_94 mw_217 (by assumption) ?_
        have o82 : cFr G s I I80 A A := ((((cFr.up (by rw [hGs]) (by decide) hI52).trans (cFr.up (by rw [zdc]) (by decide) hI68)).trans (cFr.up (by rw [zdc]) (by decide) hI74)).trans (cFr.up (by rw [zdc]) (by decide) hI80))
        have e80 : ∀ f q, f ≠ 170 → f ≠ 0 → f ≠ 1 → f ≠ 2 → I80 f q = I f q := fun f q x1 x2 x3 x4 => by rw [hI80, g_up_ne1 _ _ x4, hI74, g_up_ne1 _ _ x3, hI68, g_up_ne1 _ _ x2, hI52, g_up_ne1 _ _ x1]
        rw [e80 167 s (by omega) (by omega) (by omega) (by omega), c89]
        have e83 : I80 83 (aRow R Q s 163 l) = W (890 + l) := by rw [e80 83 _ (by omega) (by omega) (by omega) (by omega), ar_83 hag (i := l) (by omega) (by omega) (by omega)]
        have e84 : I80 84 (aRow R Q s 163 l) = W (1050 + l) := by rw [e80 84 _ (by omega) (by omega) (by omega) (by omega), ar_84 hag (i := l) (by omega) (by omega) (by omega)]
        have e85 : I80 85 (aRow R Q s 163 l) = W (1210 + l) := by rw [e80 85 _ (by omega) (by omega) (by omega) (by omega), ar_85 hag (i := l) (by omega) (by omega) (by omega)]
        have eB : (W (1210 + l) * (c * W 89)).tdiv (W (890 + l) + W (1050 + l) * W 89) = sBad W l c := rfl
        refine g_callVw (i := 4) rfl (gK0 (by assumption)) (g_at4 (by assumption)) (k_L_give Y zlb c (W 89) (by omega) (by omega) (by rw [e83, e84]; omega) (by rw [e85]; omega) (by rw [e83, e84, e85, eB]; omega) (by rw [e85]; omega) (by rw [e83, e84]; omega)) u_X6_giveBoxes mw_695 dX10_makeDelivery_97 rfl rfl ⟨Nat.le_of_ble_eq_true rfl, Nat.le_of_ble_eq_true rfl⟩ ⟨Nat.le_of_ble_eq_true rfl, Nat.le_of_ble_eq_true rfl⟩ (Nat.le_of_ble_eq_true rfl) (fun v97 I97 A97 h97 => ?_)
        obtain ⟨rfl, i97, a97⟩ := h97
        obtain rfl := a97.symm
        rw [e83, e84, e85, eB] at i97 ⊢
        refine g_put_Delivery_complaints dX10_makeDelivery_100 mw_190 (by assumption) (fun I100 hI100 => ?_)
        refine g_aload dX10_makeDelivery_103 rfl ?_
        refine g_iload_n dX10_makeDelivery_105 rfl rfl ?_
        refine g_i2l dX10_makeDelivery_106 (by omega) ?_
        refine g_aload_n dX10_makeDelivery_107 rfl rfl ?_
        refine g_get_State_boxSize dX10_makeDelivery_108 mw_217 (by assumption) ?_
        rw [show I100 167 s = W 89 by rw [hI100, g_up_ne1 _ _ (by omega), i97, g_up_ne1 _ _ (by omega), g_up_ne1 _ _ (by omega), e80 167 s (by omega) (by omega) (by omega) (by omega), c89]]
        refine g_i2l dX10_makeDelivery_111 (by omega) ?_
        refine g_lmul dX10_makeDelivery_112 ?_
        refine g_aload_n dX10_makeDelivery_113 rfl rfl ?_
        refine g_get_State_glazes dX10_makeDelivery_114 mw_204 (by assumption) (by assumption) ?_
        refine g_iload_n dX10_makeDelivery_117 rfl rfl ?_
        obtain ⟨zga, zgb, zgc⟩ := zg5 a (by omega) (by omega)
        refine g_aald_Glaze dX10_makeDelivery_118 (by assumption) (by omega) (by omega) (by assumption) ?_
        refine g_iload_n dX10_makeDelivery_119 rfl rfl ?_
        have e43 : I100 43 (aRow R Q s 160 a) = W (12 + a) := by rw [hI100, g_up_ne1 _ _ (by omega), i97, g_up_ne1 _ _ (by omega), g_up_ne1 _ _ (by omega), e80 43 _ (by omega) (by omega) (by omega) (by omega), ar_43 hag (i := a) (by omega) (by omega)]
        refine g_callVp (i := 2) rfl (gK0 (by assumption)) (g_at2 (by assumption)) (k_G_tileValue Y zgb b hb (by rw [e43]; omega)) u_X4_tileValue mw_708 dX10_makeDelivery_120 rfl rfl ⟨Nat.le_of_ble_eq_true rfl, Nat.le_of_ble_eq_true rfl⟩ ⟨Nat.le_of_ble_eq_true rfl, Nat.le_of_ble_eq_true rfl⟩ (Nat.le_of_ble_eq_true rfl) ?_
        rw [e43, show (if b = 1 then W (12 + a) else (W (12 + a)).tdiv 2) = sWorth W l by simp only [sWorth]; rw [hmay.1, hmay.2.1]]
        refine g_i2l dX10_makeDelivery_123 (by omega) ?_
        refine g_lmul dX10_makeDelivery_124 ?_
        refine g_put_Delivery_value dX10_makeDelivery_125 mw_192 (by assumption) (fun I125 hI125 => ?_)
        have v125 : cV I125 R Q s = sU (sU (sU (sU (sU (sU (sU (sU (cV I R Q s) 1615 (W 1615 + 1)) (1370 + W 1615) l) (1410 + W 1615) c) (1450 + W 1615) c) (1050 + l) (W (1050 + l) - c)) (1210 + l) (sMin (W (1210 + l) - sBad W l c) (W (890 + l) + (W (1050 + l) - c) * W 89))) (1490 + W 1615) (sBad W l c)) (1530 + W 1615) (c * W 89 * sWorth W l) := by
          rw [cu_4 hsh (by omega) (by omega) hI125, cu_3 hsh (by omega) (by omega) hI100, cu_85 hsh (by omega) (by omega) i97, cu_84 hsh (by omega) (by omega) rfl, cu_2 hsh (by omega) (by omega) hI80, cu_1 hsh (by omega) (by omega) hI74, cu_0 hsh (by omega) (by omega) hI68, cu_170 hsh hI52]
        have eq1 : ∀ j, j ≠ 1617 → sDelW W l c j = sU (sU (sU (sU (sU (sU (sU (sU W 1615 (W 1615 + 1)) (1370 + W 1615) l) (1410 + W 1615) c) (1450 + W 1615) c) (1050 + l) (W (1050 + l) - c)) (1210 + l) (sMin (W (1210 + l) - sBad W l c) (W (890 + l) + (W (1050 + l) - c) * W 89))) (1490 + W 1615) (sBad W l c)) (1530 + W 1615) (c * W 89 * sWorth W l) j := fun j hj => sDelW_chain (by omega) (by omega) hj
        have k13 : sDelW W l c 1613 = W 1613 := by rw [eq1 1613 (by omega), sU_ne _ _ (by omega), sU_ne _ _ (by omega), sU_ne _ _ (by omega), sU_ne _ _ (by omega), sU_ne _ _ (by omega), sU_ne _ _ (by omega), sU_ne _ _ (by omega), sU_ne _ _ (by omega)]
        have k14 : sDelW W l c 1614 = W 1614 := by rw [eq1 1614 (by omega), sU_ne _ _ (by omega), sU_ne _ _ (by omega), sU_ne _ _ (by omega), sU_ne _ _ (by omega), sU_ne _ _ (by omega), sU_ne _ _ (by omega), sU_ne _ _ (by omega), sU_ne _ _ (by omega)]
        have k15 : sDelW W l c 1615 = W 1615 + 1 := by rw [eq1 1615 (by omega), sU_ne _ _ (by omega), sU_ne _ _ (by omega), sU_ne _ _ (by omega), sU_ne _ _ (by omega), sU_ne _ _ (by omega), sU_ne _ _ (by omega), sU_ne _ _ (by omega), sU_eq]
        have g125 : ag (cV I125 R Q s) (sDelW W l c) := by
          rw [v125]
          simp only [ag]
          rw [k13, k14, k15]
          intro j hj
          rw [eq1 j (by simp only [lv] at hj; omega)]
          exact ((((((((agP.put hag 1615 (W 1615 + 1)).put (1370 + W 1615) l).put (1410 + W 1615) c).put (1450 + W 1615) c).put (1050 + l) (W (1050 + l) - c)).put (1210 + l) (sMin (W (1210 + l) - sBad W l c) (W (890 + l) + (W (1050 + l) - c) * W 89))).put (1490 + W 1615) (sBad W l c)).put (1530 + W 1615) (c * W 89 * sWorth W l)) j (by simp only [lv] at hj ⊢; omega)
        have o125 : cPo R Q G s I I125 A A (sDelW W l c) := ⟨rfl, fun q => by rw [hI125, g_up_ne1 _ _ (by omega), hI100, g_up_ne1 _ _ (by omega), i97, g_up_ne1 _ _ (by omega), g_up_ne1 _ _ (by omega), e80 22 q (by omega) (by omega) (by omega) (by omega)], (((o82.trans (cFr.up (by rw [zlc]) (by decide) rfl)).trans (cFr.up (by rw [zlc]) (by decide) i97)).trans (cFr.up (by rw [zdc]) (by decide) hI100)).trans (cFr.up (by rw [zdc]) (by decide) hI125), g125⟩
        have hE125 : cE I125 A ev kq nq (sDelW W l c) := hE.of hiE.2 (o125.2.1 ev) (fun j x y => by rw [eq1 j (by omega), sU_ne _ _ (by omega), sU_ne _ _ (by omega), sU_ne _ _ (by omega), sU_ne _ _ (by omega), sU_ne _ _ (by omega), sU_ne _ _ (by omega), sU_ne _ _ (by omega), sU_ne _ _ (by omega)])
        refine g_aload_n dX10_makeDelivery_128 rfl rfl ?_
        refine g_get_State_events dX10_makeDelivery_129 mw_213 (by assumption) (by assumption) ?_
        refine g_iconst dX10_makeDelivery_132 ?_
        refine g_iload dX10_makeDelivery_133 rfl ?_
        refine g_callVw (i := 1) rfl (gK0 (by assumption)) (g_at1 (by assumption)) (k_E_add Y ev2 ev3 ev4 ev5 ev6 ev7 ev8 ev9 hE125 q1.2.2.2.2.2.2.2 3 _) u_X2_add mw_610 dX10_makeDelivery_135 rfl rfl ⟨Nat.le_of_ble_eq_true rfl, Nat.le_of_ble_eq_true rfl⟩ ⟨Nat.le_of_ble_eq_true rfl, Nat.le_of_ble_eq_true rfl⟩ (Nat.le_of_ble_eq_true rfl) (fun v135 I135 A135 h135 => ?_)
        obtain ⟨rfl, h135b⟩ := h135
        refine g_iload dX10_makeDelivery_138 rfl ?_
        exact g_iret dX10_makeDelivery_140 rfl (by decide) (by decide) ⟨rfl, rfl, rfl, rfl, rfl, by rw [sDel, hll]; exact o125.ev q1.2.2.2.2.2.2.2 evG h135b.1 h135b.2.1 h135b.2.2⟩
      · exfalso; omega
set_option maxHeartbeats 1000000 in
set_option maxRecDepth 100000 in
theorem lp_S_posShade {Y : gEnv} {X : gCtx} {K N : Nat → Nat} {I : Nat → Nat → Int} {A : Nat → Int → Int} {R : Nat → Nat → Option Nat} {Q : Nat → Int → Option Nat} {s : Nat} {G : Nat → Nat × Int} {W : Int → Int} (hsh : cSh K N R Q G s) (hag : ag (cV I R Q s) W) (hsl : cSl I R Q s) (h0 : iN W) (k g pk t : Int) (hk : 0 ≤ k ∧ k ≤ 2) (hg : 0 ≤ g ∧ g ≤ 3) (hpk : 800 ≤ pk ∧ pk ≤ 1200) (ht : 0 ≤ t ∧ t ≤ 19) : ∀ (f m : Nat) (p z : Int), m < f → 0 ≤ p → p + m = 8 → gJ Y X yX10_positionsWithShade cX10_positionsWithShade 8 (some .int) ({ frames := 2, cells := 0, slots := 0, locals := 44 } : Room) (g_pu (some (vi (z + sCnt8 W k g t pk m p))) K N I A R Q) gno 0 0 22 [(0, .ref s), (1, vi k), (2, vi g), (3, vi pk), (4, vi t), (5, vi z), (6, vi p)] [] K N I A R Q := by
  obtain ⟨hKs, hGs, ⟨zg1, zg2, zg3, zg4, zg5⟩, ⟨zq1, zq2, zq3, zq4, zq5⟩, ⟨zp1, zp2, zp3, zp4, zp5⟩, ⟨zl1, zl2, zl3, zl4, zl5⟩, ⟨zd1, zd2, zd3, zd4, zd5⟩⟩ := id hsh
  have c88 : I 166 s = W 88 := ar_166 hag
  have c89 : I 167 s = W 89 := ar_167 hag
  have c10 : I 171 s = W 1610 := ar_171 hag
  have c11 : I 172 s = W 1611 := ar_172 hag
  have c12 : I 173 s = W 1612 := ar_173 hag
  have c13 : I 168 s = W 1613 := ar_168 hag
  have c14 : I 169 s = W 1614 := ar_169 hag
  have c15 : I 170 s = W 1615 := ar_170 hag
  have hP := h0.2.2.2.1
  have hL := h0.2.2.2.2.1
  have n15 : 0 ≤ W 1615 ∧ W 1615 ≤ 40 := ⟨h0.2.2.2.2.2.1.1, h0.2.2.2.2.2.1.2.1⟩
  have nD := h0.2.2.2.2.2.1.2.2
  have nG := h0.1
  have nO := h0.2.1
  have nB := h0.2.2.1
  obtain ⟨s1, s2, s3, s4, s5, s6, s7, s8, s9, s10⟩ := h0.2.2.2.2.2.2.1
  have hsu := h0.sums
  have n13 : 0 ≤ W 1613 ∧ W 1613 ≤ 80 := ⟨hP.1, hP.2.1⟩
  have nP := hP.2.2.1
  have n14 : 0 ≤ W 1614 ∧ W 1614 ≤ 160 := ⟨hL.1, hL.2.1⟩
  have nL := hL.2.2.1

  intro f
  induction f with
  | zero => intro m p z h; omega
  | succ f ih =>
  intro m p z hf hp hm
  refine g_iload dX10_positionsWithShade_22 rfl ?_
  refine g_bipush dX10_positionsWithShade_24 (by decide) ?_
  refine g_icmp_ge (tgt := 72) dX10_positionsWithShade_26 (by decide) (by omega) (by omega) (fun c_26 => ?_) (fun c_26 => ?_)
  · refine g_iload dX10_positionsWithShade_72 rfl ?_
    exact g_iret dX10_positionsWithShade_74 rfl (by decide) (by decide) (g_pu_i (by rw [sCnt8, sSum_stop (by omega), Int.add_zero]) _ _ _ _ _ _)
  · refine g_aload_n dX10_positionsWithShade_29 rfl rfl ?_
    refine g_get_State_positions dX10_positionsWithShade_30 mw_206 (by assumption) (by assumption) ?_
    refine g_iload_n dX10_positionsWithShade_33 rfl rfl ?_
    refine g_bipush dX10_positionsWithShade_34 (by decide) ?_
    refine g_imul dX10_positionsWithShade_36 ?_
    refine g_iload dX10_positionsWithShade_37 rfl ?_
    refine g_iadd dX10_positionsWithShade_39 ?_
    rw [show k * 8 + p = 8 * k + p by omega]
    obtain ⟨zqa, zqb, zqc⟩ := zq5 (8 * k + p) (by omega) (by omega)
    have hoo := nO (8 * k + p) (by omega) (by omega)
    have hw : pk + W (16 + (8 * k + p)) + (if 16 ≤ 8 * k + p then 5 * (8 * k + p - 16 - 3) else 0) = sWarm W k p pk := by
      simp only [sWarm]
      rw [show 16 + 8 * k + p = 16 + (8 * k + p) by omega]
      by_cases q : k = 2
      · rw [if_pos q, if_pos (by omega)]; omega
      · rw [if_neg q, if_neg (by omega)]
    have hwr : 700 ≤ sWarm W k p pk ∧ sWarm W k p pk ≤ 1300 := by rw [← hw]; split <;> omega
    refine g_aald_Position dX10_positionsWithShade_40 (by assumption) (by omega) (by omega) (by assumption) ?_
    refine g_iload_n dX10_positionsWithShade_41 rfl rfl ?_
    refine g_callVp (i := 6) rfl (gK0 (by assumption)) (g_at6 (by assumption)) (k_O_temperature Y zqb pk) u_X8_temperature mw_573 dX10_positionsWithShade_42 rfl rfl ⟨Nat.le_of_ble_eq_true rfl, Nat.le_of_ble_eq_true rfl⟩ ⟨Nat.le_of_ble_eq_true rfl, Nat.le_of_ble_eq_true rfl⟩ (Nat.le_of_ble_eq_true rfl) ?_
    rw [ar_121 hag (i := (8 * k + p)) (by omega) (by omega), hsl (8 * k + p) (by omega) (by omega), hw]
    refine g_istore dX10_positionsWithShade_45 (by decide) ?_
    refine g_aload_n dX10_positionsWithShade_47 rfl rfl ?_
    refine g_get_State_glazes dX10_positionsWithShade_48 mw_204 (by assumption) (by assumption) ?_
    obtain ⟨zga, zgb, zgc⟩ := zg5 g (by omega) (by omega)
    have hgg := nG g (by omega) (by omega)
    refine g_iload_n dX10_positionsWithShade_51 rfl rfl ?_
    refine g_aald_Glaze dX10_positionsWithShade_52 (by assumption) (by omega) (by omega) (by assumption) ?_
    refine g_iload dX10_positionsWithShade_53 rfl ?_
    refine g_callVp (i := 2) rfl (gK0 (by assumption)) (g_at2 (by assumption)) (k_G_shadeFrom Y zgb _ (by omega) (by rw [ar_40 hag (i := g) (by omega) (by omega)]; omega) (by rw [ar_41 hag (i := g) (by omega) (by omega)]; omega)) u_X4_shadeFrom mw_577 dX10_positionsWithShade_55 rfl rfl ⟨Nat.le_of_ble_eq_true rfl, Nat.le_of_ble_eq_true rfl⟩ ⟨Nat.le_of_ble_eq_true rfl, Nat.le_of_ble_eq_true rfl⟩ (Nat.le_of_ble_eq_true rfl) ?_
    rw [ar_40 hag (i := g) (by omega) (by omega), ar_41 hag (i := g) (by omega) (by omega)]
    rw [show sClamp (W g + (W (4 + g) * (sWarm W k p pk - 1000)) / 100) = sShade W k p g pk from rfl]
    have hsr := sShade_range W k p g pk
    refine g_iload dX10_positionsWithShade_58 rfl ?_
    refine g_icmp_ne (tgt := 66) dX10_positionsWithShade_60 (by decide) (by omega) (by omega) (fun c_60 => ?_) (fun c_60 => ?_)
    · refine g_iinc dX10_positionsWithShade_66 rfl (by decide) ?_
      refine g_goto (tgt := 22) dX10_positionsWithShade_69 (by decide) ?_
      rw [sCnt8, sSum_step (by omega), ← Int.add_assoc]
      first | rw [if_pos (by omega)] | rw [if_neg (by omega), Int.add_zero]
      exact g_locs (by exact ⟨rfl, rfl, rfl, rfl, rfl, rfl, rfl, trivial⟩) (ih (m - 1) (p + 1) _ (by omega) (by omega) (by omega))
    · refine g_iinc dX10_positionsWithShade_63 rfl (by decide) ?_
      refine g_iinc dX10_positionsWithShade_66 rfl (by decide) ?_
      refine g_goto (tgt := 22) dX10_positionsWithShade_69 (by decide) ?_
      rw [sCnt8, sSum_step (by omega), ← Int.add_assoc]
      first | rw [if_pos (by omega)] | rw [if_neg (by omega), Int.add_zero]
      exact g_locs (by exact ⟨rfl, rfl, rfl, rfl, rfl, rfl, rfl, trivial⟩) (ih (m - 1) (p + 1) _ (by omega) (by omega) (by omega))
set_option maxHeartbeats 1000000 in
set_option maxRecDepth 100000 in
theorem k_S_posShade (Y : gEnv) {K N : Nat → Nat} {I : Nat → Nat → Int} {A : Nat → Int → Int} {R : Nat → Nat → Option Nat} {Q : Nat → Int → Option Nat} {s : Nat} {G : Nat → Nat × Int} {W : Int → Int} (hsh : cSh K N R Q G s) (hag : ag (cV I R Q s) W) (hsl : cSl I R Q s) (h0 : iN W) (k g pk t : Int) (hk : 0 ≤ k ∧ k ≤ 2) (hg : 0 ≤ g ∧ g ≤ 3) (hpk : 800 ≤ pk ∧ pk ≤ 1200) (ht : 0 ≤ t ∧ t ≤ 19) : gC Y yX10_positionsWithShade cX10_positionsWithShade 8 (some .int) ({ frames := 2, cells := 0, slots := 0, locals := 44 } : Room) [.ref s, vi k, vi g, vi pk, vi t] K N I A R Q (g_pu (some (vi (sCnt8 W k g t pk 8 0))) K N I A R Q) gno := by
  refine gC_of (by decide) (Nat.le_of_ble_eq_true rfl) (fun X => ?_)
  have hl := lp_S_posShade (Y := Y) (X := X) (A := A) hsh hag hsl h0 k g pk t hk hg hpk ht _ 8 0 0 (Nat.lt_succ_self _) (by omega) (by omega)
  rw [Int.zero_add] at hl
  refine g_iload_n dX10_positionsWithShade_0 rfl rfl ?_
  refine g_callSNp (k_isKiln Y _ (by omega)) u_X12_isKiln mw_545 dX10_positionsWithShade_1 rfl rfl ⟨Nat.le_of_ble_eq_true rfl, Nat.le_of_ble_eq_true rfl⟩ ⟨Nat.le_of_ble_eq_true rfl, Nat.le_of_ble_eq_true rfl⟩ (Nat.le_of_ble_eq_true rfl) ?_
  have b1 := ifd (0 ≤ k ∧ k ≤ 2)
  generalize (if 0 ≤ k ∧ k ≤ 2 then (1 : Int) else 0) = z1 at b1 ⊢
  refine g_if_eq (tgt := 14) dX10_positionsWithShade_4 (by decide) (by omega) (fun c_4 => ?_) (fun c_4 => ?_)
  · exfalso; omega
  · refine g_iload_n dX10_positionsWithShade_7 rfl rfl ?_
    refine g_callSNp (k_isGlaze Y _ (by omega)) u_X12_isGlaze mw_546 dX10_positionsWithShade_8 rfl rfl ⟨Nat.le_of_ble_eq_true rfl, Nat.le_of_ble_eq_true rfl⟩ ⟨Nat.le_of_ble_eq_true rfl, Nat.le_of_ble_eq_true rfl⟩ (Nat.le_of_ble_eq_true rfl) ?_
    have b8 := ifd (0 ≤ g ∧ g ≤ 3)
    generalize (if 0 ≤ g ∧ g ≤ 3 then (1 : Int) else 0) = z8 at b8 ⊢
    refine g_if_ne (tgt := 16) dX10_positionsWithShade_11 (by decide) (by omega) (fun c_11 => ?_) (fun c_11 => ?_)
    · refine g_iconst dX10_positionsWithShade_16 ?_
      refine g_istore dX10_positionsWithShade_17 (by decide) ?_
      refine g_iconst dX10_positionsWithShade_19 ?_
      refine g_istore dX10_positionsWithShade_20 (by decide) ?_
      exact g_locs (by exact ⟨rfl, rfl, rfl, rfl, rfl, rfl, rfl, trivial⟩) hl
    · exfalso; omega
set_option maxHeartbeats 1000000 in
set_option maxRecDepth 100000 in
theorem lp_S_hiddenAfter {Y : gEnv} {X : gCtx} {K N : Nat → Nat} {I : Nat → Nat → Int} {A : Nat → Int → Int} {R : Nat → Nat → Option Nat} {Q : Nat → Int → Option Nat} {s : Nat} {G : Nat → Nat × Int} {W : Int → Int} (hsh : cSh K N R Q G s) (hag : ag (cV I R Q s) W) (h0 : iN W) (ps : Int) (hps : 1 ≤ ps ∧ ps ≤ 10) : ∀ (f m : Nat) (i z : Int), m < f → 0 ≤ i → i + m = W 1613 → gJ Y X yX10_hiddenAfter cX10_hiddenAfter 4 (some .int) ({ frames := 1, cells := 0, slots := 0, locals := 25 } : Room) (g_pu (some (vi (z + sHideL W ps m i))) K N I A R Q) gno 0 0 4 [(0, .ref s), (1, vi ps), (2, vi z), (3, vi i)] [] K N I A R Q := by
  obtain ⟨hKs, hGs, ⟨zg1, zg2, zg3, zg4, zg5⟩, ⟨zq1, zq2, zq3, zq4, zq5⟩, ⟨zp1, zp2, zp3, zp4, zp5⟩, ⟨zl1, zl2, zl3, zl4, zl5⟩, ⟨zd1, zd2, zd3, zd4, zd5⟩⟩ := id hsh
  have c88 : I 166 s = W 88 := ar_166 hag
  have c89 : I 167 s = W 89 := ar_167 hag
  have c10 : I 171 s = W 1610 := ar_171 hag
  have c11 : I 172 s = W 1611 := ar_172 hag
  have c12 : I 173 s = W 1612 := ar_173 hag
  have c13 : I 168 s = W 1613 := ar_168 hag
  have c14 : I 169 s = W 1614 := ar_169 hag
  have c15 : I 170 s = W 1615 := ar_170 hag
  have hP := h0.2.2.2.1
  have hL := h0.2.2.2.2.1
  have n15 : 0 ≤ W 1615 ∧ W 1615 ≤ 40 := ⟨h0.2.2.2.2.2.1.1, h0.2.2.2.2.2.1.2.1⟩
  have nD := h0.2.2.2.2.2.1.2.2
  have nG := h0.1
  have nO := h0.2.1
  have nB := h0.2.2.1
  obtain ⟨s1, s2, s3, s4, s5, s6, s7, s8, s9, s10⟩ := h0.2.2.2.2.2.2.1
  have hsu := h0.sums
  have n13 : 0 ≤ W 1613 ∧ W 1613 ≤ 80 := ⟨hP.1, hP.2.1⟩
  have nP := hP.2.2.1
  have n14 : 0 ≤ W 1614 ∧ W 1614 ≤ 160 := ⟨hL.1, hL.2.1⟩
  have nL := hL.2.2.1

  intro f
  induction f with
  | zero => intro m i z h; omega
  | succ f ih =>
  intro m i z hf hi hm
  refine g_iload_n dX10_hiddenAfter_4 rfl rfl ?_
  refine g_aload_n dX10_hiddenAfter_5 rfl rfl ?_
  refine g_get_State_pileCount dX10_hiddenAfter_6 mw_219 (by assumption) ?_
  refine g_icmp_ge (tgt := 45) dX10_hiddenAfter_9 (by decide) (by omega) (by omega) (fun c_9 => ?_) (fun c_9 => ?_)
  · refine g_iload_n dX10_hiddenAfter_45 rfl rfl ?_
    exact g_iret dX10_hiddenAfter_46 rfl (by decide) (by decide) (g_pu_i (by rw [sHideL, sSum_stop (by omega), Int.add_zero]) _ _ _ _ _ _)
  · refine g_iload_n dX10_hiddenAfter_12 rfl rfl ?_
    refine g_aload_n dX10_hiddenAfter_13 rfl rfl ?_
    refine g_get_State_piles dX10_hiddenAfter_14 mw_208 (by assumption) (by assumption) ?_
    refine g_iload_n dX10_hiddenAfter_17 rfl rfl ?_
    obtain ⟨zpa, zpb, zpc⟩ := zp5 i (by omega) (by omega)
    have hpi := h0.pile (p := i) (by omega) (by omega)
    refine g_aald_Pile dX10_hiddenAfter_18 (by assumption) (by omega) (by omega) (by assumption) ?_
    refine g_get_Pile_hidden dX10_hiddenAfter_19 mw_140 (by assumption) ?_
    rw [ar_103 hag (i := i) (by omega) (by omega) (by omega)]
    refine g_aload_n dX10_hiddenAfter_22 rfl rfl ?_
    refine g_get_State_piles dX10_hiddenAfter_23 mw_208 (by assumption) (by assumption) ?_
    refine g_iload_n dX10_hiddenAfter_26 rfl rfl ?_
    obtain ⟨zpa, zpb, zpc⟩ := zp5 i (by omega) (by omega)
    refine g_aald_Pile dX10_hiddenAfter_27 (by assumption) (by omega) (by omega) (by assumption) ?_
    refine g_iload_n dX10_hiddenAfter_28 rfl rfl ?_
    refine g_aload_n dX10_hiddenAfter_29 rfl rfl ?_
    refine g_get_State_sharpness dX10_hiddenAfter_30 mw_215 (by assumption) ?_
    rw [c88]
    refine g_callVp (i := 5) rfl (gK0 (by assumption)) (g_at5 (by assumption)) (k_P_foundBy Y zpb ps (W 88) (by omega) (by omega) (by rw [ar_103 hag (i := i) (by omega) (by omega) (by omega)]; omega)) u_X7_foundBy mw_630 dX10_hiddenAfter_33 rfl rfl ⟨Nat.le_of_ble_eq_true rfl, Nat.le_of_ble_eq_true rfl⟩ ⟨Nat.le_of_ble_eq_true rfl, Nat.le_of_ble_eq_true rfl⟩ (Nat.le_of_ble_eq_true rfl) ?_
    rw [ar_103 hag (i := i) (by omega) (by omega) (by omega)]
    refine g_isub dX10_hiddenAfter_36 ?_
    refine g_iadd dX10_hiddenAfter_37 ?_
    refine g_istore_n dX10_hiddenAfter_38 rfl (by decide) ?_
    refine g_iinc dX10_hiddenAfter_39 rfl (by decide) ?_
    refine g_goto (tgt := 4) dX10_hiddenAfter_42 (by decide) ?_
    rw [sHideL, sSum_step (by omega), ← Int.add_assoc]
    rw [show z + (W (330 + i) - (W (330 + i) - sStays (W 88) ps.toNat (W (330 + i)))) = z + sStays (W 88) ps.toNat (W (330 + i)) by omega]
    exact g_locs (by exact ⟨rfl, rfl, rfl, rfl, trivial⟩) (ih (m - 1) (i + 1) _ (by omega) (by omega) (by omega))
set_option maxHeartbeats 1000000 in
set_option maxRecDepth 100000 in
theorem k_S_hiddenAfter (Y : gEnv) {K N : Nat → Nat} {I : Nat → Nat → Int} {A : Nat → Int → Int} {R : Nat → Nat → Option Nat} {Q : Nat → Int → Option Nat} {s : Nat} {G : Nat → Nat × Int} {W : Int → Int} (hsh : cSh K N R Q G s) (hag : ag (cV I R Q s) W) (h0 : iN W) (ps : Int) (hps : 1 ≤ ps ∧ ps ≤ 10) : gC Y yX10_hiddenAfter cX10_hiddenAfter 4 (some .int) ({ frames := 1, cells := 0, slots := 0, locals := 25 } : Room) [.ref s, vi ps] K N I A R Q (g_pu (some (vi (sHideL W ps (W 1613).toNat 0))) K N I A R Q) gno := by
  refine gC_of (by decide) (Nat.le_of_ble_eq_true rfl) (fun X => ?_)
  have h13 := h0.2.2.2.1.1
  have hl := lp_S_hiddenAfter (Y := Y) (X := X) (A := A) hsh hag h0 ps hps _ (W 1613).toNat 0 0 (Nat.lt_succ_self _) (by omega) (by omega)
  rw [Int.zero_add] at hl
  refine g_iconst dX10_hiddenAfter_0 ?_
  refine g_istore_n dX10_hiddenAfter_1 rfl (by decide) ?_
  refine g_iconst dX10_hiddenAfter_2 ?_
  refine g_istore_n dX10_hiddenAfter_3 rfl (by decide) ?_
  exact g_locs (by exact ⟨rfl, rfl, rfl, rfl, trivial⟩) hl
