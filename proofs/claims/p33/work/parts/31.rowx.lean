theorem i32_xor_neg {a b : Int} (ha : -2147483648 ≤ a ∧ a ≤ 2147483647) (hb : 0 ≤ b ∧ b ≤ 2147483647) : (Int32.ofInt a ^^^ Int32.ofInt b).toInt < 0 ↔ a < 0 := by
  have h1 : ((Int32.ofInt a ^^^ Int32.ofInt b).toBitVec).msb = ((Int32.ofInt a).toBitVec.msb ^^ (Int32.ofInt b).toBitVec.msb) := by rw [Int32.toBitVec_xor, BitVec.msb_xor]
  have h2 : (Int32.ofInt a).toBitVec.toInt = a := i32_toInt ha
  have h3 : (Int32.ofInt b).toBitVec.toInt = b := i32_toInt (by omega)
  rw [BitVec.msb_eq_toInt, BitVec.msb_eq_toInt, BitVec.msb_eq_toInt, h2, h3, show decide (b < 0) = false from decide_eq_false (by omega), Bool.xor_false] at h1
  exact decide_eq_decide.mp h1
theorem g_ixor {Y : gEnv} {X : gCtx} {y : MethodName} {cc : ByteArray} {nL : Nat} {ret : Option FieldType} {rm : Room} {po : gPo} {px : gPx} {k n pc : Nat} {L : List (Nat × Value)} {st : List Value} {K N : Nat → Nat} {I : Nat → Nat → Int} {A : Nat → Int → Int} {R : Nat → Nat → Option Nat} {Q : Nat → Int → Option Nat} {a b : Int} (hd : decode cc pc = .ok (.ixor, 1)) (ha : -2147483648 ≤ a ∧ a ≤ 2147483647) (hb : 0 ≤ b ∧ b ≤ 2147483647) (kk : ∀ z : Int, (-2147483648 ≤ z ∧ z ≤ 2147483647) → (z < 0 ↔ a < 0) → gJ Y X y cc nL ret rm po px k n (pc + 1) L (vi z :: st) K N I A R Q) : gJ Y X y cc nL ret rm po px k n pc L (vi b :: vi a :: st) K N I A R Q := by
  intro hx H locs ls hW hS hl
  refine lv_ixor hx.1 hx.2.1 hd ?_
  have h := kk (Int32.ofInt a ^^^ Int32.ofInt b).toInt ⟨Int32.le_toInt _, by have := Int32.toInt_lt (Int32.ofInt a ^^^ Int32.ofInt b); omega⟩ (i32_xor_neg ha hb)
  rw [show vi (Int32.ofInt a ^^^ Int32.ofInt b).toInt = Value.int (Int32.ofInt a ^^^ Int32.ofInt b) from congrArg Value.int (Int32.ofInt_toInt _)] at h
  exact h hx H locs ls hW hS hl
theorem sFloor {a b : Int} (hb : 0 < b) : (if a < 0 ∧ b * a.tdiv b ≠ a then a.tdiv b - 1 else a.tdiv b) = a / b := by
  by_cases h : 0 ≤ a
  · rw [td_pos h, if_neg (by omega)]
  · have e : a.tdiv b = -((-a) / b) := by rw [← td_pos (show 0 ≤ -a by omega), Int.neg_tdiv, Int.neg_neg]
    have h1 := Int.emod_add_mul_ediv (-a) b
    have h2 := Int.emod_nonneg (-a) (show b ≠ 0 by omega)
    have h3 := Int.emod_lt_of_pos (-a) hb
    have h4 : b * -((-a) / b) = -(b * ((-a) / b)) := Int.mul_neg _ _
    rw [e, h4]
    by_cases q : (-a) % b = 0
    · rw [if_neg (by omega)]
      refine Int.eq_ediv_of_mul_eq_right (by omega) ?_
      rw [h4]; omega
    · rw [if_pos ⟨by omega, by omega⟩]
      symm
      refine (Int.ediv_eq_iff_of_pos hb).mpr ?_
      rw [Int.sub_mul, Int.neg_mul, Int.mul_comm ((-a) / b) b, Int.one_mul]
      omega
theorem gC_ofF {Y : gEnv} {y : MethodName} {cc : ByteArray} {nL : Nat} {ret : Option FieldType} {rm : Room} {av : List Value} {K N : Nat → Nat} {I : Nat → Nat → Int} {A : Nat → Int → Int} {R : Nat → Nat → Option Nat} {Q : Nat → Int → Option Nat} {po : gPo} {px : gPx} (hy : plainFor y = true) (hn : (lg_sl av).length ≤ nL)
    (h : ∀ X : gCtx, gJ Y X y cc nL ret rm po px 0 0 0 (lv_args 0 av) [] K N I A R Q) : gC Y y cc nL ret rm av K N I A R Q po px := by
  refine MetFree.of_bodySF (code := cc) (maxLocals := nL) (ret := ret) hy ?_ ?_
  · intro args s m h hn
    obtain ⟨meth, c, h1, h2, h3, h4, h5, h6, -, -⟩ := Cond.code_spec hn (atoms_spec (ws := lw_ws y cc nL ret) h _ List.mem_cons_self)
    exact ⟨meth, c, h1, h2, h3, h4, h5, h6⟩
  · intro p e s m args below meth c s₁ B hml hv _
    have hh0 : s₁.heap = s.heap := by rw [B.state]; rfl
    have hex : ∀ x ∈ c.exceptionTable.toList, False := by
      obtain ⟨meth9, c9, h1, h2, -, -, -, -, h7, -⟩ := Cond.code_spec B.named (atoms_spec (ws := lw_ws y cc nL ret) B.pre _ List.mem_cons_self)
      cases Option.some.inj (h1.symm.trans B.method)
      cases Option.some.inj (h2.symm.trans (Stand.of_body B).code)
      intro x hx
      rw [Array.isEmpty_iff.mp h7] at hx
      cases hx
    obtain ⟨rfl, hK, hE, hSt, hsz, hW⟩ := hv
    have hts : ∀ w ∈ lw_good, w.before av.toArray s = true := fun w hw => atoms_spec (ws := lw_ws y cc nL ret) B.pre w (List.mem_cons_of_mem _ hw)
    have hown : s.vm.findClass y.cls = some m.cls := findClass_of_methodNamed B.named
    have hl := lv_entry av (n := nL) hn
    have hres := h (p, e, s, m, av.toArray, below, meth, c) ⟨B.exec, B.bytes, hml, hown, hts, hK, hE, hSt, hsz, B.returns, B.notSynchronized, fun _ => hex, (name_of_methodNamed B.named B.method).1⟩ s.heap [] _ hW va_S.rf hl
    rw [← lg_entry_eq] at hres
    obtain ⟨t, a1, o, b1, b2, b3⟩ := hres s₁ hh0 (Stand.of_body B)
    exact ⟨t, o, a1, b1, b2, b3⟩
set_option maxHeartbeats 1000000 in
set_option maxRecDepth 100000 in
theorem k_J_floorDiv (Y : gEnv) {K N : Nat → Nat} {I : Nat → Nat → Int} {A : Nat → Int → Int} {R : Nat → Nat → Option Nat} {Q : Nat → Int → Option Nat} (a : Int) (ha : -1000000000 ≤ a ∧ a ≤ 1000000000) : gC Y yJ9_floorDiv_7cf53 cJ9_floorDiv_7cf53 3 (some .int) ({ frames := 0, cells := 0, slots := 0, locals := 0 } : Room) [vi a, vi 100] K N I A R Q (g_pu (some (vi (a / 100))) K N I A R Q) gno := by
  refine gC_ofF (by decide +kernel) (Nat.le_of_ble_eq_true rfl) (fun X => ?_)
  have hq := @sFloor a 100 (by omega)
  have hq2 : -10000000 ≤ a.tdiv 100 ∧ a.tdiv 100 ≤ 10000000 := by
    by_cases h : 0 ≤ a
    · rw [td_pos h]; omega
    · rw [show a.tdiv 100 = -((-a) / 100) by rw [← td_pos (show 0 ≤ -a by omega), Int.neg_tdiv, Int.neg_neg]]; omega
  refine g_iload_n dJ9_floorDiv_7cf53_0 rfl rfl ?_
  refine g_iload_n dJ9_floorDiv_7cf53_1 rfl rfl ?_
  refine g_idiv dJ9_floorDiv_7cf53_2 (by omega) (by omega) (by omega) ?_
  refine g_istore_n dJ9_floorDiv_7cf53_3 rfl (by decide) ?_
  refine g_iload_n dJ9_floorDiv_7cf53_4 rfl rfl ?_
  refine g_iload_n dJ9_floorDiv_7cf53_5 rfl rfl ?_
  refine g_ixor dJ9_floorDiv_7cf53_6 (by omega) (by omega) (fun x6 r6 s6 => ?_)
  refine g_if_ge (tgt := 21) dJ9_floorDiv_7cf53_7 (by decide) (by omega) (fun c_7 => ?_) (fun c_7 => ?_)
  · refine g_iload_n dJ9_floorDiv_7cf53_21 rfl rfl ?_
    exact g_iret dJ9_floorDiv_7cf53_22 rfl (by decide) (by decide) (g_pu_i (by rw [← hq, if_neg (by omega)]) _ _ _ _ _ _)
  · refine g_iload_n dJ9_floorDiv_7cf53_10 rfl rfl ?_
    refine g_iload_n dJ9_floorDiv_7cf53_11 rfl rfl ?_
    refine g_imul dJ9_floorDiv_7cf53_12 ?_
    refine g_iload_n dJ9_floorDiv_7cf53_13 rfl rfl ?_
    refine g_icmp_eq (tgt := 21) dJ9_floorDiv_7cf53_14 (by decide) (by omega) (by omega) (fun c_14 => ?_) (fun c_14 => ?_)
    · refine g_iload_n dJ9_floorDiv_7cf53_21 rfl rfl ?_
      exact g_iret dJ9_floorDiv_7cf53_22 rfl (by decide) (by decide) (g_pu_i (by rw [← hq, if_neg (by omega)]) _ _ _ _ _ _)
    · refine g_iload_n dJ9_floorDiv_7cf53_17 rfl rfl ?_
      refine g_iconst dJ9_floorDiv_7cf53_18 ?_
      refine g_isub dJ9_floorDiv_7cf53_19 ?_
      exact g_iret dJ9_floorDiv_7cf53_20 rfl (by decide) (by decide) (g_pu_i (by rw [← hq, if_pos (by omega)]) _ _ _ _ _ _)
set_option maxHeartbeats 1000000 in
set_option maxRecDepth 100000 in
theorem k_J_min (Y : gEnv) {K N : Nat → Nat} {I : Nat → Nat → Int} {A : Nat → Int → Int} {R : Nat → Nat → Option Nat} {Q : Nat → Int → Option Nat} (a b : Int) (ha : (-2147483648 ≤ a ∧ a ≤ 2147483647)) (hb : (-2147483648 ≤ b ∧ b ≤ 2147483647)) : gC Y yJ9_min_7cf53 cJ9_min_7cf53 2 (some .int) ({ frames := 0, cells := 0, slots := 0, locals := 0 } : Room) [vi a, vi b] K N I A R Q (g_pu (some (vi (sMin a b))) K N I A R Q) gno := by
  refine gC_ofF (by decide +kernel) (Nat.le_of_ble_eq_true rfl) (fun X => ?_)
  refine g_iload_n dJ9_min_7cf53_0 rfl rfl ?_
  refine g_iload_n dJ9_min_7cf53_1 rfl rfl ?_
  refine g_icmp_gt (tgt := 9) dJ9_min_7cf53_2 (by decide) (by omega) (by omega) (fun c_2 => ?_) (fun c_2 => ?_)
  · refine g_iload_n dJ9_min_7cf53_9 rfl rfl ?_
    exact g_iret dJ9_min_7cf53_10 rfl (by decide) (by decide) (g_pu_i (by (try unfold sMin); split <;> omega) _ _ _ _ _ _)
  · refine g_iload_n dJ9_min_7cf53_5 rfl rfl ?_
    refine g_goto (tgt := 10) dJ9_min_7cf53_6 (by decide) ?_
    exact g_iret dJ9_min_7cf53_10 rfl (by decide) (by decide) (g_pu_i (by (try unfold sMin); split <;> omega) _ _ _ _ _ _)
set_option maxHeartbeats 1000000 in
set_option maxRecDepth 100000 in
theorem k_J_max (Y : gEnv) {K N : Nat → Nat} {I : Nat → Nat → Int} {A : Nat → Int → Int} {R : Nat → Nat → Option Nat} {Q : Nat → Int → Option Nat} (a b : Int) (ha : (-2147483648 ≤ a ∧ a ≤ 2147483647)) (hb : (-2147483648 ≤ b ∧ b ≤ 2147483647)) : gC Y yJ9_max_7cf53 cJ9_max_7cf53 2 (some .int) ({ frames := 0, cells := 0, slots := 0, locals := 0 } : Room) [vi a, vi b] K N I A R Q (g_pu (some (vi (if a < b then b else a))) K N I A R Q) gno := by
  refine gC_ofF (by decide +kernel) (Nat.le_of_ble_eq_true rfl) (fun X => ?_)
  refine g_iload_n dJ9_max_7cf53_0 rfl rfl ?_
  refine g_iload_n dJ9_max_7cf53_1 rfl rfl ?_
  refine g_icmp_lt (tgt := 9) dJ9_max_7cf53_2 (by decide) (by omega) (by omega) (fun c_2 => ?_) (fun c_2 => ?_)
  · refine g_iload_n dJ9_max_7cf53_9 rfl rfl ?_
    exact g_iret dJ9_max_7cf53_10 rfl (by decide) (by decide) (g_pu_i (by (try unfold sMin); split <;> omega) _ _ _ _ _ _)
  · refine g_iload_n dJ9_max_7cf53_5 rfl rfl ?_
    refine g_goto (tgt := 10) dJ9_max_7cf53_6 (by decide) ?_
    exact g_iret dJ9_max_7cf53_10 rfl (by decide) (by decide) (g_pu_i (by (try unfold sMin); split <;> omega) _ _ _ _ _ _)
set_option maxHeartbeats 1000000 in
set_option maxRecDepth 100000 in
theorem k_G_shadeFrom (Y : gEnv) {K N : Nat → Nat} {I : Nat → Nat → Int} {A : Nat → Int → Int} {R : Nat → Nat → Option Nat} {Q : Nat → Int → Option Nat} {q : Nat} (hK : K q = 3) (t : Int) (ht : -2000 ≤ t ∧ t ≤ 5000) (h1 : 0 ≤ I 40 q ∧ I 40 q ≤ 19) (h2 : 0 ≤ I 41 q ∧ I 41 q ≤ 20) : gC Y yX4_shadeFrom cX4_shadeFrom 3 (some .int) ({ frames := 1, cells := 0, slots := 0, locals := 22 } : Room) [.ref q, vi t] K N I A R Q (g_pu (some (vi (sClamp (I 40 q + (I 41 q * (t - 1000)) / 100)))) K N I A R Q) gno := by
  refine gC_of (by decide) (Nat.le_of_ble_eq_true rfl) (fun X => ?_)
  have hm := sMulB h2 (show -5000 ≤ t - 1000 ∧ t - 1000 ≤ 5000 by omega)
  refine g_aload_n dX4_shadeFrom_0 rfl rfl ?_
  refine g_get_Glaze_base dX4_shadeFrom_1 mw_90 (by assumption) ?_
  refine g_aload_n dX4_shadeFrom_4 rfl rfl ?_
  refine g_get_Glaze_sensitivity dX4_shadeFrom_5 mw_92 (by assumption) ?_
  refine g_iload_n dX4_shadeFrom_8 rfl rfl ?_
  refine g_sipush dX4_shadeFrom_9 (by decide) ?_
  refine g_isub dX4_shadeFrom_12 ?_
  refine g_imul dX4_shadeFrom_13 ?_
  refine g_bipush dX4_shadeFrom_14 (by decide) ?_
  refine g_callSOp (k_J_floorDiv Y _ (by omega)) u_J9_floorDiv mw_581 dX4_shadeFrom_16 rfl rfl ⟨Nat.le_of_ble_eq_true rfl, Nat.le_of_ble_eq_true rfl⟩ ⟨Nat.le_of_ble_eq_true rfl, Nat.le_of_ble_eq_true rfl⟩ (Nat.le_of_ble_eq_true rfl) ?_
  refine g_iadd dX4_shadeFrom_19 ?_
  refine g_istore_n dX4_shadeFrom_20 rfl (by decide) ?_
  refine g_iconst dX4_shadeFrom_21 ?_
  refine g_iload_n dX4_shadeFrom_22 rfl rfl ?_
  refine g_bipush dX4_shadeFrom_23 (by decide) ?_
  refine g_callSOp (k_J_min Y _ _ (by omega) (by omega)) u_J9_min mw_584 dX4_shadeFrom_25 rfl rfl ⟨Nat.le_of_ble_eq_true rfl, Nat.le_of_ble_eq_true rfl⟩ ⟨Nat.le_of_ble_eq_true rfl, Nat.le_of_ble_eq_true rfl⟩ (Nat.le_of_ble_eq_true rfl) ?_
  have hmn := sMin_le (I 40 q + (I 41 q * (t - 1000)) / 100) 19
  refine g_callSOp (k_J_max Y _ _ (by omega) (by omega)) u_J9_max mw_587 dX4_shadeFrom_28 rfl rfl ⟨Nat.le_of_ble_eq_true rfl, Nat.le_of_ble_eq_true rfl⟩ ⟨Nat.le_of_ble_eq_true rfl, Nat.le_of_ble_eq_true rfl⟩ (Nat.le_of_ble_eq_true rfl) ?_
  exact g_iret dX4_shadeFrom_31 rfl (by decide) (by decide) (g_pu_i (by
      simp only [sClamp, sMin]
      repeat (first | omega | split)) _ _ _ _ _ _)
set_option maxHeartbeats 1000000 in
set_option maxRecDepth 100000 in
theorem k_G_tileValue (Y : gEnv) {K N : Nat → Nat} {I : Nat → Nat → Int} {A : Nat → Int → Int} {R : Nat → Nat → Option Nat} {Q : Nat → Int → Option Nat} {q : Nat} (hK : K q = 3) (g : Int) (hg : (-2147483648 ≤ g ∧ g ≤ 2147483647)) (hp : 0 ≤ I 43 q ∧ I 43 q ≤ 9999) : gC Y yX4_tileValue cX4_tileValue 2 (some .int) ({ frames := 0, cells := 0, slots := 0, locals := 0 } : Room) [.ref q, vi g] K N I A R Q (g_pu (some (vi (if g = 1 then I 43 q else (I 43 q).tdiv 2))) K N I A R Q) gno := by
  refine gC_of (by decide) (Nat.le_of_ble_eq_true rfl) (fun X => ?_)
  refine g_iload_n dX4_tileValue_0 rfl rfl ?_
  refine g_iconst dX4_tileValue_1 ?_
  refine g_icmp_ne (tgt := 12) dX4_tileValue_2 (by decide) (by omega) (by omega) (fun c_2 => ?_) (fun c_2 => ?_)
  · refine g_aload_n dX4_tileValue_12 rfl rfl ?_
    refine g_get_Glaze_price dX4_tileValue_13 mw_97 (by assumption) ?_
    refine g_iconst dX4_tileValue_16 ?_
    refine g_idiv dX4_tileValue_17 (by omega) (by omega) (by omega) ?_
    exact g_iret dX4_tileValue_18 rfl (by decide) (by decide) (g_pu_i (by repeat (first | rfl | rw [if_pos (by omega)] | rw [if_neg (by omega)])) _ _ _ _ _ _)
  · refine g_aload_n dX4_tileValue_5 rfl rfl ?_
    refine g_get_Glaze_price dX4_tileValue_6 mw_97 (by assumption) ?_
    refine g_goto (tgt := 18) dX4_tileValue_9 (by decide) ?_
    exact g_iret dX4_tileValue_18 rfl (by decide) (by decide) (g_pu_i (by repeat (first | rfl | rw [if_pos (by omega)] | rw [if_neg (by omega)])) _ _ _ _ _ _)
set_option maxHeartbeats 1000000 in
set_option maxRecDepth 100000 in
theorem k_L_property (Y : gEnv) {K N : Nat → Nat} {I : Nat → Nat → Int} {A : Nat → Int → Int} {R : Nat → Nat → Option Nat} {Q : Nat → Int → Option Nat} {q : Nat} (hK : K q = 5) (p : Int) (hp : 0 ≤ p ∧ p ≤ 5) : gC Y yX6_property cX6_property 2 (some .int) ({ frames := 0, cells := 0, slots := 0, locals := 0 } : Room) [.ref q, vi p] K N I A R Q (g_pu (some (vi (if p = 0 then I 80 q else if p = 1 then I 81 q else if p = 2 then I 82 q else if p = 3 then I 83 q else if p = 4 then I 84 q else I 85 q))) K N I A R Q) gno := by
  refine gC_of (by decide) (Nat.le_of_ble_eq_true rfl) (fun X => ?_)
  refine g_iload_n dX6_property_0 rfl rfl ?_
  rcases (show p = 0 ∨ p = 1 ∨ p = 2 ∨ p = 3 ∨ p = 4 ∨ (p < 0 ∨ 4 < p) by omega) with t1 | t1 | t1 | t1 | t1 | t1
  · refine g_tswIn (off := 35) (tgt := 36) dX6_property_1 (by omega) 0 (by omega) (by omega) rfl (by decide) ?_
    refine g_aload_n dX6_property_36 rfl rfl ?_
    refine g_get_Lot_glaze dX6_property_37 mw_155 (by assumption) ?_
    exact g_iret dX6_property_40 rfl (by decide) (by decide) (g_pu_i (by repeat (first | rfl | rw [if_pos (by omega)] | rw [if_neg (by omega)])) _ _ _ _ _ _)
  · refine g_tswIn (off := 40) (tgt := 41) dX6_property_1 (by omega) 1 (by omega) (by omega) rfl (by decide) ?_
    refine g_aload_n dX6_property_41 rfl rfl ?_
    refine g_get_Lot_shade dX6_property_42 mw_156 (by assumption) ?_
    exact g_iret dX6_property_45 rfl (by decide) (by decide) (g_pu_i (by repeat (first | rfl | rw [if_pos (by omega)] | rw [if_neg (by omega)])) _ _ _ _ _ _)
  · refine g_tswIn (off := 45) (tgt := 46) dX6_property_1 (by omega) 2 (by omega) (by omega) rfl (by decide) ?_
    refine g_aload_n dX6_property_46 rfl rfl ?_
    refine g_get_Lot_grade dX6_property_47 mw_158 (by assumption) ?_
    exact g_iret dX6_property_50 rfl (by decide) (by decide) (g_pu_i (by repeat (first | rfl | rw [if_pos (by omega)] | rw [if_neg (by omega)])) _ _ _ _ _ _)
  · refine g_tswIn (off := 50) (tgt := 51) dX6_property_1 (by omega) 3 (by omega) (by omega) rfl (by decide) ?_
    refine g_aload_n dX6_property_51 rfl rfl ?_
    refine g_get_Lot_loose dX6_property_52 mw_159 (by assumption) ?_
    exact g_iret dX6_property_55 rfl (by decide) (by decide) (g_pu_i (by repeat (first | rfl | rw [if_pos (by omega)] | rw [if_neg (by omega)])) _ _ _ _ _ _)
  · refine g_tswIn (off := 55) (tgt := 56) dX6_property_1 (by omega) 4 (by omega) (by omega) rfl (by decide) ?_
    refine g_aload_n dX6_property_56 rfl rfl ?_
    refine g_get_Lot_boxes dX6_property_57 mw_161 (by assumption) ?_
    exact g_iret dX6_property_60 rfl (by decide) (by decide) (g_pu_i (by repeat (first | rfl | rw [if_pos (by omega)] | rw [if_neg (by omega)])) _ _ _ _ _ _)
  · refine g_tswOut (tgt := 61) dX6_property_1 (by omega) (by omega) (by decide) ?_
    refine g_aload_n dX6_property_61 rfl rfl ?_
    refine g_get_Lot_hidden dX6_property_62 mw_163 (by assumption) ?_
    exact g_iret dX6_property_65 rfl (by decide) (by decide) (g_pu_i (by repeat (first | rfl | rw [if_pos (by omega)] | rw [if_neg (by omega)])) _ _ _ _ _ _)
set_option maxHeartbeats 1000000 in
set_option maxRecDepth 100000 in
theorem k_D_property (Y : gEnv) {K N : Nat → Nat} {I : Nat → Nat → Int} {A : Nat → Int → Int} {R : Nat → Nat → Option Nat} {Q : Nat → Int → Option Nat} {q : Nat} (hK : K q = 1) (p : Int) (hp : 0 ≤ p ∧ p ≤ 4) (hr : ∀ f, f < 4 → (-2147483648 ≤ I f q ∧ I f q ≤ 2147483647)) : gC Y yX1_property cX1_property 2 (some .long) ({ frames := 0, cells := 0, slots := 0, locals := 0 } : Room) [.ref q, vi p] K N I A R Q (g_pu (some (vl (if p = 0 then I 0 q else if p = 1 then I 1 q else if p = 2 then I 2 q else if p = 3 then I 3 q else I 4 q))) K N I A R Q) gno := by
  refine gC_of (by decide) (Nat.le_of_ble_eq_true rfl) (fun X => ?_)
  refine g_iload_n dX1_property_0 rfl rfl ?_
  rcases (show p = 0 ∨ p = 1 ∨ p = 2 ∨ p = 3 ∨ (p < 0 ∨ 3 < p) by omega) with t1 | t1 | t1 | t1 | t1
  · refine g_tswIn (off := 31) (tgt := 32) dX1_property_1 (by omega) 0 (by omega) (by omega) rfl (by decide) ?_
    refine g_aload_n dX1_property_32 rfl rfl ?_
    refine g_get_Delivery_lot dX1_property_33 mw_183 (by assumption) ?_
    refine g_i2l dX1_property_36 (by first | exact hr _ (by omega)) ?_
    exact g_lret dX1_property_37 rfl (by decide) (by decide) (g_pu_l (by repeat (first | rfl | rw [if_pos (by omega)] | rw [if_neg (by omega)])) _ _ _ _ _ _)
  · refine g_tswIn (off := 37) (tgt := 38) dX1_property_1 (by omega) 1 (by omega) (by omega) rfl (by decide) ?_
    refine g_aload_n dX1_property_38 rfl rfl ?_
    refine g_get_Delivery_boxes dX1_property_39 mw_185 (by assumption) ?_
    refine g_i2l dX1_property_42 (by first | exact hr _ (by omega)) ?_
    exact g_lret dX1_property_43 rfl (by decide) (by decide) (g_pu_l (by repeat (first | rfl | rw [if_pos (by omega)] | rw [if_neg (by omega)])) _ _ _ _ _ _)
  · refine g_tswIn (off := 43) (tgt := 44) dX1_property_1 (by omega) 2 (by omega) (by omega) rfl (by decide) ?_
    refine g_aload_n dX1_property_44 rfl rfl ?_
    refine g_get_Delivery_out dX1_property_45 mw_187 (by assumption) ?_
    refine g_i2l dX1_property_48 (by first | exact hr _ (by omega)) ?_
    exact g_lret dX1_property_49 rfl (by decide) (by decide) (g_pu_l (by repeat (first | rfl | rw [if_pos (by omega)] | rw [if_neg (by omega)])) _ _ _ _ _ _)
  · refine g_tswIn (off := 49) (tgt := 50) dX1_property_1 (by omega) 3 (by omega) (by omega) rfl (by decide) ?_
    refine g_aload_n dX1_property_50 rfl rfl ?_
    refine g_get_Delivery_complaints dX1_property_51 mw_189 (by assumption) ?_
    refine g_i2l dX1_property_54 (by first | exact hr _ (by omega)) ?_
    exact g_lret dX1_property_55 rfl (by decide) (by decide) (g_pu_l (by repeat (first | rfl | rw [if_pos (by omega)] | rw [if_neg (by omega)])) _ _ _ _ _ _)
  · refine g_tswOut (tgt := 56) dX1_property_1 (by omega) (by omega) (by decide) ?_
    refine g_aload_n dX1_property_56 rfl rfl ?_
    refine g_get_Delivery_value dX1_property_57 mw_191 (by assumption) ?_
    exact g_lret dX1_property_60 rfl (by decide) (by decide) (g_pu_l (by repeat (first | rfl | rw [if_pos (by omega)] | rw [if_neg (by omega)])) _ _ _ _ _ _)
set_option maxHeartbeats 1000000 in
set_option maxRecDepth 100000 in
theorem k_G_copy (Y : gEnv) {K N : Nat → Nat} {I : Nat → Nat → Int} {A : Nat → Int → Int} {R : Nat → Nat → Option Nat} {Q : Nat → Int → Option Nat} {q b : Nat} (hK : K q = 3) (hKb : K b = 3) : gC Y yX4_copyFrom cX4_copyFrom 2 none ({ frames := 0, cells := 0, slots := 0, locals := 0 } : Room) [.ref q, .ref b] K N I A R Q (g_wr K N R Q (fun v I' A' => v = none ∧ I' = (g_up (g_up (g_up (g_up I 40 q (I 40 b)) 41 q (I 41 b)) 42 q (I 42 b)) 43 q (I 43 b)) ∧ A' = A)) gno := by
  refine gC_of (by decide) (Nat.le_of_ble_eq_true rfl) (fun X => ?_)
  refine g_aload_n dX4_copyFrom_0 rfl rfl ?_
  refine g_aload_n dX4_copyFrom_1 rfl rfl ?_
  refine g_get_Glaze_base dX4_copyFrom_2 mw_90 (by assumption) ?_
  refine g_put_Glaze_base dX4_copyFrom_5 mw_90 (by assumption) (fun I5 hI5 => ?_)
  refine g_aload_n dX4_copyFrom_8 rfl rfl ?_
  refine g_aload_n dX4_copyFrom_9 rfl rfl ?_
  refine g_get_Glaze_sensitivity dX4_copyFrom_10 mw_92 (by assumption) ?_
  rw [show I5 41 b = I 41 b by rw [hI5, g_up_ne1 _ _ (by omega)]]
  refine g_put_Glaze_sensitivity dX4_copyFrom_13 mw_92 (by assumption) (fun I13 hI13 => ?_)
  refine g_aload_n dX4_copyFrom_16 rfl rfl ?_
  refine g_aload_n dX4_copyFrom_17 rfl rfl ?_
  refine g_get_Glaze_defects dX4_copyFrom_18 mw_94 (by assumption) ?_
  rw [show I13 42 b = I 42 b by rw [hI13, g_up_ne1 _ _ (by omega), hI5, g_up_ne1 _ _ (by omega)]]
  refine g_put_Glaze_defects dX4_copyFrom_21 mw_94 (by assumption) (fun I21 hI21 => ?_)
  refine g_aload_n dX4_copyFrom_24 rfl rfl ?_
  refine g_aload_n dX4_copyFrom_25 rfl rfl ?_
  refine g_get_Glaze_price dX4_copyFrom_26 mw_97 (by assumption) ?_
  rw [show I21 43 b = I 43 b by rw [hI21, g_up_ne1 _ _ (by omega), hI13, g_up_ne1 _ _ (by omega), hI5, g_up_ne1 _ _ (by omega)]]
  refine g_put_Glaze_price dX4_copyFrom_29 mw_97 (by assumption) (fun I29 hI29 => ?_)
  exact g_vret dX4_copyFrom_32 rfl (by decide) (by decide) ⟨rfl, rfl, rfl, rfl, rfl, by rw [hI29, hI21, hI13, hI5], rfl⟩
set_option maxHeartbeats 1000000 in
set_option maxRecDepth 100000 in
theorem k_O_copy (Y : gEnv) {K N : Nat → Nat} {I : Nat → Nat → Int} {A : Nat → Int → Int} {R : Nat → Nat → Option Nat} {Q : Nat → Int → Option Nat} {q b : Nat} (hK : K q = 7) (hKb : K b = 7) : gC Y yX8_copyFrom cX8_copyFrom 2 none ({ frames := 0, cells := 0, slots := 0, locals := 0 } : Room) [.ref q, .ref b] K N I A R Q (g_wr K N R Q (fun v I' A' => v = none ∧ I' = (g_up (g_up (g_up I 121 q (I 121 b)) 122 q (I 122 b)) 123 q (I 123 b)) ∧ A' = A)) gno := by
  refine gC_of (by decide) (Nat.le_of_ble_eq_true rfl) (fun X => ?_)
  refine g_aload_n dX8_copyFrom_0 rfl rfl ?_
  refine g_aload_n dX8_copyFrom_1 rfl rfl ?_
  refine g_get_Position_offset dX8_copyFrom_2 mw_114 (by assumption) ?_
  refine g_put_Position_offset dX8_copyFrom_5 mw_114 (by assumption) (fun I5 hI5 => ?_)
  refine g_aload_n dX8_copyFrom_8 rfl rfl ?_
  refine g_aload_n dX8_copyFrom_9 rfl rfl ?_
  refine g_get_Position_breakage dX8_copyFrom_10 mw_116 (by assumption) ?_
  rw [show I5 122 b = I 122 b by rw [hI5, g_up_ne1 _ _ (by omega)]]
  refine g_put_Position_breakage dX8_copyFrom_13 mw_116 (by assumption) (fun I13 hI13 => ?_)
  refine g_aload_n dX8_copyFrom_16 rfl rfl ?_
  refine g_aload_n dX8_copyFrom_17 rfl rfl ?_
  refine g_get_Position_broken dX8_copyFrom_18 mw_118 (by assumption) ?_
  rw [show I13 123 b = I 123 b by rw [hI13, g_up_ne1 _ _ (by omega), hI5, g_up_ne1 _ _ (by omega)]]
  refine g_put_Position_broken dX8_copyFrom_21 mw_118 (by assumption) (fun I21 hI21 => ?_)
  exact g_vret dX8_copyFrom_24 rfl (by decide) (by decide) ⟨rfl, rfl, rfl, rfl, rfl, by rw [hI21, hI13, hI5], rfl⟩
set_option maxHeartbeats 1000000 in
set_option maxRecDepth 100000 in
theorem k_P_copy (Y : gEnv) {K N : Nat → Nat} {I : Nat → Nat → Int} {A : Nat → Int → Int} {R : Nat → Nat → Option Nat} {Q : Nat → Int → Option Nat} {q b : Nat} (hK : K q = 6) (hKb : K b = 6) : gC Y yX7_copyFrom cX7_copyFrom 2 none ({ frames := 0, cells := 0, slots := 0, locals := 0 } : Room) [.ref q, .ref b] K N I A R Q (g_wr K N R Q (fun v I' A' => v = none ∧ I' = (g_up (g_up (g_up (g_up I 100 q (I 100 b)) 101 q (I 101 b)) 102 q (I 102 b)) 103 q (I 103 b)) ∧ A' = A)) gno := by
  refine gC_of (by decide) (Nat.le_of_ble_eq_true rfl) (fun X => ?_)
  refine g_aload_n dX7_copyFrom_0 rfl rfl ?_
  refine g_aload_n dX7_copyFrom_1 rfl rfl ?_
  refine g_get_Pile_glaze dX7_copyFrom_2 mw_133 (by assumption) ?_
  refine g_put_Pile_glaze dX7_copyFrom_5 mw_133 (by assumption) (fun I5 hI5 => ?_)
  refine g_aload_n dX7_copyFrom_8 rfl rfl ?_
  refine g_aload_n dX7_copyFrom_9 rfl rfl ?_
  refine g_get_Pile_shade dX7_copyFrom_10 mw_135 (by assumption) ?_
  rw [show I5 101 b = I 101 b by rw [hI5, g_up_ne1 _ _ (by omega)]]
  refine g_put_Pile_shade dX7_copyFrom_13 mw_135 (by assumption) (fun I13 hI13 => ?_)
  refine g_aload_n dX7_copyFrom_16 rfl rfl ?_
  refine g_aload_n dX7_copyFrom_17 rfl rfl ?_
  refine g_get_Pile_tiles dX7_copyFrom_18 mw_137 (by assumption) ?_
  rw [show I13 102 b = I 102 b by rw [hI13, g_up_ne1 _ _ (by omega), hI5, g_up_ne1 _ _ (by omega)]]
  refine g_put_Pile_tiles dX7_copyFrom_21 mw_137 (by assumption) (fun I21 hI21 => ?_)
  refine g_aload_n dX7_copyFrom_24 rfl rfl ?_
  refine g_aload_n dX7_copyFrom_25 rfl rfl ?_
  refine g_get_Pile_hidden dX7_copyFrom_26 mw_139 (by assumption) ?_
  rw [show I21 103 b = I 103 b by rw [hI21, g_up_ne1 _ _ (by omega), hI13, g_up_ne1 _ _ (by omega), hI5, g_up_ne1 _ _ (by omega)]]
  refine g_put_Pile_hidden dX7_copyFrom_29 mw_139 (by assumption) (fun I29 hI29 => ?_)
  exact g_vret dX7_copyFrom_32 rfl (by decide) (by decide) ⟨rfl, rfl, rfl, rfl, rfl, by rw [hI29, hI21, hI13, hI5], rfl⟩
set_option maxHeartbeats 1000000 in
set_option maxRecDepth 100000 in
theorem k_L_copy (Y : gEnv) {K N : Nat → Nat} {I : Nat → Nat → Int} {A : Nat → Int → Int} {R : Nat → Nat → Option Nat} {Q : Nat → Int → Option Nat} {q b : Nat} (hK : K q = 5) (hKb : K b = 5) : gC Y yX6_copyFrom cX6_copyFrom 2 none ({ frames := 0, cells := 0, slots := 0, locals := 0 } : Room) [.ref q, .ref b] K N I A R Q (g_wr K N R Q (fun v I' A' => v = none ∧ I' = (g_up (g_up (g_up (g_up (g_up (g_up I 80 q (I 80 b)) 81 q (I 81 b)) 82 q (I 82 b)) 83 q (I 83 b)) 84 q (I 84 b)) 85 q (I 85 b)) ∧ A' = A)) gno := by
  refine gC_of (by decide) (Nat.le_of_ble_eq_true rfl) (fun X => ?_)
  refine g_aload_n dX6_copyFrom_0 rfl rfl ?_
  refine g_aload_n dX6_copyFrom_1 rfl rfl ?_
  refine g_get_Lot_glaze dX6_copyFrom_2 mw_155 (by assumption) ?_
  refine g_put_Lot_glaze dX6_copyFrom_5 mw_155 (by assumption) (fun I5 hI5 => ?_)
  refine g_aload_n dX6_copyFrom_8 rfl rfl ?_
  refine g_aload_n dX6_copyFrom_9 rfl rfl ?_
  refine g_get_Lot_shade dX6_copyFrom_10 mw_156 (by assumption) ?_
  rw [show I5 81 b = I 81 b by rw [hI5, g_up_ne1 _ _ (by omega)]]
  refine g_put_Lot_shade dX6_copyFrom_13 mw_156 (by assumption) (fun I13 hI13 => ?_)
  refine g_aload_n dX6_copyFrom_16 rfl rfl ?_
  refine g_aload_n dX6_copyFrom_17 rfl rfl ?_
  refine g_get_Lot_grade dX6_copyFrom_18 mw_158 (by assumption) ?_
  rw [show I13 82 b = I 82 b by rw [hI13, g_up_ne1 _ _ (by omega), hI5, g_up_ne1 _ _ (by omega)]]
  refine g_put_Lot_grade dX6_copyFrom_21 mw_158 (by assumption) (fun I21 hI21 => ?_)
  refine g_aload_n dX6_copyFrom_24 rfl rfl ?_
  refine g_aload_n dX6_copyFrom_25 rfl rfl ?_
  refine g_get_Lot_loose dX6_copyFrom_26 mw_159 (by assumption) ?_
  rw [show I21 83 b = I 83 b by rw [hI21, g_up_ne1 _ _ (by omega), hI13, g_up_ne1 _ _ (by omega), hI5, g_up_ne1 _ _ (by omega)]]
  refine g_put_Lot_loose dX6_copyFrom_29 mw_159 (by assumption) (fun I29 hI29 => ?_)
  refine g_aload_n dX6_copyFrom_32 rfl rfl ?_
  refine g_aload_n dX6_copyFrom_33 rfl rfl ?_
  refine g_get_Lot_boxes dX6_copyFrom_34 mw_161 (by assumption) ?_
  rw [show I29 84 b = I 84 b by rw [hI29, g_up_ne1 _ _ (by omega), hI21, g_up_ne1 _ _ (by omega), hI13, g_up_ne1 _ _ (by omega), hI5, g_up_ne1 _ _ (by omega)]]
  refine g_put_Lot_boxes dX6_copyFrom_37 mw_161 (by assumption) (fun I37 hI37 => ?_)
  refine g_aload_n dX6_copyFrom_40 rfl rfl ?_
  refine g_aload_n dX6_copyFrom_41 rfl rfl ?_
  refine g_get_Lot_hidden dX6_copyFrom_42 mw_163 (by assumption) ?_
  rw [show I37 85 b = I 85 b by rw [hI37, g_up_ne1 _ _ (by omega), hI29, g_up_ne1 _ _ (by omega), hI21, g_up_ne1 _ _ (by omega), hI13, g_up_ne1 _ _ (by omega), hI5, g_up_ne1 _ _ (by omega)]]
  refine g_put_Lot_hidden dX6_copyFrom_45 mw_163 (by assumption) (fun I45 hI45 => ?_)
  exact g_vret dX6_copyFrom_48 rfl (by decide) (by decide) ⟨rfl, rfl, rfl, rfl, rfl, by rw [hI45, hI37, hI29, hI21, hI13, hI5], rfl⟩
set_option maxHeartbeats 1000000 in
set_option maxRecDepth 100000 in
theorem k_D_copy (Y : gEnv) {K N : Nat → Nat} {I : Nat → Nat → Int} {A : Nat → Int → Int} {R : Nat → Nat → Option Nat} {Q : Nat → Int → Option Nat} {q b : Nat} (hK : K q = 1) (hKb : K b = 1) : gC Y yX1_copyFrom cX1_copyFrom 2 none ({ frames := 0, cells := 0, slots := 0, locals := 0 } : Room) [.ref q, .ref b] K N I A R Q (g_wr K N R Q (fun v I' A' => v = none ∧ I' = (g_up (g_up (g_up (g_up (g_up I 0 q (I 0 b)) 1 q (I 1 b)) 2 q (I 2 b)) 3 q (I 3 b)) 4 q (I 4 b)) ∧ A' = A)) gno := by
  refine gC_of (by decide) (Nat.le_of_ble_eq_true rfl) (fun X => ?_)
  refine g_aload_n dX1_copyFrom_0 rfl rfl ?_
  refine g_aload_n dX1_copyFrom_1 rfl rfl ?_
  refine g_get_Delivery_lot dX1_copyFrom_2 mw_183 (by assumption) ?_
  refine g_put_Delivery_lot dX1_copyFrom_5 mw_183 (by assumption) (fun I5 hI5 => ?_)
  refine g_aload_n dX1_copyFrom_8 rfl rfl ?_
  refine g_aload_n dX1_copyFrom_9 rfl rfl ?_
  refine g_get_Delivery_boxes dX1_copyFrom_10 mw_185 (by assumption) ?_
  rw [show I5 1 b = I 1 b by rw [hI5, g_up_ne1 _ _ (by omega)]]
  refine g_put_Delivery_boxes dX1_copyFrom_13 mw_185 (by assumption) (fun I13 hI13 => ?_)
  refine g_aload_n dX1_copyFrom_16 rfl rfl ?_
  refine g_aload_n dX1_copyFrom_17 rfl rfl ?_
  refine g_get_Delivery_out dX1_copyFrom_18 mw_187 (by assumption) ?_
  rw [show I13 2 b = I 2 b by rw [hI13, g_up_ne1 _ _ (by omega), hI5, g_up_ne1 _ _ (by omega)]]
  refine g_put_Delivery_out dX1_copyFrom_21 mw_187 (by assumption) (fun I21 hI21 => ?_)
  refine g_aload_n dX1_copyFrom_24 rfl rfl ?_
  refine g_aload_n dX1_copyFrom_25 rfl rfl ?_
  refine g_get_Delivery_complaints dX1_copyFrom_26 mw_189 (by assumption) ?_
  rw [show I21 3 b = I 3 b by rw [hI21, g_up_ne1 _ _ (by omega), hI13, g_up_ne1 _ _ (by omega), hI5, g_up_ne1 _ _ (by omega)]]
  refine g_put_Delivery_complaints dX1_copyFrom_29 mw_189 (by assumption) (fun I29 hI29 => ?_)
  refine g_aload_n dX1_copyFrom_32 rfl rfl ?_
  refine g_aload_n dX1_copyFrom_33 rfl rfl ?_
  refine g_get_Delivery_value dX1_copyFrom_34 mw_191 (by assumption) ?_
  rw [show I29 4 b = I 4 b by rw [hI29, g_up_ne1 _ _ (by omega), hI21, g_up_ne1 _ _ (by omega), hI13, g_up_ne1 _ _ (by omega), hI5, g_up_ne1 _ _ (by omega)]]
  refine g_put_Delivery_value dX1_copyFrom_37 mw_191 (by assumption) (fun I37 hI37 => ?_)
  exact g_vret dX1_copyFrom_40 rfl (by decide) (by decide) ⟨rfl, rfl, rfl, rfl, rfl, by rw [hI37, hI29, hI21, hI13, hI5], rfl⟩
set_option maxHeartbeats 1000000 in
set_option maxRecDepth 100000 in
theorem k_O_temperature (Y : gEnv) {K N : Nat → Nat} {I : Nat → Nat → Int} {A : Nat → Int → Int} {R : Nat → Nat → Option Nat} {Q : Nat → Int → Option Nat} {q : Nat} (hK : K q = 7) (t : Int) : gC Y yX8_temperature cX8_temperature 2 (some .int) ({ frames := 0, cells := 0, slots := 0, locals := 0 } : Room) [.ref q, vi t] K N I A R Q (g_pu (some (vi (t + I 121 q + I 120 q))) K N I A R Q) gno := by
  refine gC_of (by decide) (Nat.le_of_ble_eq_true rfl) (fun X => ?_)
  refine g_iload_n dX8_temperature_0 rfl rfl ?_
  refine g_aload_n dX8_temperature_1 rfl rfl ?_
  refine g_get_Position_offset dX8_temperature_2 mw_114 (by assumption) ?_
  refine g_iadd dX8_temperature_5 ?_
  refine g_aload_n dX8_temperature_6 rfl rfl ?_
  refine g_get_Position_slope dX8_temperature_7 mw_113 (by assumption) ?_
  refine g_iadd dX8_temperature_10 ?_
  exact g_iret dX8_temperature_11 rfl (by decide) (by decide) (g_pu_i rfl _ _ _ _ _ _)
set_option maxHeartbeats 1000000 in
set_option maxRecDepth 100000 in
theorem k_O_breakSome (Y : gEnv) {K N : Nat → Nat} {I : Nat → Nat → Int} {A : Nat → Int → Int} {R : Nat → Nat → Option Nat} {Q : Nat → Int → Option Nat} {q : Nat} (hK : K q = 7) (t : Int) (ht : 0 ≤ t * I 122 q ∧ t * I 122 q ≤ 100000) : gC Y yX8_breakSome cX8_breakSome 3 (some .int) ({ frames := 0, cells := 0, slots := 0, locals := 0 } : Room) [.ref q, vi t] K N I A R Q (g_wr K N R Q (fun v I' A' => v = some (vi ((t * I 122 q).tdiv 100)) ∧ I' = g_up I 123 q (I 123 q + (t * I 122 q).tdiv 100) ∧ A' = A)) gno := by
  refine gC_of (by decide) (Nat.le_of_ble_eq_true rfl) (fun X => ?_)
  refine g_iload_n dX8_breakSome_0 rfl rfl ?_
  refine g_aload_n dX8_breakSome_1 rfl rfl ?_
  refine g_get_Position_breakage dX8_breakSome_2 mw_116 (by assumption) ?_
  refine g_imul dX8_breakSome_5 ?_
  refine g_bipush dX8_breakSome_6 (by decide) ?_
  refine g_idiv dX8_breakSome_8 (by omega) (by omega) (by omega) ?_
  refine g_istore_n dX8_breakSome_9 rfl (by decide) ?_
  refine g_aload_n dX8_breakSome_10 rfl rfl ?_
  refine g_dup dX8_breakSome_11 rfl ?_
  refine g_get_Position_broken dX8_breakSome_12 mw_118 (by assumption) ?_
  refine g_iload_n dX8_breakSome_15 rfl rfl ?_
  refine g_iadd dX8_breakSome_16 ?_
  refine g_put_Position_broken dX8_breakSome_17 mw_118 (by assumption) (fun I17 hI17 => ?_)
  refine g_iload_n dX8_breakSome_20 rfl rfl ?_
  exact g_iret dX8_breakSome_21 rfl (by decide) (by decide) ⟨rfl, rfl, rfl, rfl, rfl, hI17, rfl⟩
set_option maxHeartbeats 1000000 in
set_option maxRecDepth 100000 in
theorem k_P_isOf (Y : gEnv) {K N : Nat → Nat} {I : Nat → Nat → Int} {A : Nat → Int → Int} {R : Nat → Nat → Option Nat} {Q : Nat → Int → Option Nat} {q : Nat} (hK : K q = 6) (g s : Int) (hg : (-2147483648 ≤ g ∧ g ≤ 2147483647)) (hs : (-2147483648 ≤ s ∧ s ≤ 2147483647)) (h1 : (-2147483648 ≤ I 100 q ∧ I 100 q ≤ 2147483647)) (h2 : (-2147483648 ≤ I 101 q ∧ I 101 q ≤ 2147483647)) : gC Y yX7_isOf cX7_isOf 3 (some .boolean) ({ frames := 0, cells := 0, slots := 0, locals := 0 } : Room) [.ref q, vi g, vi s] K N I A R Q (g_pu (some (vi (if I 100 q = g ∧ I 101 q = s then 1 else 0))) K N I A R Q) gno := by
  refine gC_of (by decide) (Nat.le_of_ble_eq_true rfl) (fun X => ?_)
  refine g_aload_n dX7_isOf_0 rfl rfl ?_
  refine g_get_Pile_glaze dX7_isOf_1 mw_133 (by assumption) ?_
  refine g_iload_n dX7_isOf_4 rfl rfl ?_
  refine g_icmp_ne (tgt := 20) dX7_isOf_5 (by decide) (by omega) (by omega) (fun c_5 => ?_) (fun c_5 => ?_)
  · refine g_iconst dX7_isOf_20 ?_
    exact g_zret dX7_isOf_21 rfl (by omega) (by decide) (by decide) (g_pu_i (by first | rw [if_pos (by omega)] | rw [if_neg (by omega)]) _ _ _ _ _ _)
  · refine g_aload_n dX7_isOf_8 rfl rfl ?_
    refine g_get_Pile_shade dX7_isOf_9 mw_135 (by assumption) ?_
    refine g_iload_n dX7_isOf_12 rfl rfl ?_
    refine g_icmp_ne (tgt := 20) dX7_isOf_13 (by decide) (by omega) (by omega) (fun c_13 => ?_) (fun c_13 => ?_)
    · refine g_iconst dX7_isOf_20 ?_
      exact g_zret dX7_isOf_21 rfl (by omega) (by decide) (by decide) (g_pu_i (by first | rw [if_pos (by omega)] | rw [if_neg (by omega)]) _ _ _ _ _ _)
    · refine g_iconst dX7_isOf_16 ?_
      refine g_goto (tgt := 21) dX7_isOf_17 (by decide) ?_
      exact g_zret dX7_isOf_21 rfl (by omega) (by decide) (by decide) (g_pu_i (by first | rw [if_pos (by omega)] | rw [if_neg (by omega)]) _ _ _ _ _ _)
set_option maxHeartbeats 1000000 in
set_option maxRecDepth 100000 in
theorem k_L_isOf (Y : gEnv) {K N : Nat → Nat} {I : Nat → Nat → Int} {A : Nat → Int → Int} {R : Nat → Nat → Option Nat} {Q : Nat → Int → Option Nat} {q : Nat} (hK : K q = 5) (g s : Int) (hg : (-2147483648 ≤ g ∧ g ≤ 2147483647)) (hs : (-2147483648 ≤ s ∧ s ≤ 2147483647)) (h1 : (-2147483648 ≤ I 80 q ∧ I 80 q ≤ 2147483647)) (h2 : (-2147483648 ≤ I 82 q ∧ I 82 q ≤ 2147483647)) : gC Y yX6_isOf cX6_isOf 3 (some .boolean) ({ frames := 0, cells := 0, slots := 0, locals := 0 } : Room) [.ref q, vi g, vi s] K N I A R Q (g_pu (some (vi (if I 80 q = g ∧ I 82 q = s then 1 else 0))) K N I A R Q) gno := by
  refine gC_of (by decide) (Nat.le_of_ble_eq_true rfl) (fun X => ?_)
  refine g_aload_n dX6_isOf_0 rfl rfl ?_
  refine g_get_Lot_glaze dX6_isOf_1 mw_155 (by assumption) ?_
  refine g_iload_n dX6_isOf_4 rfl rfl ?_
  refine g_icmp_ne (tgt := 20) dX6_isOf_5 (by decide) (by omega) (by omega) (fun c_5 => ?_) (fun c_5 => ?_)
  · refine g_iconst dX6_isOf_20 ?_
    exact g_zret dX6_isOf_21 rfl (by omega) (by decide) (by decide) (g_pu_i (by first | rw [if_pos (by omega)] | rw [if_neg (by omega)]) _ _ _ _ _ _)
  · refine g_aload_n dX6_isOf_8 rfl rfl ?_
    refine g_get_Lot_grade dX6_isOf_9 mw_158 (by assumption) ?_
    refine g_iload_n dX6_isOf_12 rfl rfl ?_
    refine g_icmp_ne (tgt := 20) dX6_isOf_13 (by decide) (by omega) (by omega) (fun c_13 => ?_) (fun c_13 => ?_)
    · refine g_iconst dX6_isOf_20 ?_
      exact g_zret dX6_isOf_21 rfl (by omega) (by decide) (by decide) (g_pu_i (by first | rw [if_pos (by omega)] | rw [if_neg (by omega)]) _ _ _ _ _ _)
    · refine g_iconst dX6_isOf_16 ?_
      refine g_goto (tgt := 21) dX6_isOf_17 (by decide) ?_
      exact g_zret dX6_isOf_21 rfl (by omega) (by decide) (by decide) (g_pu_i (by first | rw [if_pos (by omega)] | rw [if_neg (by omega)]) _ _ _ _ _ _)
theorem sStays_fix {s h : Int} (h0 : (h * s + 99).tdiv 100 = 0) : ∀ n, sStays s n h = h
  | 0 => rfl
  | n + 1 => by rw [sStays, h0, Int.sub_zero, sStays_fix h0 n]
set_option maxHeartbeats 1000000 in
set_option maxRecDepth 100000 in
theorem lp_P_foundBy {Y : gEnv} {X : gCtx} {K N : Nat → Nat} {I : Nat → Nat → Int} {A : Nat → Int → Int} {R : Nat → Nat → Option Nat} {Q : Nat → Int → Option Nat} {q : Nat} (hK : K q = 6) (ps sh : Int) (hps : 0 ≤ ps ∧ ps ≤ 10) (hsh : 0 ≤ sh ∧ sh ≤ 100) (hh : 0 ≤ I 103 q ∧ I 103 q ≤ 10000000) : ∀ (f m : Nat) (i h : Int), m < f → 0 ≤ i → i + m = ps → 0 ≤ h ∧ h ≤ 10000000 → sStays sh m h = sStays sh ps.toNat (I 103 q) → gJ Y X yX7_foundBy cX7_foundBy 6 (some .int) ({ frames := 0, cells := 0, slots := 0, locals := 0 } : Room) (g_pu (some (vi (I 103 q - sStays sh ps.toNat (I 103 q)))) K N I A R Q) gno 0 0 8 [(0, .ref q), (1, vi ps), (2, vi sh), (3, vi h), (4, vi i)] [] K N I A R Q := by
  intro f
  induction f with
  | zero => intro m i h hz; omega
  | succ f ih =>
  intro m i h hf hi hm h0 he
  refine g_iload dX7_foundBy_8 rfl ?_
  refine g_iload_n dX7_foundBy_10 rfl rfl ?_
  refine g_icmp_ge (tgt := 44) dX7_foundBy_11 (by decide) (by omega) (by omega) (fun c_11 => ?_) (fun c_11 => ?_)
  · refine g_aload_n dX7_foundBy_44 rfl rfl ?_
    refine g_get_Pile_hidden dX7_foundBy_45 mw_139 (by assumption) ?_
    have hr := sStays_range hsh ps.toNat (I 103 q) hh.1
    refine g_iload_n dX7_foundBy_48 rfl rfl ?_
    refine g_isub dX7_foundBy_49 ?_
    exact g_iret dX7_foundBy_50 rfl (by decide) (by decide) (g_pu_i (by
      rw [← he]
      first
      | (rw [sStays_stop (by omega)]; done)
      | (rw [sStays_fix (by omega)]; done)) _ _ _ _ _ _)
  · refine g_iload_n dX7_foundBy_14 rfl rfl ?_
    refine g_iload_n dX7_foundBy_15 rfl rfl ?_
    have hb := Int.mul_nonneg h0.1 hsh.1
    have hb3 : h * sh ≤ h * 100 := Int.mul_le_mul_of_nonneg_left hsh.2 h0.1
    refine g_imul dX7_foundBy_16 ?_
    refine g_bipush dX7_foundBy_17 (by decide) ?_
    refine g_iadd dX7_foundBy_19 ?_
    refine g_bipush dX7_foundBy_20 (by decide) ?_
    refine g_idiv dX7_foundBy_22 (by omega) (by omega) (by omega) ?_
    have htd := td_pos (a := h * sh + 99) (b := 100) (by omega)
    refine g_istore dX7_foundBy_23 (by decide) ?_
    refine g_iload dX7_foundBy_25 rfl ?_
    refine g_if_ne (tgt := 33) dX7_foundBy_27 (by decide) (by omega) (fun c_27 => ?_) (fun c_27 => ?_)
    · refine g_iload_n dX7_foundBy_33 rfl rfl ?_
      refine g_iload dX7_foundBy_34 rfl ?_
      refine g_isub dX7_foundBy_36 ?_
      refine g_istore_n dX7_foundBy_37 rfl (by decide) ?_
      refine g_iinc dX7_foundBy_38 rfl (by decide) ?_
      refine g_goto (tgt := 8) dX7_foundBy_41 (by decide) ?_
      rw [sStays_step (by omega)] at he
      exact g_locs (by exact ⟨rfl, rfl, rfl, rfl, rfl, trivial⟩) (ih (m - 1) (i + 1) _ (by omega) (by omega) (by omega) (by omega) he)
    · refine g_goto (tgt := 44) dX7_foundBy_30 (by decide) ?_
      refine g_aload_n dX7_foundBy_44 rfl rfl ?_
      refine g_get_Pile_hidden dX7_foundBy_45 mw_139 (by assumption) ?_
      have hr := sStays_range hsh ps.toNat (I 103 q) hh.1
      refine g_iload_n dX7_foundBy_48 rfl rfl ?_
      refine g_isub dX7_foundBy_49 ?_
      exact g_iret dX7_foundBy_50 rfl (by decide) (by decide) (g_pu_i (by
      rw [← he]
      first
      | (rw [sStays_stop (by omega)]; done)
      | (rw [sStays_fix (by omega)]; done)) _ _ _ _ _ _)
set_option maxHeartbeats 1000000 in
set_option maxRecDepth 100000 in
theorem k_P_foundBy (Y : gEnv) {K N : Nat → Nat} {I : Nat → Nat → Int} {A : Nat → Int → Int} {R : Nat → Nat → Option Nat} {Q : Nat → Int → Option Nat} {q : Nat} (hK : K q = 6) (ps sh : Int) (hps : 0 ≤ ps ∧ ps ≤ 10) (hsh : 0 ≤ sh ∧ sh ≤ 100) (hh : 0 ≤ I 103 q ∧ I 103 q ≤ 10000000) : gC Y yX7_foundBy cX7_foundBy 6 (some .int) ({ frames := 0, cells := 0, slots := 0, locals := 0 } : Room) [.ref q, vi ps, vi sh] K N I A R Q (g_pu (some (vi (I 103 q - sStays sh ps.toNat (I 103 q)))) K N I A R Q) gno := by
  refine gC_of (by decide) (Nat.le_of_ble_eq_true rfl) (fun X => ?_)
  refine g_aload_n dX7_foundBy_0 rfl rfl ?_
  refine g_get_Pile_hidden dX7_foundBy_1 mw_139 (by assumption) ?_
  refine g_istore_n dX7_foundBy_4 rfl (by decide) ?_
  refine g_iconst dX7_foundBy_5 ?_
  refine g_istore dX7_foundBy_6 (by decide) ?_
  exact g_locs (by exact ⟨rfl, rfl, rfl, rfl, rfl, trivial⟩) (lp_P_foundBy hK ps sh hps hsh hh _ ps.toNat 0 _ (Nat.lt_succ_self _) (by omega) (by omega) hh rfl)
set_option maxHeartbeats 1000000 in
set_option maxRecDepth 100000 in
theorem k_P_begin (Y : gEnv) {K N : Nat → Nat} {I : Nat → Nat → Int} {A : Nat → Int → Int} {R : Nat → Nat → Option Nat} {Q : Nat → Int → Option Nat} {q : Nat} (hK : K q = 6) (g : Int) (s : Int) : gC Y yX7_begin cX7_begin 3 none ({ frames := 0, cells := 0, slots := 0, locals := 0 } : Room) [.ref q, vi g, vi s] K N I A R Q (g_wr K N R Q (fun v I' A' => v = none ∧ I' = (g_up (g_up (g_up (g_up I 100 q g) 101 q s) 102 q 0) 103 q 0) ∧ A' = A)) gno := by
  refine gC_of (by decide) (Nat.le_of_ble_eq_true rfl) (fun X => ?_)
  refine g_aload_n dX7_begin_0 rfl rfl ?_
  refine g_iload_n dX7_begin_1 rfl rfl ?_
  refine g_put_Pile_glaze dX7_begin_2 mw_133 (by assumption) (fun I2 hI2 => ?_)
  refine g_aload_n dX7_begin_5 rfl rfl ?_
  refine g_iload_n dX7_begin_6 rfl rfl ?_
  refine g_put_Pile_shade dX7_begin_7 mw_135 (by assumption) (fun I7 hI7 => ?_)
  refine g_aload_n dX7_begin_10 rfl rfl ?_
  refine g_iconst dX7_begin_11 ?_
  refine g_put_Pile_tiles dX7_begin_12 mw_137 (by assumption) (fun I12 hI12 => ?_)
  refine g_aload_n dX7_begin_15 rfl rfl ?_
  refine g_iconst dX7_begin_16 ?_
  refine g_put_Pile_hidden dX7_begin_17 mw_139 (by assumption) (fun I17 hI17 => ?_)
  exact g_vret dX7_begin_20 rfl (by decide) (by decide) ⟨rfl, rfl, rfl, rfl, rfl, by rw [hI17, hI12, hI7, hI2], rfl⟩
set_option maxHeartbeats 1000000 in
set_option maxRecDepth 100000 in
theorem k_L_begin (Y : gEnv) {K N : Nat → Nat} {I : Nat → Nat → Int} {A : Nat → Int → Int} {R : Nat → Nat → Option Nat} {Q : Nat → Int → Option Nat} {q : Nat} (hK : K q = 5) (g : Int) (s : Int) (r : Int) : gC Y yX6_begin cX6_begin 4 none ({ frames := 0, cells := 0, slots := 0, locals := 0 } : Room) [.ref q, vi g, vi s, vi r] K N I A R Q (g_wr K N R Q (fun v I' A' => v = none ∧ I' = (g_up (g_up (g_up (g_up (g_up (g_up I 80 q g) 81 q s) 82 q r) 83 q 0) 84 q 0) 85 q 0) ∧ A' = A)) gno := by
  refine gC_of (by decide) (Nat.le_of_ble_eq_true rfl) (fun X => ?_)
  refine g_aload_n dX6_begin_0 rfl rfl ?_
  refine g_iload_n dX6_begin_1 rfl rfl ?_
  refine g_put_Lot_glaze dX6_begin_2 mw_155 (by assumption) (fun I2 hI2 => ?_)
  refine g_aload_n dX6_begin_5 rfl rfl ?_
  refine g_iload_n dX6_begin_6 rfl rfl ?_
  refine g_put_Lot_shade dX6_begin_7 mw_156 (by assumption) (fun I7 hI7 => ?_)
  refine g_aload_n dX6_begin_10 rfl rfl ?_
  refine g_iload_n dX6_begin_11 rfl rfl ?_
  refine g_put_Lot_grade dX6_begin_12 mw_158 (by assumption) (fun I12 hI12 => ?_)
  refine g_aload_n dX6_begin_15 rfl rfl ?_
  refine g_iconst dX6_begin_16 ?_
  refine g_put_Lot_loose dX6_begin_17 mw_159 (by assumption) (fun I17 hI17 => ?_)
  refine g_aload_n dX6_begin_20 rfl rfl ?_
  refine g_iconst dX6_begin_21 ?_
  refine g_put_Lot_boxes dX6_begin_22 mw_161 (by assumption) (fun I22 hI22 => ?_)
  refine g_aload_n dX6_begin_25 rfl rfl ?_
  refine g_iconst dX6_begin_26 ?_
  refine g_put_Lot_hidden dX6_begin_27 mw_163 (by assumption) (fun I27 hI27 => ?_)
  exact g_vret dX6_begin_30 rfl (by decide) (by decide) ⟨rfl, rfl, rfl, rfl, rfl, by rw [hI27, hI22, hI17, hI12, hI7, hI2], rfl⟩
set_option maxHeartbeats 1000000 in
set_option maxRecDepth 100000 in
theorem k_L_content (Y : gEnv) {K N : Nat → Nat} {I : Nat → Nat → Int} {A : Nat → Int → Int} {R : Nat → Nat → Option Nat} {Q : Nat → Int → Option Nat} {q : Nat} (hK : K q = 5) (b : Int) : gC Y yX6_content cX6_content 2 (some .int) ({ frames := 0, cells := 0, slots := 0, locals := 0 } : Room) [.ref q, vi b] K N I A R Q (g_pu (some (vi (I 83 q + I 84 q * b))) K N I A R Q) gno := by
  refine gC_of (by decide) (Nat.le_of_ble_eq_true rfl) (fun X => ?_)
  refine g_aload_n dX6_content_0 rfl rfl ?_
  refine g_get_Lot_loose dX6_content_1 mw_159 (by assumption) ?_
  refine g_aload_n dX6_content_4 rfl rfl ?_
  refine g_get_Lot_boxes dX6_content_5 mw_161 (by assumption) ?_
  refine g_iload_n dX6_content_8 rfl rfl ?_
  refine g_imul dX6_content_9 ?_
  refine g_iadd dX6_content_10 ?_
  exact g_iret dX6_content_11 rfl (by decide) (by decide) (g_pu_i rfl _ _ _ _ _ _)
set_option maxHeartbeats 1000000 in
set_option maxRecDepth 100000 in
theorem k_L_limit (Y : gEnv) {K N : Nat → Nat} {I : Nat → Nat → Int} {A : Nat → Int → Int} {R : Nat → Nat → Option Nat} {Q : Nat → Int → Option Nat} {q : Nat} (hK : K q = 5) (b : Int) (h1 : (-2147483648 ≤ (I 83 q + I 84 q * b) ∧ (I 83 q + I 84 q * b) ≤ 2147483647)) (h2 : (-2147483648 ≤ I 85 q ∧ I 85 q ≤ 2147483647)) : gC Y yX6_limitHidden cX6_limitHidden 2 none ({ frames := 1, cells := 0, slots := 0, locals := 21 } : Room) [.ref q, vi b] K N I A R Q (g_wr K N R Q (fun v I' A' => v = none ∧ I' = g_up I 85 q (sMin (I 85 q) (I 83 q + I 84 q * b)) ∧ A' = A)) gno := by
  refine gC_of (by decide) (Nat.le_of_ble_eq_true rfl) (fun X => ?_)
  refine g_aload_n dX6_limitHidden_0 rfl rfl ?_
  refine g_aload_n dX6_limitHidden_1 rfl rfl ?_
  refine g_get_Lot_hidden dX6_limitHidden_2 mw_163 (by assumption) ?_
  refine g_aload_n dX6_limitHidden_5 rfl rfl ?_
  refine g_iload_n dX6_limitHidden_6 rfl rfl ?_
  refine g_callVp (i := 4) rfl (gK0 (by assumption)) (g_at4 (by assumption)) (k_L_content Y (by assumption) _) u_X6_content mw_699 dX6_limitHidden_7 rfl rfl ⟨Nat.le_of_ble_eq_true rfl, Nat.le_of_ble_eq_true rfl⟩ ⟨Nat.le_of_ble_eq_true rfl, Nat.le_of_ble_eq_true rfl⟩ (Nat.le_of_ble_eq_true rfl) ?_
  refine g_callSOp (k_J_min Y _ _ (by omega) (by omega)) u_J9_min mw_707 dX6_limitHidden_10 rfl rfl ⟨Nat.le_of_ble_eq_true rfl, Nat.le_of_ble_eq_true rfl⟩ ⟨Nat.le_of_ble_eq_true rfl, Nat.le_of_ble_eq_true rfl⟩ (Nat.le_of_ble_eq_true rfl) ?_
  refine g_put_Lot_hidden dX6_limitHidden_13 mw_163 (by assumption) (fun I13 hI13 => ?_)
  exact g_vret dX6_limitHidden_16 rfl (by decide) (by decide) ⟨rfl, rfl, rfl, rfl, rfl, hI13, rfl⟩
set_option maxHeartbeats 1000000 in
set_option maxRecDepth 100000 in
theorem k_L_fill (Y : gEnv) {K N : Nat → Nat} {I : Nat → Nat → Int} {A : Nat → Int → Int} {R : Nat → Nat → Option Nat} {Q : Nat → Int → Option Nat} {q : Nat} (hK : K q = 5) (b : Int) (hb : 1 ≤ b ∧ b ≤ 50) (h1 : 0 ≤ I 83 q ∧ I 83 q ≤ 10000000) : gC Y yX6_fillBoxes cX6_fillBoxes 3 (some .int) ({ frames := 0, cells := 0, slots := 0, locals := 0 } : Room) [.ref q, vi b] K N I A R Q (g_wr K N R Q (fun v I' A' => v = some (vi ((I 83 q).tdiv b)) ∧ I' = g_up (g_up I 84 q (I 84 q + (I 83 q).tdiv b)) 83 q (I 83 q - (I 83 q).tdiv b * b) ∧ A' = A)) gno := by
  refine gC_of (by decide) (Nat.le_of_ble_eq_true rfl) (fun X => ?_)
  refine g_iload_n dX6_fillBoxes_0 rfl rfl ?_
  refine g_iconst dX6_fillBoxes_1 ?_
  refine g_icmp_ge (tgt := 7) dX6_fillBoxes_2 (by decide) (by omega) (by omega) (fun c_2 => ?_) (fun c_2 => ?_)
  · refine g_aload_n dX6_fillBoxes_7 rfl rfl ?_
    refine g_get_Lot_loose dX6_fillBoxes_8 mw_159 (by assumption) ?_
    refine g_iload_n dX6_fillBoxes_11 rfl rfl ?_
    refine g_idiv dX6_fillBoxes_12 (by omega) (by omega) (by omega) ?_
    refine g_istore_n dX6_fillBoxes_13 rfl (by decide) ?_
    refine g_aload_n dX6_fillBoxes_14 rfl rfl ?_
    refine g_dup dX6_fillBoxes_15 rfl ?_
    refine g_get_Lot_boxes dX6_fillBoxes_16 mw_161 (by assumption) ?_
    refine g_iload_n dX6_fillBoxes_19 rfl rfl ?_
    refine g_iadd dX6_fillBoxes_20 ?_
    refine g_put_Lot_boxes dX6_fillBoxes_21 mw_161 (by assumption) (fun I21 hI21 => ?_)
    refine g_aload_n dX6_fillBoxes_24 rfl rfl ?_
    refine g_dup dX6_fillBoxes_25 rfl ?_
    refine g_get_Lot_loose dX6_fillBoxes_26 mw_159 (by assumption) ?_
    rw [show I21 83 q = I 83 q by rw [hI21, g_up_ne1 _ _ (by omega)]]
    refine g_iload_n dX6_fillBoxes_29 rfl rfl ?_
    refine g_iload_n dX6_fillBoxes_30 rfl rfl ?_
    refine g_imul dX6_fillBoxes_31 ?_
    refine g_isub dX6_fillBoxes_32 ?_
    refine g_put_Lot_loose dX6_fillBoxes_33 mw_159 (by assumption) (fun I33 hI33 => ?_)
    refine g_iload_n dX6_fillBoxes_36 rfl rfl ?_
    exact g_iret dX6_fillBoxes_37 rfl (by decide) (by decide) ⟨rfl, rfl, rfl, rfl, rfl, by rw [hI33, hI21], rfl⟩
  · exfalso; omega
set_option maxHeartbeats 1000000 in
set_option maxRecDepth 100000 in
theorem k_L_give (Y : gEnv) {K N : Nat → Nat} {I : Nat → Nat → Int} {A : Nat → Int → Int} {R : Nat → Nat → Option Nat} {Q : Nat → Int → Option Nat} {q : Nat} (hK : K q = 5) (c b : Int) (hc : 1 ≤ c ∧ c ≤ 100000) (hb : 1 ≤ b ∧ b ≤ 50) (h1 : 1 ≤ I 83 q + I 84 q * b ∧ I 83 q + I 84 q * b ≤ 10000000) (h2 : 0 ≤ I 85 q * (c * b) ∧ I 85 q * (c * b) ≤ 1000000000000000) (h3 : 0 ≤ (I 85 q * (c * b)).tdiv (I 83 q + I 84 q * b) ∧ (I 85 q * (c * b)).tdiv (I 83 q + I 84 q * b) ≤ I 85 q) (h4 : I 85 q ≤ 10000000) (h5 : 0 ≤ I 83 q + (I 84 q - c) * b ∧ I 83 q + (I 84 q - c) * b ≤ 10000000) : gC Y yX6_giveBoxes cX6_giveBoxes 7 (some .int) ({ frames := 2, cells := 0, slots := 0, locals := 42 } : Room) [.ref q, vi c, vi b] K N I A R Q (g_wr K N R Q (fun v I' A' => v = some (vi ((I 85 q * (c * b)).tdiv (I 83 q + I 84 q * b))) ∧ I' = g_up (g_up I 84 q (I 84 q - c)) 85 q (sMin (I 85 q - (I 85 q * (c * b)).tdiv (I 83 q + I 84 q * b)) (I 83 q + (I 84 q - c) * b)) ∧ A' = A)) gno := by
  refine gC_of (by decide) (Nat.le_of_ble_eq_true rfl) (fun X => ?_)
  refine g_aload_n dX6_giveBoxes_0 rfl rfl ?_
  refine g_iload_n dX6_giveBoxes_1 rfl rfl ?_
  refine g_callVp (i := 4) rfl (gK0 (by assumption)) (g_at4 (by assumption)) (k_L_content Y (by assumption) _) u_X6_content mw_699 dX6_giveBoxes_2 rfl rfl ⟨Nat.le_of_ble_eq_true rfl, Nat.le_of_ble_eq_true rfl⟩ ⟨Nat.le_of_ble_eq_true rfl, Nat.le_of_ble_eq_true rfl⟩ (Nat.le_of_ble_eq_true rfl) ?_
  refine g_istore_n dX6_giveBoxes_5 rfl (by decide) ?_
  refine g_iload_n dX6_giveBoxes_6 rfl rfl ?_
  refine g_i2l dX6_giveBoxes_7 (by omega) ?_
  refine g_iload_n dX6_giveBoxes_8 rfl rfl ?_
  refine g_i2l dX6_giveBoxes_9 (by omega) ?_
  refine g_lmul dX6_giveBoxes_10 ?_
  refine g_lstore dX6_giveBoxes_11 (by decide) ?_
  refine g_iload_n dX6_giveBoxes_13 rfl rfl ?_
  refine g_iconst dX6_giveBoxes_14 ?_
  refine g_icmp_ge (tgt := 22) dX6_giveBoxes_15 (by decide) (by omega) (by omega) (fun c_15 => ?_) (fun c_15 => ?_)
  · refine g_aload_n dX6_giveBoxes_22 rfl rfl ?_
    refine g_get_Lot_hidden dX6_giveBoxes_23 mw_163 (by assumption) ?_
    refine g_i2l dX6_giveBoxes_26 (by omega) ?_
    refine g_lload dX6_giveBoxes_27 rfl ?_
    refine g_lmul dX6_giveBoxes_29 ?_
    refine g_iload_n dX6_giveBoxes_30 rfl rfl ?_
    refine g_i2l dX6_giveBoxes_31 (by omega) ?_
    refine g_ldiv dX6_giveBoxes_32 (by omega) (by omega) (by omega) ?_
    refine g_l2i dX6_giveBoxes_33 ?_
    generalize hbd : (I 85 q * (c * b)).tdiv (I 83 q + I 84 q * b) = bad at h3 ⊢
    refine g_istore dX6_giveBoxes_34 (by decide) ?_
    refine g_aload_n dX6_giveBoxes_36 rfl rfl ?_
    refine g_dup dX6_giveBoxes_37 rfl ?_
    refine g_get_Lot_boxes dX6_giveBoxes_38 mw_161 (by assumption) ?_
    refine g_iload_n dX6_giveBoxes_41 rfl rfl ?_
    refine g_isub dX6_giveBoxes_42 ?_
    refine g_put_Lot_boxes dX6_giveBoxes_43 mw_161 (by assumption) (fun I43 hI43 => ?_)
    refine g_aload_n dX6_giveBoxes_46 rfl rfl ?_
    refine g_dup dX6_giveBoxes_47 rfl ?_
    refine g_get_Lot_hidden dX6_giveBoxes_48 mw_163 (by assumption) ?_
    rw [show I43 85 q = I 85 q by rw [hI43, g_up_ne1 _ _ (by omega)]]
    refine g_iload dX6_giveBoxes_51 rfl ?_
    refine g_isub dX6_giveBoxes_53 ?_
    refine g_put_Lot_hidden dX6_giveBoxes_54 mw_163 (by assumption) (fun I54 hI54 => ?_)
    have e85 : I54 85 q = I 85 q - bad := by rw [hI54, g_up_eq]
    have e83 : I54 83 q = I 83 q := by rw [hI54, g_up_ne1 _ _ (by omega), hI43, g_up_ne1 _ _ (by omega)]
    have e84 : I54 84 q = I 84 q - c := by rw [hI54, g_up_ne1 _ _ (by omega), hI43, g_up_eq]
    refine g_aload_n dX6_giveBoxes_57 rfl rfl ?_
    refine g_iload_n dX6_giveBoxes_58 rfl rfl ?_
    refine g_callVw (i := 4) rfl (gK0 (by assumption)) (g_at4 (by assumption)) (k_L_limit Y hK b (by rw [e83, e84]; omega) (by rw [e85]; omega)) u_X6_limitHidden mw_703 dX6_giveBoxes_59 rfl rfl ⟨Nat.le_of_ble_eq_true rfl, Nat.le_of_ble_eq_true rfl⟩ ⟨Nat.le_of_ble_eq_true rfl, Nat.le_of_ble_eq_true rfl⟩ (Nat.le_of_ble_eq_true rfl) (fun v59 I59 A59 h59 => ?_)
    obtain ⟨rfl, i59, rfl⟩ := h59
    rw [e85, e83, e84] at i59
    refine g_iload dX6_giveBoxes_62 rfl ?_
    exact g_iret dX6_giveBoxes_64 rfl (by decide) (by decide) ⟨rfl, rfl, rfl, rfl, rfl, by rw [i59, hI54, hI43, g_up_up], rfl⟩
  · exfalso; omega
