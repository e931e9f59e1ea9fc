set_option maxHeartbeats 1000000 in
set_option maxRecDepth 100000 in
theorem k_S_breakO (Y : gEnv) {K N : Nat → Nat} {I : Nat → Nat → Int} {A : Nat → Int → Int} {R : Nat → Nat → Option Nat} {Q : Nat → Int → Option Nat} {s : Nat} {G : Nat → Nat × Int} {W : Int → Int} (hsh : cSh K N R Q G s) (hag : ag (cV I R Q s) W) {ev kq nq : Nat} (hev : cEv K N R G s ev kq nq) (hE : cE I A ev kq nq W) (hiE : iE W) (t : Int) (ht : 0 ≤ t ∧ t ≤ 2147483647) : gC Y yX10_breakOtherwise cX10_breakOtherwise 2 none ({ frames := 2, cells := 0, slots := 0, locals := 142 } : Room) [.ref s, vi t] K N I A R Q (g_wr K N R Q (fun v I' A' => v = none ∧ cPe R Q G s ev kq nq I I' A A' (sBrk W t))) gno := by
  refine gC_of (by decide) (Nat.le_of_ble_eq_true rfl) (fun X => ?_)
  obtain ⟨hKs, hGs, ⟨zg1, zg2, zg3, zg4, zg5⟩, ⟨zq1, zq2, zq3, zq4, zq5⟩, ⟨zp1, zp2, zp3, zp4, zp5⟩, ⟨zl1, zl2, zl3, zl4, zl5⟩, ⟨zd1, zd2, zd3, zd4, zd5⟩⟩ := id hsh
  have c88 : I 166 s = W 88 := ar_166 hag
  have c89 : I 167 s = W 89 := ar_167 hag
  have c10 : I 171 s = W 1610 := ar_171 hag
  have c11 : I 172 s = W 1611 := ar_172 hag
  have c12 : I 173 s = W 1612 := ar_173 hag
  have c13 : I 168 s = W 1613 := ar_168 hag
  have c14 : I 169 s = W 1614 := ar_169 hag
  have c15 : I 170 s = W 1615 := ar_170 hag
  obtain ⟨ev1, ev2, ev3, ev4, ev5, ev6, ev7, ev8, ev9, ev10, ev11, ev12⟩ := id hev
  have evG : (G ev).1 = s ∧ (G kq).1 = s ∧ (G nq).1 = s := ⟨by rw [ev10], by rw [ev11], by rw [ev12]⟩
  refine g_iload_n dX10_breakOtherwise_0 rfl rfl ?_
  refine g_if_le (tgt := 23) dX10_breakOtherwise_1 (by decide) (by omega) (fun c_1 => ?_) (fun c_1 => ?_)
  · first
    | (refine g_vret dX10_breakOtherwise_23 rfl (by decide) (by decide) ⟨rfl, rfl, rfl, rfl, rfl, ?_⟩
       rw [sBrk, if_pos (by omega)]
       exact o11.ev hi11 evG h20b.1 h20b.2.1 h20b.2.2)
    | (refine g_vret dX10_breakOtherwise_23 rfl (by decide) (by decide) ⟨rfl, rfl, rfl, rfl, rfl, ?_⟩
       obtain rfl : t = 0 := by omega
       rw [sBrk, if_neg (by omega), Int.add_zero, sU_id]
       exact ⟨cFr.rfl, hag, hE⟩)
  · refine g_aload_n dX10_breakOtherwise_4 rfl rfl ?_
    refine g_dup dX10_breakOtherwise_5 rfl ?_
    refine g_get_State_broken dX10_breakOtherwise_6 mw_224 (by assumption) ?_
    rw [c12]
    refine g_iload_n dX10_breakOtherwise_9 rfl rfl ?_
    refine g_iadd dX10_breakOtherwise_10 ?_
    refine g_put_State_broken dX10_breakOtherwise_11 mw_224 (by assumption) (fun I11 hI11 => ?_)
    have v11 := cu_173 hsh hI11
    have g11 : ag (cV I11 R Q s) (sU W 1612 (W 1612 + t)) := by rw [v11]; exact hag.put (by omega)
    have o11 : cPo R Q G s I I11 A A _ := cPo.up hI11 (by rw [hGs]) (by decide) (by decide) g11
    have hi11 : iE (sU W 1612 (W 1612 + t)) := by simp only [iE]; rw [sU_ne _ _ (by omega)]; exact hiE
    have hE11 : cE I11 A ev kq nq (sU W 1612 (W 1612 + t)) := hE.of hiE.2 (o11.2.1 ev) (fun j a b => sU_ne _ _ (by omega))
    refine g_aload_n dX10_breakOtherwise_14 rfl rfl ?_
    refine g_get_State_events dX10_breakOtherwise_15 mw_213 (by assumption) (by assumption) ?_
    refine g_iconst dX10_breakOtherwise_18 ?_
    refine g_iload_n dX10_breakOtherwise_19 rfl rfl ?_
    refine g_callVw (i := 1) rfl (gK0 (by assumption)) (g_at1 (by assumption)) (k_E_add Y ev2 ev3 ev4 ev5 ev6 ev7 ev8 ev9 hE11 hi11 4 t) u_X2_add mw_610 dX10_breakOtherwise_20 rfl rfl ⟨Nat.le_of_ble_eq_true rfl, Nat.le_of_ble_eq_true rfl⟩ ⟨Nat.le_of_ble_eq_true rfl, Nat.le_of_ble_eq_true rfl⟩ (Nat.le_of_ble_eq_true rfl) (fun v20 I20 A20 h20 => ?_)
    obtain ⟨rfl, h20b⟩ := h20
    first
    | (refine g_vret dX10_breakOtherwise_23 rfl (by decide) (by decide) ⟨rfl, rfl, rfl, rfl, rfl, ?_⟩
       rw [sBrk, if_pos (by omega)]
       exact o11.ev hi11 evG h20b.1 h20b.2.1 h20b.2.2)
    | (refine g_vret dX10_breakOtherwise_23 rfl (by decide) (by decide) ⟨rfl, rfl, rfl, rfl, rfl, ?_⟩
       obtain rfl : t = 0 := by omega
       rw [sBrk, if_neg (by omega), Int.add_zero, sU_id]
       exact ⟨cFr.rfl, hag, hE⟩)
set_option maxHeartbeats 1000000 in
set_option maxRecDepth 100000 in
theorem lp_S_makeFiring {Y : gEnv} {X : gCtx} {K N : Nat → Nat} {I : Nat → Nat → Int} {A : Nat → Int → Int} {R : Nat → Nat → Option Nat} {Q : Nat → Int → Option Nat} {I0 : Nat → Nat → Int} {s : Nat} {G : Nat → Nat × Int} {W : Int → Int} (hsh : cSh K N R Q G s) {ev kq nq : Nat} (hev : cEv K N R G s ev kq nq) (hE : cE I0 A ev kq nq W) (hsl : cSl I0 R Q s) (h0 : iN W) (k g pk t : Int) (hk : 0 ≤ k ∧ k ≤ 2) (hg : 0 ≤ g ∧ g ≤ 3) (hpk : 800 ≤ pk ∧ pk ≤ 1200) (ht : 1 ≤ t ∧ t ≤ 100) (hfi : W 1610 < 2000) : ∀ (f m : Nat) (p z : Int) (V : Int → Int), m < f → fI W k t p V → cPo R Q G s I0 I A A V → 0 ≤ p → p + m = 8 → (0 ≤ z ∧ z ≤ t * p) → gJ Y X yX10_makeFiring cX10_makeFiring 11 (some .int) ({ frames := 3, cells := 0, slots := 0, locals := 142 } : Room) (g_wr K N R Q (fun v I' A' => v = some (vi (z + sFireV W k t m p)) ∧ cPe R Q G s ev kq nq I0 I' A A' (sFireZ (sFireL k g pk t m p V) t (z + sFireV W k t m p)))) gno 0 0 30 [(0, .ref s), (1, vi k), (2, vi g), (3, vi pk), (4, vi t), (5, .ref (aRow R Q s 160 g)), (6, vi z), (7, vi p)] [] K N I A R Q := by
  obtain ⟨hKs, hGs, ⟨zg1, zg2, zg3, zg4, zg5⟩, ⟨zq1, zq2, zq3, zq4, zq5⟩, ⟨zp1, zp2, zp3, zp4, zp5⟩, ⟨zl1, zl2, zl3, zl4, zl5⟩, ⟨zd1, zd2, zd3, zd4, zd5⟩⟩ := id hsh
  obtain ⟨ev1, ev2, ev3, ev4, ev5, ev6, ev7, ev8, ev9, ev10, ev11, ev12⟩ := id hev
  have evG : (G ev).1 = s ∧ (G kq).1 = s ∧ (G nq).1 = s := ⟨by rw [ev10], by rw [ev11], by rw [ev12]⟩
  obtain ⟨zga, zgb, zgc⟩ := zg5 g (by omega) (by omega)

  intro f
  induction f generalizing I with
  | zero => intro m p z V h; omega
  | succ f ih =>
  intro m p z V hf hI hpo hp hpm hz
  have hag := hpo.2.2.2
  refine g_iload dX10_makeFiring_30 rfl ?_
  refine g_bipush dX10_makeFiring_32 (by decide) ?_
  refine g_icmp_ge (tgt := 109) dX10_makeFiring_34 (by decide) (by omega) (by omega) (fun c_34 => ?_) (fun c_34 => ?_)
  · obtain rfl : p = 8 := by omega
    obtain rfl : m = 0 := by omega
    rw [sFireV, sSum_stop rfl, Int.add_zero, sFireL_stop rfl]
    refine g_aload_n dX10_makeFiring_109 rfl rfl ?_
    refine g_dup dX10_makeFiring_110 rfl ?_
    refine g_get_State_firings dX10_makeFiring_111 mw_222 (by assumption) ?_
    rw [ar_171 hag]
    refine g_iconst dX10_makeFiring_114 ?_
    refine g_iadd dX10_makeFiring_115 ?_
    refine g_put_State_firings dX10_makeFiring_116 mw_222 (by assumption) (fun I116 hI116 => ?_)
    have v116 := cu_171 hsh hI116
    have g116 : ag (cV I116 R Q s) (sU V 1610 (V 1610 + 1)) := by rw [v116]; exact hag.put (by omega)
    have o116 : cPo R Q G s I I116 A A _ := cPo.up hI116 (by rw [hGs]) (by decide) (by decide) g116
    refine g_aload_n dX10_makeFiring_119 rfl rfl ?_
    refine g_dup dX10_makeFiring_120 rfl ?_
    refine g_get_State_fired dX10_makeFiring_121 mw_223 (by assumption) ?_
    rw [ar_172 g116]
    refine g_iload dX10_makeFiring_124 rfl ?_
    refine g_bipush dX10_makeFiring_126 (by decide) ?_
    refine g_imul dX10_makeFiring_128 ?_
    refine g_iadd dX10_makeFiring_129 ?_
    refine g_put_State_fired dX10_makeFiring_130 mw_223 (by assumption) (fun I130 hI130 => ?_)
    rw [Int.mul_comm t 8] at hI130
    have v130 := cu_172 hsh hI130
    have g130 : ag (cV I130 R Q s) (sU (sU V 1610 (V 1610 + 1)) 1611 ((sU V 1610 (V 1610 + 1)) 1611 + 8 * t)) := by rw [v130]; exact g116.put (by omega)
    have o130 : cPo R Q G s I116 I130 A A _ := cPo.up hI130 (by rw [hGs]) (by decide) (by decide) g130
    refine g_aload_n dX10_makeFiring_133 rfl rfl ?_
    refine g_dup dX10_makeFiring_134 rfl ?_
    refine g_get_State_broken dX10_makeFiring_135 mw_224 (by assumption) ?_
    rw [ar_173 g130]
    refine g_iload dX10_makeFiring_138 rfl ?_
    refine g_iadd dX10_makeFiring_140 ?_
    refine g_put_State_broken dX10_makeFiring_141 mw_224 (by assumption) (fun I141 hI141 => ?_)
    have v141 := cu_173 hsh hI141
    have g141 : ag (cV I141 R Q s) (sU (sU (sU V 1610 (V 1610 + 1)) 1611 ((sU V 1610 (V 1610 + 1)) 1611 + 8 * t)) 1612 ((sU (sU V 1610 (V 1610 + 1)) 1611 ((sU V 1610 (V 1610 + 1)) 1611 + 8 * t)) 1612 + z)) := by rw [v141]; exact g130.put (by omega)
    have o141 : cPo R Q G s I130 I141 A A _ := cPo.up hI141 (by rw [hGs]) (by decide) (by decide) g141
    have oall := ((hpo.trans o116).trans o130).trans o141
    have hV16 : ∀ j, 1570 ≤ j → j < 1610 ∨ j = 1616 → sU (sU (sU V 1610 (V 1610 + 1)) 1611 ((sU V 1610 (V 1610 + 1)) 1611 + 8 * t)) 1612 ((sU (sU V 1610 (V 1610 + 1)) 1611 ((sU V 1610 (V 1610 + 1)) 1611 + 8 * t)) 1612 + z) j = W j := fun j a b => by rw [sU_ne _ _ (by omega), sU_ne _ _ (by omega), sU_ne _ _ (by omega), hI.2.1 j (by omega) (by omega)]
    have hiE := h0.2.2.2.2.2.2.2
    have hE141 := hE.of hiE.2 (oall.2.1 ev) hV16
    have hi141 : iE (sU (sU (sU V 1610 (V 1610 + 1)) 1611 ((sU V 1610 (V 1610 + 1)) 1611 + 8 * t)) 1612 ((sU (sU V 1610 (V 1610 + 1)) 1611 ((sU V 1610 (V 1610 + 1)) 1611 + 8 * t)) 1612 + z)) := by simp only [iE]; rw [hV16 1616 (by omega) (by omega)]; exact hiE
    refine g_aload_n dX10_makeFiring_144 rfl rfl ?_
    refine g_get_State_events dX10_makeFiring_145 mw_213 (by assumption) (by assumption) ?_
    refine g_iconst dX10_makeFiring_148 ?_
    refine g_iload dX10_makeFiring_149 rfl ?_
    refine g_callVw (i := 1) rfl (gK0 (by assumption)) (g_at1 (by assumption)) (k_E_add Y ev2 ev3 ev4 ev5 ev6 ev7 ev8 ev9 hE141 hi141 1 z) u_X2_add mw_610 dX10_makeFiring_151 rfl rfl ⟨Nat.le_of_ble_eq_true rfl, Nat.le_of_ble_eq_true rfl⟩ ⟨Nat.le_of_ble_eq_true rfl, Nat.le_of_ble_eq_true rfl⟩ (Nat.le_of_ble_eq_true rfl) (fun v151 I151 A151 h151 => ?_)
    obtain ⟨rfl, h151b⟩ := h151
    refine g_iload dX10_makeFiring_154 rfl ?_
    exact g_iret dX10_makeFiring_156 rfl (by decide) (by decide) ⟨rfl, rfl, rfl, rfl, rfl, oall.ev hi141 evG h151b.1 h151b.2.1 h151b.2.2⟩
  · have hp8 : p < 8 := by omega
    obtain ⟨hG, hO, hv0, hv1, hb, hq⟩ := hI.bd h0 ht hk ⟨hp, by omega⟩
    have hr := sBr_range hO (i := 8 * k + p) ht (by omega)
    have hst := hI.step (pk := pk) h0 ht hk ⟨hp, hp8⟩ hg
    have hgg := hG g hg.1 (by omega)
    have hoo := hO (8 * k + p) (by omega) (by omega)
    have hPA : iPi (sFireA V k t p) := hI.1.of (fun j a b => sFireA_ne (by omega)) (sFireA_ne (by omega))
    have hbr : sBr W t (8 * k + p) = sBr V t (8 * k + p) := by simp only [sBr]; rw [hI.2.1 (40 + (8 * k + p)) (by omega) (by omega)]
    have hcom : t * (p + 1) = t * p + t := by rw [Int.mul_add, Int.mul_one]
    refine g_aload_n dX10_makeFiring_37 rfl rfl ?_
    refine g_get_State_positions dX10_makeFiring_38 mw_206 (by assumption) (by assumption) ?_
    refine g_iload_n dX10_makeFiring_41 rfl rfl ?_
    refine g_bipush dX10_makeFiring_42 (by decide) ?_
    refine g_imul dX10_makeFiring_44 ?_
    refine g_iload dX10_makeFiring_45 rfl ?_
    refine g_iadd dX10_makeFiring_47 ?_
    rw [show k * 8 + p = 8 * k + p by omega]
    obtain ⟨zqa, zqb, zqc⟩ := zq5 (8 * k + p) (by omega) (by omega)
    refine g_aald_Position dX10_makeFiring_48 (by assumption) (by omega) (by omega) (by assumption) ?_
    refine g_astore dX10_makeFiring_49 (by decide) ?_
    refine g_aload dX10_makeFiring_51 rfl ?_
    refine g_iload dX10_makeFiring_53 rfl ?_
    refine g_callVw (i := 6) rfl (gK0 (by assumption)) (g_at6 (by assumption)) (k_O_breakSome Y zqb t (by rw [ar_122 hag (i := (8 * k + p)) (by omega) (by omega)]; omega)) u_X8_breakSome mw_569 dX10_makeFiring_55 rfl rfl ⟨Nat.le_of_ble_eq_true rfl, Nat.le_of_ble_eq_true rfl⟩ ⟨Nat.le_of_ble_eq_true rfl, Nat.le_of_ble_eq_true rfl⟩ (Nat.le_of_ble_eq_true rfl) (fun v55 I55 A55 h55 => ?_)
    obtain ⟨rfl, i55, a55⟩ := h55
    obtain rfl := a55.symm
    rw [ar_122 hag (i := (8 * k + p)) (by omega) (by omega)] at i55 ⊢
    rw [ar_123 hag (i := (8 * k + p)) (by omega) (by omega)] at i55
    rw [show (t * V (40 + (8 * k + p))).tdiv 100 = sBr V t (8 * k + p) from rfl] at i55 ⊢
    have v55 := cu_123 hsh (i := 8 * k + p) (by omega) (by omega) i55
    have g55 : ag (cV I55 R Q s) (sFireA V k t p) := by rw [v55]; exact hag.put (by omega)
    have o55 : cPo R Q G s I I55 A A _ := cPo.up i55 (by rw [zqc]) (by decide) (by decide) g55
    have sl55 : cSl I55 R Q s := cFr.sl o55.2.2.1 (cFr.sl hpo.2.2.1 hsl)
    have a16 : sFireA V k t p (16 + (8 * k + p)) = V (16 + (8 * k + p)) := sFireA_ne (by omega)
    have a0 : sFireA V k t p g = V g := sFireA_ne (by omega)
    have a4 : sFireA V k t p (4 + g) = V (4 + g) := sFireA_ne (by omega)
    have a8 : sFireA V k t p (8 + g) = V (8 + g) := sFireA_ne (by omega)
    have hw : pk + sFireA V k t p (16 + (8 * k + p)) + (if 16 ≤ 8 * k + p then 5 * (8 * k + p - 16 - 3) else 0) = sWarm (sFireA V k t p) k p pk := by
      simp only [sWarm]
      rw [show 16 + 8 * k + p = 16 + (8 * k + p) by omega]
      by_cases q : k = 2
      · rw [if_pos q, if_pos (by omega)]; omega
      · rw [if_neg q, if_neg (by omega)]
    have hwr : 700 ≤ sWarm (sFireA V k t p) k p pk ∧ sWarm (sFireA V k t p) k p pk ≤ 1300 := by rw [← hw, a16]; split <;> omega
    have hm1 := Int.mul_nonneg (show 0 ≤ t - sBr V t (8 * k + p) by omega) hgg.2.2.2.2.1
    have hm2 : (t - sBr V t (8 * k + p)) * V (8 + g) ≤ (t - sBr V t (8 * k + p)) * 100 := Int.mul_le_mul_of_nonneg_left hgg.2.2.2.2.2.1 (by omega)
    refine g_istore dX10_makeFiring_58 (by decide) ?_
    refine g_iload dX10_makeFiring_60 rfl ?_
    refine g_iload dX10_makeFiring_62 rfl ?_
    refine g_isub dX10_makeFiring_64 ?_
    refine g_istore dX10_makeFiring_65 (by decide) ?_
    refine g_aload_n dX10_makeFiring_67 rfl rfl ?_
    refine g_iload_n dX10_makeFiring_68 rfl rfl ?_
    refine g_aload dX10_makeFiring_69 rfl ?_
    refine g_aload dX10_makeFiring_71 rfl ?_
    refine g_iload_n dX10_makeFiring_73 rfl rfl ?_
    refine g_callVp (i := 6) rfl (gK0 (by assumption)) (g_at6 (by assumption)) (k_O_temperature Y zqb pk) u_X8_temperature mw_573 dX10_makeFiring_74 rfl rfl ⟨Nat.le_of_ble_eq_true rfl, Nat.le_of_ble_eq_true rfl⟩ ⟨Nat.le_of_ble_eq_true rfl, Nat.le_of_ble_eq_true rfl⟩ (Nat.le_of_ble_eq_true rfl) ?_
    rw [ar_121 g55 (i := (8 * k + p)) (by omega) (by omega), sl55 (8 * k + p) (by omega) (by omega), hw]
    refine g_callVp (i := 2) rfl (gK0 (by assumption)) (g_at2 (by assumption)) (k_G_shadeFrom Y zgb _ (by omega) (by rw [ar_40 g55 (i := g) (by omega) (by omega)]; omega) (by rw [ar_41 g55 (i := g) (by omega) (by omega)]; omega)) u_X4_shadeFrom mw_577 dX10_makeFiring_77 rfl rfl ⟨Nat.le_of_ble_eq_true rfl, Nat.le_of_ble_eq_true rfl⟩ ⟨Nat.le_of_ble_eq_true rfl, Nat.le_of_ble_eq_true rfl⟩ (Nat.le_of_ble_eq_true rfl) ?_
    rw [ar_40 g55 (i := g) (by omega) (by omega), ar_41 g55 (i := g) (by omega) (by omega)]
    rw [show sClamp (sFireA V k t p g + (sFireA V k t p (4 + g) * (sWarm (sFireA V k t p) k p pk - 1000)) / 100) = sShade (sFireA V k t p) k p g pk from rfl]
    have hsr := sShade_range (sFireA V k t p) k p g pk
    refine g_iload dX10_makeFiring_80 rfl ?_
    refine g_iload dX10_makeFiring_82 rfl ?_
    refine g_aload dX10_makeFiring_84 rfl ?_
    refine g_get_Glaze_defects dX10_makeFiring_86 mw_96 (by assumption) ?_
    rw [ar_42 g55 (i := g) (by omega) (by omega)]
    refine g_imul dX10_makeFiring_89 ?_
    refine g_bipush dX10_makeFiring_90 (by decide) ?_
    refine g_idiv dX10_makeFiring_92 (by rw [a8]; omega) (by omega) (by omega) ?_
    have hd : 0 ≤ ((t - sBr V t (8 * k + p)) * sFireA V k t p (8 + g)).tdiv 100 ∧ ((t - sBr V t (8 * k + p)) * sFireA V k t p (8 + g)).tdiv 100 ≤ t - sBr V t (8 * k + p) := by rw [a8, td_pos hm1]; omega
    refine g_callVw (i := 8) rfl (gK0 (by assumption)) (g_at8 (by assumption)) (k_S_addToBench Y hsh g55 hPA g _ _ _ hg hsr (by omega) hd) u_X10_addToBench mw_590 dX10_makeFiring_93 rfl rfl ⟨Nat.le_of_ble_eq_true rfl, Nat.le_of_ble_eq_true rfl⟩ ⟨Nat.le_of_ble_eq_true rfl, Nat.le_of_ble_eq_true rfl⟩ (Nat.le_of_ble_eq_true rfl) (fun v93 I93 A93 h93 => ?_)
    obtain ⟨rfl, o93⟩ := h93
    obtain rfl := o93.1.symm
    have ef : (if t - sBr V t (8 * k + p) = 0 then sFireA V k t p else sLay (sFireA V k t p) g (sShade (sFireA V k t p) k p g pk) (t - sBr V t (8 * k + p)) (((t - sBr V t (8 * k + p)) * sFireA V k t p (8 + g)).tdiv 100)) = sFire1 V k g pk t p := by
      simp only [sFire1]
      by_cases q : t - sBr V t (8 * k + p) = 0
      · rw [if_pos q, if_neg (by omega)]
      · rw [if_neg q, if_pos (by omega)]
    rw [ef] at o93
    refine g_iload dX10_makeFiring_96 rfl ?_
    refine g_iload dX10_makeFiring_98 rfl ?_
    refine g_iadd dX10_makeFiring_100 ?_
    refine g_istore dX10_makeFiring_101 (by decide) ?_
    refine g_iinc dX10_makeFiring_103 rfl (by decide) ?_
    refine g_goto (tgt := 30) dX10_makeFiring_106 (by decide) ?_
    rw [sFireL_step (by omega), sFireV, sSum_step (by omega), ← Int.add_assoc, hbr]
    exact g_locs (by exact ⟨rfl, rfl, rfl, rfl, rfl, rfl, rfl, rfl, trivial⟩) (ih (m - 1) (p + 1) (z + sBr V t (8 * k + p)) (sFire1 V k g pk t p) (by omega) hst ((hpo.trans o55).trans o93) (by omega) (by omega) ⟨by omega, by omega⟩)
set_option maxHeartbeats 1000000 in
set_option maxRecDepth 100000 in
theorem k_S_makeFiring (Y : gEnv) {K N : Nat → Nat} {I : Nat → Nat → Int} {A : Nat → Int → Int} {R : Nat → Nat → Option Nat} {Q : Nat → Int → Option Nat} {s : Nat} {G : Nat → Nat × Int} {W : Int → Int} (hsh : cSh K N R Q G s) (hag : ag (cV I R Q s) W) {ev kq nq : Nat} (hev : cEv K N R G s ev kq nq) (hE : cE I A ev kq nq W) (hsl : cSl I R Q s) (h0 : iN W) (k g pk t : Int) (hk : 0 ≤ k ∧ k ≤ 2) (hg : 0 ≤ g ∧ g ≤ 3) (hpk : 800 ≤ pk ∧ pk ≤ 1200) (ht : 1 ≤ t ∧ t ≤ 100) (hfi : W 1610 < 2000) : gC Y yX10_makeFiring cX10_makeFiring 11 (some .int) ({ frames := 3, cells := 0, slots := 0, locals := 142 } : Room) [.ref s, vi k, vi g, vi pk, vi t] K N I A R Q (g_wr K N R Q (fun v I' A' => v = some (vi (sFireV W k t 8 0)) ∧ cPe R Q G s ev kq nq I I' A A' (sFire W k g pk t))) gno := by
  refine gC_of (by decide) (Nat.le_of_ble_eq_true rfl) (fun X => ?_)
  obtain ⟨hKs, hGs, ⟨zg1, zg2, zg3, zg4, zg5⟩, ⟨zq1, zq2, zq3, zq4, zq5⟩, ⟨zp1, zp2, zp3, zp4, zp5⟩, ⟨zl1, zl2, zl3, zl4, zl5⟩, ⟨zd1, zd2, zd3, zd4, zd5⟩⟩ := id hsh
  have hl := lp_S_makeFiring (Y := Y) (X := X) (I := I) hsh hev hE hsl h0 k g pk t hk hg hpk ht hfi _ 8 0 0 W (Nat.lt_succ_self _) (fI.zero h0.2.2.2.1 k t) ⟨rfl, fun _ => rfl, cFr.rfl, hag⟩ (by omega) (by omega) (by omega)
  rw [Int.zero_add] at hl
  refine g_iload_n dX10_makeFiring_0 rfl rfl ?_
  refine g_callSNp (k_isKiln Y _ (by omega)) u_X12_isKiln mw_545 dX10_makeFiring_1 rfl rfl ⟨Nat.le_of_ble_eq_true rfl, Nat.le_of_ble_eq_true rfl⟩ ⟨Nat.le_of_ble_eq_true rfl, Nat.le_of_ble_eq_true rfl⟩ (Nat.le_of_ble_eq_true rfl) ?_
  have b1 := ifd (0 ≤ k ∧ k ≤ 2)
  generalize (if 0 ≤ k ∧ k ≤ 2 then (1 : Int) else 0) = z1 at b1 ⊢
  refine g_if_eq (tgt := 14) dX10_makeFiring_4 (by decide) (by omega) (fun c_4 => ?_) (fun c_4 => ?_)
  · exfalso; omega
  · refine g_iload_n dX10_makeFiring_7 rfl rfl ?_
    refine g_callSNp (k_isGlaze Y _ (by omega)) u_X12_isGlaze mw_546 dX10_makeFiring_8 rfl rfl ⟨Nat.le_of_ble_eq_true rfl, Nat.le_of_ble_eq_true rfl⟩ ⟨Nat.le_of_ble_eq_true rfl, Nat.le_of_ble_eq_true rfl⟩ (Nat.le_of_ble_eq_true rfl) ?_
    have b8 := ifd (0 ≤ g ∧ g ≤ 3)
    generalize (if 0 ≤ g ∧ g ≤ 3 then (1 : Int) else 0) = z8 at b8 ⊢
    refine g_if_ne (tgt := 16) dX10_makeFiring_11 (by decide) (by omega) (fun c_11 => ?_) (fun c_11 => ?_)
    · refine g_aload_n dX10_makeFiring_16 rfl rfl ?_
      refine g_get_State_glazes dX10_makeFiring_17 mw_204 (by assumption) (by assumption) ?_
      refine g_iload_n dX10_makeFiring_20 rfl rfl ?_
      obtain ⟨zga, zgb, zgc⟩ := zg5 g (by omega) (by omega)
      refine g_aald_Glaze dX10_makeFiring_21 (by assumption) (by omega) (by omega) (by assumption) ?_
      refine g_astore dX10_makeFiring_22 (by decide) ?_
      refine g_iconst dX10_makeFiring_24 ?_
      refine g_istore dX10_makeFiring_25 (by decide) ?_
      refine g_iconst dX10_makeFiring_27 ?_
      refine g_istore dX10_makeFiring_28 (by decide) ?_
      exact g_locs (by exact ⟨rfl, rfl, rfl, rfl, rfl, rfl, rfl, rfl, trivial⟩) hl
    · exfalso; omega
set_option maxHeartbeats 1000000 in
set_option maxRecDepth 100000 in
theorem lp_S_gradeBench {Y : gEnv} {X : gCtx} {K N : Nat → Nat} {I : Nat → Nat → Int} {A : Nat → Int → Int} {R : Nat → Nat → Option Nat} {Q : Nat → Int → Option Nat} {I0 : Nat → Nat → Int} {s : Nat} {G : Nat → Nat × Int} {W : Int → Int} (hsh : cSh K N R Q G s) {ev kq nq : Nat} (hev : cEv K N R G s ev kq nq) (hE : cE I0 A ev kq nq W) (h0 : iN W) (ps : Int) (hps : 1 ≤ ps ∧ ps ≤ 10) : ∀ (f m : Nat) (p z : Int) (V : Int → Int), m < f → gI W p V → cPo R Q G s I0 I A A V → 0 ≤ p → p + m = W 1613 → gJ Y X yX10_gradeBench cX10_gradeBench 6 (some .int) ({ frames := 3, cells := 0, slots := 0, locals := 142 } : Room) (g_wr K N R Q (fun v I' A' => v = some (vi (z + sGrV W ps m p)) ∧ cPe R Q G s ev kq nq I0 I' A A' (sHap (sU (sGrL ps m p V) 1613 0) 2 (z + sGrV W ps m p)))) gno 0 0 4 [(0, .ref s), (1, vi ps), (2, vi z), (3, vi p)] [] K N I A R Q := by
  obtain ⟨hKs, hGs, ⟨zg1, zg2, zg3, zg4, zg5⟩, ⟨zq1, zq2, zq3, zq4, zq5⟩, ⟨zp1, zp2, zp3, zp4, zp5⟩, ⟨zl1, zl2, zl3, zl4, zl5⟩, ⟨zd1, zd2, zd3, zd4, zd5⟩⟩ := id hsh
  obtain ⟨ev1, ev2, ev3, ev4, ev5, ev6, ev7, ev8, ev9, ev10, ev11, ev12⟩ := id hev
  have evG : (G ev).1 = s ∧ (G kq).1 = s ∧ (G nq).1 = s := ⟨by rw [ev10], by rw [ev11], by rw [ev12]⟩
  have h80 := h0.2.2.2.1.2.1

  intro f
  induction f generalizing I with
  | zero => intro m p z V h; omega
  | succ f ih =>
  intro m p z V hf hI hpo hp hpm
  have hag := hpo.2.2.2
  have e13 : V 1613 = W 1613 := hI.2.2.1 1613 (by omega) (by omega)
  refine g_iload_n dX10_gradeBench_4 rfl rfl ?_
  refine g_aload_n dX10_gradeBench_5 rfl rfl ?_
  refine g_get_State_pileCount dX10_gradeBench_6 mw_219 (by assumption) ?_
  rw [ar_168 hag, e13]
  refine g_icmp_ge (tgt := 92) dX10_gradeBench_9 (by decide) (by omega) (by omega) (fun c_9 => ?_) (fun c_9 => ?_)
  · obtain rfl : p = W 1613 := by omega
    obtain rfl : m = 0 := by omega
    rw [sGrV, sSum_stop rfl, Int.add_zero, sGrL_stop rfl]
    refine g_aload_n dX10_gradeBench_92 rfl rfl ?_
    refine g_iconst dX10_gradeBench_93 ?_
    refine g_put_State_pileCount dX10_gradeBench_94 mw_219 (by assumption) (fun I94 hI94 => ?_)
    have v94 := cu_168 hsh hI94
    have g94 : ag (cV I94 R Q s) (sU V 1613 0) := by
      rw [v94]
      simp only [ag]
      rw [sU_eq, sU_ne _ _ (by omega), sU_ne _ _ (by omega)]
      exact (agP.put hag 1613 0).mono (fun j hj => by have := hI.1.1; simp only [lv] at hj ⊢; omega)
    have o94 : cPo R Q G s I I94 A A _ := cPo.up hI94 (by rw [hGs]) (by decide) (by decide) g94
    have oall := hpo.trans o94
    have hV16 : ∀ j, 1570 ≤ j → j < 1610 ∨ j = 1616 → sU V 1613 0 j = W j := fun j a b => by rw [sU_ne _ _ (by omega), hI.2.2.1 j (by omega) (by omega)]
    have hiE := h0.2.2.2.2.2.2.2
    have hE94 := hE.of hiE.2 (oall.2.1 ev) hV16
    have hi94 : iE (sU V 1613 0) := by simp only [iE]; rw [hV16 1616 (by omega) (by omega)]; exact hiE
    refine g_aload_n dX10_gradeBench_97 rfl rfl ?_
    refine g_get_State_events dX10_gradeBench_98 mw_213 (by assumption) (by assumption) ?_
    refine g_iconst dX10_gradeBench_101 ?_
    refine g_iload_n dX10_gradeBench_102 rfl rfl ?_
    refine g_callVw (i := 1) rfl (gK0 (by assumption)) (g_at1 (by assumption)) (k_E_add Y ev2 ev3 ev4 ev5 ev6 ev7 ev8 ev9 hE94 hi94 2 z) u_X2_add mw_610 dX10_gradeBench_103 rfl rfl ⟨Nat.le_of_ble_eq_true rfl, Nat.le_of_ble_eq_true rfl⟩ ⟨Nat.le_of_ble_eq_true rfl, Nat.le_of_ble_eq_true rfl⟩ (Nat.le_of_ble_eq_true rfl) (fun v103 I103 A103 h103 => ?_)
    obtain ⟨rfl, h103b⟩ := h103
    refine g_iload_n dX10_gradeBench_106 rfl rfl ?_
    exact g_iret dX10_gradeBench_107 rfl (by decide) (by decide) ⟨rfl, rfl, rfl, rfl, rfl, oall.ev hi94 evG h103b.1 h103b.2.1 h103b.2.2⟩
  · have hp3 : p < W 1613 := by omega
    obtain ⟨b1, b2, b3, b4, b5, b6, b7, b8, b9, b10, b11⟩ := hI.lem (ps := ps) h0 ⟨hp, hp3⟩
    obtain ⟨t1, -, t3, -, t5, t6⟩ := hI.step (ps := ps) h0 ⟨hp, hp3⟩
    have hgv : W (330 + p) - sStays (W 88) ps.toNat (W (330 + p)) = (V (330 + p) - sStays (V 88) ps.toNat (V (330 + p))) := by rw [hI.2.2.1 (330 + p) (by omega) (by omega), hI.2.2.1 88 (by omega) (by omega)]
    have eV13 : V 1613 = W 1613 := hI.2.2.1 1613 (by omega) (by omega)
    refine g_aload_n dX10_gradeBench_12 rfl rfl ?_
    refine g_get_State_piles dX10_gradeBench_13 mw_208 (by assumption) (by assumption) ?_
    refine g_iload_n dX10_gradeBench_16 rfl rfl ?_
    obtain ⟨zpa, zpb, zpc⟩ := zp5 p (by omega) (by omega)
    refine g_aald_Pile dX10_gradeBench_17 (by assumption) (by omega) (by omega) (by assumption) ?_
    refine g_astore dX10_gradeBench_18 (by decide) ?_
    refine g_aload dX10_gradeBench_20 rfl ?_
    refine g_iload_n dX10_gradeBench_22 rfl rfl ?_
    refine g_aload_n dX10_gradeBench_23 rfl rfl ?_
    refine g_get_State_sharpness dX10_gradeBench_24 mw_215 (by assumption) ?_
    rw [ar_166 hag]
    refine g_callVp (i := 5) rfl (gK0 (by assumption)) (g_at5 (by assumption)) (k_P_foundBy Y zpb ps (V 88) (by omega) b6 (by rw [ar_103 hag (i := p) (by omega) (by omega) (by omega)]; omega)) u_X7_foundBy mw_630 dX10_gradeBench_27 rfl rfl ⟨Nat.le_of_ble_eq_true rfl, Nat.le_of_ble_eq_true rfl⟩ ⟨Nat.le_of_ble_eq_true rfl, Nat.le_of_ble_eq_true rfl⟩ (Nat.le_of_ble_eq_true rfl) ?_
    rw [ar_103 hag (i := p) (by omega) (by omega) (by omega)]
    refine g_istore dX10_gradeBench_30 (by decide) ?_
    refine g_aload_n dX10_gradeBench_32 rfl rfl ?_
    refine g_aload dX10_gradeBench_33 rfl ?_
    refine g_get_Pile_glaze dX10_gradeBench_35 mw_134 (by assumption) ?_
    rw [ar_100 hag (i := p) (by omega) (by omega) (by omega)]
    refine g_aload dX10_gradeBench_38 rfl ?_
    refine g_get_Pile_shade dX10_gradeBench_40 mw_136 (by assumption) ?_
    rw [ar_101 hag (i := p) (by omega) (by omega) (by omega)]
    refine g_iconst dX10_gradeBench_43 ?_
    refine g_aload dX10_gradeBench_44 rfl ?_
    refine g_get_Pile_tiles dX10_gradeBench_46 mw_138 (by assumption) ?_
    rw [ar_102 hag (i := p) (by omega) (by omega) (by omega)]
    refine g_iload dX10_gradeBench_49 rfl ?_
    refine g_isub dX10_gradeBench_51 ?_
    refine g_aload dX10_gradeBench_52 rfl ?_
    refine g_get_Pile_hidden dX10_gradeBench_54 mw_140 (by assumption) ?_
    rw [ar_103 hag (i := p) (by omega) (by omega) (by omega)]
    refine g_iload dX10_gradeBench_57 rfl ?_
    refine g_isub dX10_gradeBench_59 ?_
    rw [show V (330 + p) - (V (330 + p) - sStays (V 88) ps.toNat (V (330 + p))) = sStays (V 88) ps.toNat (V (330 + p)) by omega]
    refine g_callVw (i := 8) rfl (gK0 (by assumption)) (g_at8 (by assumption)) (k_S_addLoose Y hsh hag hI.1 hI.2.1 (by omega) _ _ 1 _ _ b1 b2 (by omega) (by omega) (by omega)) u_X10_addLoose mw_634 dX10_gradeBench_60 rfl rfl ⟨Nat.le_of_ble_eq_true rfl, Nat.le_of_ble_eq_true rfl⟩ ⟨Nat.le_of_ble_eq_true rfl, Nat.le_of_ble_eq_true rfl⟩ (Nat.le_of_ble_eq_true rfl) (fun v60 I60 A60 h60 => ?_)
    obtain ⟨rfl, o60⟩ := h60
    obtain rfl := o60.1.symm
    have g60 := o60.2.2.2
    refine g_aload_n dX10_gradeBench_63 rfl rfl ?_
    refine g_aload dX10_gradeBench_64 rfl ?_
    refine g_get_Pile_glaze dX10_gradeBench_66 mw_134 (by assumption) ?_
    rw [ar_100 g60 (i := p) (by omega) (by rw [t3 1613 (by omega) (by omega)]; omega) (by rw [t3 1613 (by omega) (by omega)]; omega), t3 (90 + p) (by omega) (by omega)]
    refine g_aload dX10_gradeBench_69 rfl ?_
    refine g_get_Pile_shade dX10_gradeBench_71 mw_136 (by assumption) ?_
    rw [ar_101 g60 (i := p) (by omega) (by rw [t3 1613 (by omega) (by omega)]; omega) (by rw [t3 1613 (by omega) (by omega)]; omega), t3 (170 + p) (by omega) (by omega)]
    refine g_iconst dX10_gradeBench_74 ?_
    refine g_iload dX10_gradeBench_75 rfl ?_
    refine g_iconst dX10_gradeBench_77 ?_
    refine g_callVw (i := 8) rfl (gK0 (by assumption)) (g_at8 (by assumption)) (k_S_addLoose Y hsh g60 t5 t6 (by rw [t3 89 (by omega) (by omega)]; omega) _ _ 2 _ _ b1 b2 (by omega) (by omega) (by omega)) u_X10_addLoose mw_634 dX10_gradeBench_78 rfl rfl ⟨Nat.le_of_ble_eq_true rfl, Nat.le_of_ble_eq_true rfl⟩ ⟨Nat.le_of_ble_eq_true rfl, Nat.le_of_ble_eq_true rfl⟩ (Nat.le_of_ble_eq_true rfl) (fun v78 I78 A78 h78 => ?_)
    obtain ⟨rfl, o78⟩ := h78
    obtain rfl := o78.1.symm
    refine g_iload_n dX10_gradeBench_81 rfl rfl ?_
    refine g_iload dX10_gradeBench_82 rfl ?_
    refine g_iadd dX10_gradeBench_84 ?_
    refine g_istore_n dX10_gradeBench_85 rfl (by decide) ?_
    refine g_iinc dX10_gradeBench_86 rfl (by decide) ?_
    refine g_goto (tgt := 4) dX10_gradeBench_89 (by decide) ?_
    rw [sGrL_step (by omega), sGrV, sSum_step (by omega), ← Int.add_assoc, hgv]
    exact g_locs (by exact ⟨rfl, rfl, rfl, rfl, trivial⟩) (ih (m - 1) (p + 1) _ (sGr1 ps V p) (by omega) t1 ((hpo.trans o60).trans o78) (by omega) (by omega))
set_option maxHeartbeats 1000000 in
set_option maxRecDepth 100000 in
theorem k_S_gradeBench (Y : gEnv) {K N : Nat → Nat} {I : Nat → Nat → Int} {A : Nat → Int → Int} {R : Nat → Nat → Option Nat} {Q : Nat → Int → Option Nat} {s : Nat} {G : Nat → Nat × Int} {W : Int → Int} (hsh : cSh K N R Q G s) (hag : ag (cV I R Q s) W) {ev kq nq : Nat} (hev : cEv K N R G s ev kq nq) (hE : cE I A ev kq nq W) (h0 : iN W) (ps : Int) (hps : 1 ≤ ps ∧ ps ≤ 10) (hz : iZ W) : gC Y yX10_gradeBench cX10_gradeBench 6 (some .int) ({ frames := 3, cells := 0, slots := 0, locals := 142 } : Room) [.ref s, vi ps] K N I A R Q (g_wr K N R Q (fun v I' A' => v = some (vi (sGrV W ps (W 1613).toNat 0)) ∧ cPe R Q G s ev kq nq I I' A A' (sGrade W ps))) gno := by
  refine gC_of (by decide) (Nat.le_of_ble_eq_true rfl) (fun X => ?_)
  have h13 := h0.2.2.2.1.1
  have hl := lp_S_gradeBench (Y := Y) (X := X) (I := I) hsh hev hE h0 ps hps _ (W 1613).toNat 0 0 W (Nat.lt_succ_self _) (gI.zero h0.2.2.2.2.1 hz) ⟨rfl, fun _ => rfl, cFr.rfl, hag⟩ (by omega) (by omega)
  rw [Int.zero_add] at hl
  refine g_iconst dX10_gradeBench_0 ?_
  refine g_istore_n dX10_gradeBench_1 rfl (by decide) ?_
  refine g_iconst dX10_gradeBench_2 ?_
  refine g_istore_n dX10_gradeBench_3 rfl (by decide) ?_
  exact g_locs (by exact ⟨rfl, rfl, rfl, rfl, trivial⟩) hl
set_option maxHeartbeats 1000000 in
set_option maxRecDepth 100000 in
theorem lp_S_packLots {Y : gEnv} {X : gCtx} {K N : Nat → Nat} {I : Nat → Nat → Int} {A : Nat → Int → Int} {R : Nat → Nat → Option Nat} {Q : Nat → Int → Option Nat} {I0 : Nat → Nat → Int} {s : Nat} {G : Nat → Nat × Int} {W : Int → Int} (hsh : cSh K N R Q G s) (h0 : iN W) : ∀ (f m : Nat) (l z : Int), m < f → cPo R Q G s I0 I A A (sPackK W l) → 0 ≤ l → l + m = W 1614 → gJ Y X yX10_packLots cX10_packLots 3 (some .int) ({ frames := 1, cells := 0, slots := 0, locals := 22 } : Room) (g_wr K N R Q (fun v I' A' => v = some (vi (z + sSum (fun l => (W (890 + l)).tdiv (W 89)) m l)) ∧ cPo R Q G s I0 I' A A' (sPack W))) gno 0 0 4 [(0, .ref s), (1, vi z), (2, vi l)] [] K N I A R Q := by
  obtain ⟨hKs, hGs, ⟨zg1, zg2, zg3, zg4, zg5⟩, ⟨zq1, zq2, zq3, zq4, zq5⟩, ⟨zp1, zp2, zp3, zp4, zp5⟩, ⟨zl1, zl2, zl3, zl4, zl5⟩, ⟨zd1, zd2, zd3, zd4, zd5⟩⟩ := id hsh
  have n14 : 0 ≤ W 1614 ∧ W 1614 ≤ 160 := ⟨h0.2.2.2.2.1.1, h0.2.2.2.2.1.2.1⟩
  have nS := h0.2.2.2.2.2.2.1
  have s3 := nS.2.2.1
  have s4 := nS.2.2.2.1

  intro f
  induction f generalizing I with
  | zero => intro m l z h; omega
  | succ f ih =>
  intro m l z hf hpo hl hml
  have hag := hpo.2.2.2
  have k14 : sPackK W l 1614 = W 1614 := by rw [sPackK, if_neg (by omega), if_neg (by omega)]
  refine g_iload_n dX10_packLots_4 rfl rfl ?_
  refine g_aload_n dX10_packLots_5 rfl rfl ?_
  skip
  refine g_get_State_lotCount dX10_packLots_6 mw_220 (by assumption) ?_
  rw [ar_169 hag, k14]
  refine g_icmp_ge (tgt := 34) dX10_packLots_9 (by decide) (by omega) (by omega) (fun c_9 => ?_) (fun c_9 => ?_)
  · obtain rfl : l = W 1614 := by omega
    obtain rfl : m = 0 := by omega
    rw [sSum_stop rfl, Int.add_zero]
    refine g_iload_n dX10_packLots_34 rfl rfl ?_
    exact g_iret dX10_packLots_35 rfl (by decide) (by decide) ⟨rfl, rfl, rfl, rfl, rfl, hpo⟩
  · have hl2 : l < W 1614 := by omega
    obtain ⟨e1, e2, e3, e4⟩ := sPackK_in (w := W) (k := l) (l := l) (by omega)
    have hpl := sPack_lem h0 hl hl2
    have hlo := h0.lot hl hl2
    refine g_iload_n dX10_packLots_12 rfl rfl ?_
    refine g_aload_n dX10_packLots_13 rfl rfl ?_
    refine g_get_State_lots dX10_packLots_14 mw_209 (by assumption) (by assumption) ?_
    refine g_iload_n dX10_packLots_17 rfl rfl ?_
    obtain ⟨zla, zlb, zlc⟩ := zl5 l (by omega) (by omega)
    refine g_aald_Lot dX10_packLots_18 (by assumption) (by omega) (by omega) (by assumption) ?_
    refine g_aload_n dX10_packLots_19 rfl rfl ?_
    refine g_get_State_boxSize dX10_packLots_20 mw_217 (by assumption) ?_
    rw [ar_167 hag, e3]
    refine g_callVw (i := 4) rfl (gK0 (by assumption)) (g_at4 (by assumption)) (k_L_fill Y zlb (W 89) (by omega) (by rw [ar_83 hag (i := l) (by omega) (by omega) (by omega), e1]; omega)) u_X6_fillBoxes mw_662 dX10_packLots_23 rfl rfl ⟨Nat.le_of_ble_eq_true rfl, Nat.le_of_ble_eq_true rfl⟩ ⟨Nat.le_of_ble_eq_true rfl, Nat.le_of_ble_eq_true rfl⟩ (Nat.le_of_ble_eq_true rfl) (fun v23 I23 A23 h23 => ?_)
    obtain ⟨rfl, i23, a23⟩ := h23
    obtain rfl := a23.symm
    rw [ar_83 hag (i := l) (by omega) (by omega) (by omega), e1] at i23 ⊢
    rw [ar_84 hag (i := l) (by omega) (by omega) (by omega), e2] at i23
    have v23 : cV I23 R Q s = sU (sU (cV I R Q s) (1050 + l) (W (1050 + l) + (W (890 + l)).tdiv (W 89))) (890 + l) (W (890 + l) - (W (890 + l)).tdiv (W 89) * W 89) := by rw [cu_83 hsh (by omega) (by omega) i23, cu_84 hsh (by omega) (by omega) rfl]
    have g23 : ag (cV I23 R Q s) (sPackK W (l + 1)) := by
      rw [v23, ← sPackK_succ (by omega) rfl]
      exact (hag.put (by omega)).put (by omega)
    have o23 : cPo R Q G s I I23 A A _ := ⟨rfl, fun q => by rw [i23, g_up_ne1 _ _ (by omega), g_up_ne1 _ _ (by omega)], (cFr.up (by rw [zlc]) (by decide) rfl).trans (cFr.up (by rw [zlc]) (by decide) i23), g23⟩
    refine g_iadd dX10_packLots_26 ?_
    refine g_istore_n dX10_packLots_27 rfl (by decide) ?_
    refine g_iinc dX10_packLots_28 rfl (by decide) ?_
    refine g_goto (tgt := 4) dX10_packLots_31 (by decide) ?_
    rw [sSum_step (by omega), ← Int.add_assoc]
    exact g_locs (by exact ⟨rfl, rfl, rfl, trivial⟩) (ih (m - 1) (l + 1) _ (by omega) (hpo.trans o23) (by omega) (by omega))
set_option maxHeartbeats 1000000 in
set_option maxRecDepth 100000 in
theorem k_S_packLots (Y : gEnv) {K N : Nat → Nat} {I : Nat → Nat → Int} {A : Nat → Int → Int} {R : Nat → Nat → Option Nat} {Q : Nat → Int → Option Nat} {s : Nat} {G : Nat → Nat × Int} {W : Int → Int} (hsh : cSh K N R Q G s) (hag : ag (cV I R Q s) W) (h0 : iN W) : gC Y yX10_packLots cX10_packLots 3 (some .int) ({ frames := 1, cells := 0, slots := 0, locals := 22 } : Room) [.ref s] K N I A R Q (g_wr K N R Q (fun v I' A' => v = some (vi (sSum (fun l => (W (890 + l)).tdiv (W 89)) (W 1614).toNat 0)) ∧ cPo R Q G s I I' A A' (sPack W))) gno := by
  refine gC_of (by decide) (Nat.le_of_ble_eq_true rfl) (fun X => ?_)
  have h14 := h0.2.2.2.2.1.1
  have hl := lp_S_packLots (Y := Y) (X := X) (I := I) (A := A) hsh h0 _ (W 1614).toNat 0 0 (Nat.lt_succ_self _) ⟨rfl, fun _ => rfl, cFr.rfl, by rw [sPackK_0]; exact hag⟩ (by omega) (by omega)
  rw [Int.zero_add] at hl
  refine g_iconst dX10_packLots_0 ?_
  refine g_istore_n dX10_packLots_1 rfl (by decide) ?_
  refine g_iconst dX10_packLots_2 ?_
  refine g_istore_n dX10_packLots_3 rfl (by decide) ?_
  exact g_locs (by exact ⟨rfl, rfl, rfl, trivial⟩) hl
