/-- the log of events, the newest first -/
def cE (I : Nat → Nat → Int) (A : Nat → Int → Int) (ev kq nq : Nat) (W : Int → Int) : Prop := I 22 ev = W 1616 ∧ ∀ i, 0 ≤ i → i < W 1616 → A kq i = W (1570 + (W 1616 - 1 - i)) ∧ A nq i = W (1590 + (W 1616 - 1 - i))
theorem cE.of {I I' : Nat → Nat → Int} {A : Nat → Int → Int} {ev kq nq : Nat} {W W' : Int → Int} (h : cE I A ev kq nq W) (h20 : W 1616 ≤ 20) (hI : I' 22 ev = I 22 ev) (hW : ∀ j, 1570 ≤ j → j < 1610 ∨ j = 1616 → W' j = W j) : cE I' A ev kq nq W' := by
  have e := hW 1616 (by omega) (by omega)
  refine ⟨by rw [hI, e]; exact h.1, fun i a b => ?_⟩
  rw [e] at b ⊢
  rw [hW _ (by omega) (by omega), hW _ (by omega) (by omega)]
  exact h.2 i a b
theorem sHap_val {W : Int → Int} (he : iE W) (k n : Int) : sHap W k n 1616 = (if W 1616 = 20 then 20 else W 1616 + 1) ∧ (∀ i, 0 ≤ i → i < sHap W k n 1616 → sHap W k n (1570 + (sHap W k n 1616 - 1 - i)) = (if i = 0 then k else W (1570 + (W 1616 - 1 - (i - 1)))) ∧ sHap W k n (1590 + (sHap W k n 1616 - 1 - i)) = (if i = 0 then n else W (1590 + (W 1616 - 1 - (i - 1))))) := by
  obtain ⟨h0, h2⟩ := he
  have key : ∀ c, sHap1 W 1616 = c → 0 ≤ c ∧ c ≤ 19 → ∀ j, sHap W k n j = (if j = 1616 then c + 1 else if j = 1590 + c then n else if j = 1570 + c then k else sHap1 W j) := fun c hc h19 j => by
    have e3 : (sU (sHap1 W) (1570 + c) k) 1616 = c := by rw [sU_ne _ _ (by omega)]; exact hc
    have e4 : (sU (sU (sHap1 W) (1570 + c) k) (1590 + c) n) 1616 = c := by rw [sU_ne _ _ (by omega), e3]
    rw [sHap, sPut3, hc, e3, e4]
    simp only [sU]
  by_cases e : W 1616 = 20
  · have hs : ∀ j, sHap1 W j = (if j = 1616 then 19 else sShift W 19 j) := fun j => by
      simp only [sHap1]
      rw [if_pos e]
      simp only [sU]
      by_cases q : j = 1616
      · rw [if_pos q, if_pos q, sShift, if_neg (by omega), if_neg (by omega), e]; rfl
      · rw [if_neg q, if_neg q]
    have hk := key 19 (by rw [hs, if_pos rfl]) (by omega)
    have h16 : sHap W k n 1616 = 20 := by rw [hk, if_pos rfl]; rfl
    rw [h16, if_pos e, e]
    refine ⟨rfl, fun i a b => ⟨?_, ?_⟩⟩
    · rw [hk, if_neg (by omega), if_neg (by omega)]
      by_cases q : i = 0
      · rw [if_pos (by omega), if_pos q]
      · rw [if_neg (by omega), if_neg q, hs, if_neg (by omega), sShift, if_pos (by omega)]
        exact congrArg W (by omega)
    · rw [hk, if_neg (by omega)]
      by_cases q : i = 0
      · rw [if_pos (by omega), if_pos q]
      · rw [if_neg (by omega), if_neg (by omega), if_neg q, hs, if_neg (by omega), sShift, if_neg (by omega), if_pos (by omega)]
        exact congrArg W (by omega)
  · have hs : ∀ j, sHap1 W j = W j := fun j => by simp only [sHap1]; rw [if_neg e]
    have hk := key (W 1616) (hs _) (by omega)
    have h16 : sHap W k n 1616 = W 1616 + 1 := by rw [hk, if_pos rfl]
    rw [h16, if_neg e]
    refine ⟨rfl, fun i a b => ⟨?_, ?_⟩⟩
    · rw [hk, if_neg (by omega), if_neg (by omega)]
      by_cases q : i = 0
      · rw [if_pos (by omega), if_pos q]
      · rw [if_neg (by omega), if_neg q, hs]
        exact congrArg W (by omega)
    · rw [hk, if_neg (by omega)]
      by_cases q : i = 0
      · rw [if_pos (by omega), if_pos q]
      · rw [if_neg (by omega), if_neg (by omega), if_neg q, hs]
        exact congrArg W (by omega)
theorem cV_22 {I I' : Nat → Nat → Int} {R : Nat → Nat → Option Nat} {Q : Nat → Int → Option Nat} {s ev : Nat} {v : Int} (h : I' = g_up I 22 ev v) : cV I' R Q s = cV I R Q s := by
  funext j
  simp only [cV]
  by_cases z : cF j = 999
  · rw [if_pos z, if_pos z]
  · rw [if_neg z, if_neg z, h]
    refine g_up_ne1 _ _ (fun e => ?_)
    have := (cF_all j z).2.2.2.2.2.2
    rw [e] at this
    have e2 := (cF_all j z).1
    rw [e] at e2
    have := e2 (by decide)
    rw [show cBs 22 = 0 by decide] at this
    rw [this] at e
    exact absurd e (by decide)
theorem ag.hap {V W : Int → Int} (h : ag V W) (he : iE W) (k n : Int) : ag V (sHap W k n) := by
  simp only [ag]
  rw [sHap_same he (by omega) (by omega), sHap_same he (by omega) (by omega), sHap_same he (by omega) (by omega)]
  exact fun j hj => by
    rw [sHap_same he (by unfold lv at hj; omega) (by unfold lv at hj; omega)]
    exact h j hj
set_option maxHeartbeats 1000000 in
set_option maxRecDepth 100000 in
theorem k_E_add (Y : gEnv) {K N : Nat → Nat} {I : Nat → Nat → Int} {A : Nat → Int → Int} {R : Nat → Nat → Option Nat} {Q : Nat → Int → Option Nat} {ev kq nq : Nat} (hKe : K ev = 2) (hR1 : R 20 ev = some kq) (hR2 : R 21 ev = some nq) (hK1 : K kq = 13) (hN1 : N kq = 20) (hK2 : K nq = 13) (hN2 : N nq = 20) (hne : kq ≠ nq) {W : Int → Int} (hE : cE I A ev kq nq W) (hiE : iE W) (kd nu : Int) : gC Y yX2_add cX2_add 3 none ({ frames := 1, cells := 0, slots := 0, locals := 120 } : Room) [.ref ev, vi kd, vi nu] K N I A R Q (g_wr K N R Q (fun v I' A' => v = none ∧ (∃ z : Int, I' = g_up I 22 ev z) ∧ (∀ q, q ≠ kq → q ≠ nq → A' q = A q) ∧ cE I' A' ev kq nq (sHap W kd nu))) gno := by
  refine gC_of (by decide) (Nat.le_of_ble_eq_true rfl) (fun X => ?_)
  have hv := sHap_val hiE kd nu
  obtain ⟨i0, i20⟩ := hiE
  obtain ⟨hE1, hE2⟩ := hE
  refine g_aload_n dX2_add_0 rfl rfl ?_
  refine g_get_EventLog_kinds dX2_add_1 mw_74 (by assumption) (by assumption) ?_
  refine g_iconst dX2_add_4 ?_
  refine g_aload_n dX2_add_5 rfl rfl ?_
  refine g_get_EventLog_kinds dX2_add_6 mw_74 (by assumption) (by assumption) ?_
  refine g_iconst dX2_add_9 ?_
  refine g_bipush dX2_add_10 (by decide) ?_
  refine g_copyi dX2_add_12 mw_463 (by assumption) (by assumption) (by omega) (by omega) (by omega) (by omega) (by omega) (by omega) (by omega) (by decide) (by decide) (fun A12 hA12 => ?_)
  refine g_aload_n dX2_add_15 rfl rfl ?_
  refine g_get_EventLog_numbers dX2_add_16 mw_75 (by assumption) (by assumption) ?_
  refine g_iconst dX2_add_19 ?_
  refine g_aload_n dX2_add_20 rfl rfl ?_
  refine g_get_EventLog_numbers dX2_add_21 mw_75 (by assumption) (by assumption) ?_
  refine g_iconst dX2_add_24 ?_
  refine g_bipush dX2_add_25 (by decide) ?_
  refine g_copyi dX2_add_27 mw_463 (by assumption) (by assumption) (by omega) (by omega) (by omega) (by omega) (by omega) (by omega) (by omega) (by decide) (by decide) (fun A27 hA27 => ?_)
  refine g_aload_n dX2_add_30 rfl rfl ?_
  refine g_get_EventLog_kinds dX2_add_31 mw_74 (by assumption) (by assumption) ?_
  refine g_iconst dX2_add_34 ?_
  refine g_iload_n dX2_add_35 rfl rfl ?_
  refine g_iastore dX2_add_36 (by assumption) (by omega) (by omega) (fun A36 hA36 => ?_)
  refine g_aload_n dX2_add_37 rfl rfl ?_
  refine g_get_EventLog_numbers dX2_add_38 mw_75 (by assumption) (by assumption) ?_
  refine g_iconst dX2_add_41 ?_
  refine g_iload_n dX2_add_42 rfl rfl ?_
  refine g_iastore dX2_add_43 (by assumption) (by omega) (by omega) (fun A43 hA43 => ?_)
  refine g_aload_n dX2_add_44 rfl rfl ?_
  refine g_aload_n dX2_add_45 rfl rfl ?_
  refine g_get_EventLog_count dX2_add_46 mw_76 (by assumption) ?_
  refine g_iconst dX2_add_49 ?_
  refine g_iadd dX2_add_50 ?_
  refine g_bipush dX2_add_51 (by decide) ?_
  refine g_callSOp (k_J_min Y _ _ (by omega) (by omega)) u_J9_min mw_614 dX2_add_53 rfl rfl ⟨Nat.le_of_ble_eq_true rfl, Nat.le_of_ble_eq_true rfl⟩ ⟨Nat.le_of_ble_eq_true rfl, Nat.le_of_ble_eq_true rfl⟩ (Nat.le_of_ble_eq_true rfl) ?_
  refine g_put_EventLog_count dX2_add_56 mw_76 (by assumption) (fun I56 hI56 => ?_)
  exact g_vret dX2_add_59 rfl (by decide) (by decide) ⟨rfl, rfl, rfl, rfl, rfl, ⟨_, hI56⟩, fun q h1 h2 => by
      rw [hA43, hA36, hA27, hA12]
      funext j
      simp only [g_uq, g_rw]
      rw [if_neg h2, if_neg h1, if_neg h2, if_neg h1], by
      have hz : sMin (W 1616 + 1) 20 = sHap W kd nu 1616 := by rw [hv.1, sMin]; split <;> split <;> omega
      refine ⟨by rw [hI56, g_up_eq, hE1]; exact hz, fun i a b => ?_⟩
      obtain ⟨v1, v2⟩ := hv.2 i a b
      have hb : i < 20 := by rw [hv.1] at b; split at b <;> omega
      have hb2 : i ≠ 0 → i - 1 < W 1616 := fun q => by rw [hv.1] at b; split at b <;> omega
      rw [v1, v2, hA43, hA36, hA27, hA12]
      simp only [g_uq, g_rw, if_true, if_neg hne, if_neg (Ne.symm hne), g_cpy]
      by_cases q : i = 0
      · rw [if_pos q, if_pos q, if_pos q, if_pos q]; exact ⟨rfl, rfl⟩
      · rw [if_neg q, if_neg q, if_neg q, if_neg q, if_pos (by omega), if_pos (by omega)]
        obtain ⟨w1, w2⟩ := hE2 (i - 1) (by omega) (hb2 q)
        rw [show (0 : Int) + (i - 1) = i - 1 by omega]
        exact ⟨w1, w2⟩⟩
/-- what a call leaves of a State, without its log .. -/
def cPo (R : Nat → Nat → Option Nat) (Q : Nat → Int → Option Nat) (G : Nat → Nat × Int) (s : Nat) (I I' : Nat → Nat → Int) (A A' : Nat → Int → Int) (W : Int → Int) : Prop := A' = A ∧ (∀ q, I' 22 q = I 22 q) ∧ cFr G s I I' A A ∧ ag (cV I' R Q s) W
theorem cPo.trans {R : Nat → Nat → Option Nat} {Q : Nat → Int → Option Nat} {G : Nat → Nat × Int} {s : Nat} {I I1 I2 : Nat → Nat → Int} {A A1 A2 : Nat → Int → Int} {W1 W2 : Int → Int} (h1 : cPo R Q G s I I1 A A1 W1) (h2 : cPo R Q G s I1 I2 A1 A2 W2) : cPo R Q G s I I2 A A2 W2 := by
  obtain ⟨a1, a2, a3, a4⟩ := h1
  obtain ⟨b1, b2, b3, b4⟩ := h2
  subst a1
  exact ⟨b1, fun q => (b2 q).trans (a2 q), a3.trans b3, b4⟩
theorem cPo.up {R : Nat → Nat → Option Nat} {Q : Nat → Int → Option Nat} {G : Nat → Nat × Int} {s : Nat} {I I' : Nat → Nat → Int} {A : Nat → Int → Int} {W : Int → Int} {f q : Nat} {v : Int} (h : I' = g_up I f q v) (hq : (G q).1 = s) (hf : f ≠ 120) (h22 : f ≠ 22) (hag : ag (cV I' R Q s) W) : cPo R Q G s I I' A A W := ⟨rfl, fun b => by rw [h]; exact g_up_ne1 _ _ (fun e => h22 e.symm), cFr.up hq hf h, hag⟩
/-- .. and with it -/
def cPe (R : Nat → Nat → Option Nat) (Q : Nat → Int → Option Nat) (G : Nat → Nat × Int) (s ev kq nq : Nat) (I I' : Nat → Nat → Int) (A A' : Nat → Int → Int) (W : Int → Int) : Prop := cFr G s I I' A A' ∧ ag (cV I' R Q s) W ∧ cE I' A' ev kq nq W
theorem cPo.ev {R : Nat → Nat → Option Nat} {Q : Nat → Int → Option Nat} {G : Nat → Nat × Int} {s ev kq nq : Nat} {I I1 I2 : Nat → Nat → Int} {A A1 A2 : Nat → Int → Int} {W : Int → Int} {k n : Int} (h1 : cPo R Q G s I I1 A A1 W) (he : iE W) (hg : (G ev).1 = s ∧ (G kq).1 = s ∧ (G nq).1 = s) (h2 : ∃ z : Int, I2 = g_up I1 22 ev z) (h3 : ∀ q, q ≠ kq → q ≠ nq → A2 q = A1 q) (h4 : cE I2 A2 ev kq nq (sHap W k n)) : cPe R Q G s ev kq nq I I2 A A2 (sHap W k n) := by
  obtain ⟨a1, a2, a3, a4⟩ := h1
  subst a1
  obtain ⟨z, hz⟩ := h2
  refine ⟨a3.trans ⟨fun f q hq => by rw [hz]; exact g_up_ne2 _ _ (fun e => hq (by rw [e]; exact hg.1)), fun q => by rw [hz]; exact g_up_ne1 _ _ (by omega), fun q hq => h3 q (fun e => hq (by rw [e]; exact hg.2.1)) (fun e => hq (by rw [e]; exact hg.2.2))⟩, ?_, h4⟩
  rw [cV_22 hz]
  exact a4.hap he k n
set_option maxHeartbeats 1000000 in
set_option maxRecDepth 100000 in
theorem lp_S_addToBench {Y : gEnv} {X : gCtx} {K N : Nat → Nat} {I : Nat → Nat → Int} {A : Nat → Int → Int} {R : Nat → Nat → Option Nat} {Q : Nat → Int → Option Nat} {po : gPo} {px : gPx} {s : Nat} {G : Nat → Nat × Int} {W : Int → Int} (hsh : cSh K N R Q G s) (hag : ag (cV I R Q s) W) (g sh t h i : Int) (hi : 0 ≤ i ∧ i < W 1613) (h80 : W 1613 ≤ 80) (hP : iPi W) (hpo : ∀ I', cPo R Q G s I I' A A (sLayAt W i t h) → po none K N I' A R Q) : gJ Y X yX10_addToBench cX10_addToBench 6 none ({ frames := 2, cells := 0, slots := 0, locals := 45 } : Room) po px 0 0 59 [(0, .ref s), (1, vi g), (2, vi sh), (3, vi t), (4, vi h), (5, vi i)] [] K N I A R Q := by
  obtain ⟨hKs, hGs, ⟨zg1, zg2, zg3, zg4, zg5⟩, ⟨zq1, zq2, zq3, zq4, zq5⟩, ⟨zp1, zp2, zp3, zp4, zp5⟩, ⟨zl1, zl2, zl3, zl4, zl5⟩, ⟨zd1, zd2, zd3, zd4, zd5⟩⟩ := id hsh
  have c88 : I 166 s = W 88 := ar_166 hag
  have c89 : I 167 s = W 89 := ar_167 hag
  have c10 : I 171 s = W 1610 := ar_171 hag
  have c11 : I 172 s = W 1611 := ar_172 hag
  have c12 : I 173 s = W 1612 := ar_173 hag
  have c13 : I 168 s = W 1613 := ar_168 hag
  have c14 : I 169 s = W 1614 := ar_169 hag
  have c15 : I 170 s = W 1615 := ar_170 hag
  refine g_aload_n dX10_addToBench_59 rfl rfl ?_
  refine g_iload dX10_addToBench_60 rfl ?_
  refine g_callVp (i := 8) rfl (gK0 (by assumption)) (g_at8 (by assumption)) (k_S_hasPile Y hsh hag hP i (by omega)) u_X10_hasPile mw_606 dX10_addToBench_62 rfl rfl ⟨Nat.le_of_ble_eq_true rfl, Nat.le_of_ble_eq_true rfl⟩ ⟨Nat.le_of_ble_eq_true rfl, Nat.le_of_ble_eq_true rfl⟩ (Nat.le_of_ble_eq_true rfl) ?_
  have b62 := ifd (0 ≤ i ∧ i < W 1613)
  generalize (if 0 ≤ i ∧ i < W 1613 then (1 : Int) else 0) = z62 at b62 ⊢
  skip
  refine g_if_eq (tgt := 101) dX10_addToBench_65 (by decide) (by omega) (fun c_65 => ?_) (fun c_65 => ?_)
  · first
    | (exfalso; omega)
    | (have v98 := cu_103 hsh (by omega) (by omega) hI98
       have o98 : cPo R Q G s I81 I98 A A _ := cPo.up hI98 (by rw [zpc]) (by decide) (by decide) (by rw [v98]; exact g81.put (by omega))
       exact g_vret dX10_addToBench_101 rfl (by decide) (by decide) (hpo _ (o81.trans o98)))
  · refine g_aload_n dX10_addToBench_68 rfl rfl ?_
    refine g_get_State_piles dX10_addToBench_69 mw_208 (by assumption) (by assumption) ?_
    refine g_iload dX10_addToBench_72 rfl ?_
    obtain ⟨zpa, zpb, zpc⟩ := zp5 i (by omega) (by omega)
    refine g_aald_Pile dX10_addToBench_74 (by assumption) (by omega) (by omega) (by assumption) ?_
    refine g_dup dX10_addToBench_75 rfl ?_
    refine g_get_Pile_tiles dX10_addToBench_76 mw_138 (by assumption) ?_
    rw [ar_102 hag (i := i) (by omega) (by omega) (by omega)]
    refine g_iload_n dX10_addToBench_79 rfl rfl ?_
    refine g_iadd dX10_addToBench_80 ?_
    refine g_put_Pile_tiles dX10_addToBench_81 mw_138 (by assumption) (fun I81 hI81 => ?_)
    have v81 := cu_102 hsh (by omega) (by omega) hI81
    have g81 : ag (cV I81 R Q s) (sU W (250 + i) (W (250 + i) + t)) := by rw [v81]; exact hag.put (by omega)
    have o81 : cPo R Q G s I I81 A A _ := cPo.up hI81 (by rw [zpc]) (by decide) (by decide) g81
    refine g_aload_n dX10_addToBench_84 rfl rfl ?_
    refine g_get_State_piles dX10_addToBench_85 mw_208 (by assumption) (by assumption) ?_
    refine g_iload dX10_addToBench_88 rfl ?_
    obtain ⟨zpa, zpb, zpc⟩ := zp5 i (by omega) (by omega)
    refine g_aald_Pile dX10_addToBench_90 (by assumption) (by omega) (by omega) (by assumption) ?_
    refine g_dup dX10_addToBench_91 rfl ?_
    refine g_get_Pile_hidden dX10_addToBench_92 mw_140 (by assumption) ?_
    rw [ar_103 g81 (i := i) (by omega) (by rw [sU_ne _ _ (by omega)]; omega) (by rw [sU_ne _ _ (by omega)]; omega)]
    refine g_iload dX10_addToBench_95 rfl ?_
    refine g_iadd dX10_addToBench_97 ?_
    refine g_put_Pile_hidden dX10_addToBench_98 mw_140 (by assumption) (fun I98 hI98 => ?_)
    first
    | (exfalso; omega)
    | (have v98 := cu_103 hsh (by omega) (by omega) hI98
       have o98 : cPo R Q G s I81 I98 A A _ := cPo.up hI98 (by rw [zpc]) (by decide) (by decide) (by rw [v98]; exact g81.put (by omega))
       exact g_vret dX10_addToBench_101 rfl (by decide) (by decide) (hpo _ (o81.trans o98)))
set_option maxHeartbeats 1000000 in
set_option maxRecDepth 100000 in
theorem k_S_addToBench (Y : gEnv) {K N : Nat → Nat} {I : Nat → Nat → Int} {A : Nat → Int → Int} {R : Nat → Nat → Option Nat} {Q : Nat → Int → Option Nat} {s : Nat} {G : Nat → Nat × Int} {W : Int → Int} (hsh : cSh K N R Q G s) (hag : ag (cV I R Q s) W) (hP : iPi W) (g sh t h : Int) (hg : 0 ≤ g ∧ g ≤ 3) (hs : 0 ≤ sh ∧ sh ≤ 19) (ht : 0 ≤ t ∧ t ≤ 100) (hh : 0 ≤ h ∧ h ≤ t) : gC Y yX10_addToBench cX10_addToBench 6 none ({ frames := 2, cells := 0, slots := 0, locals := 45 } : Room) [.ref s, vi g, vi sh, vi t, vi h] K N I A R Q (g_wr K N R Q (fun v I' A' => v = none ∧ cPo R Q G s I I' A A' (if t = 0 then W else sLay W g sh t h))) gno := by
  refine gC_of (by decide) (Nat.le_of_ble_eq_true rfl) (fun X => ?_)
  obtain ⟨hKs, hGs, ⟨zg1, zg2, zg3, zg4, zg5⟩, ⟨zq1, zq2, zq3, zq4, zq5⟩, ⟨zp1, zp2, zp3, zp4, zp5⟩, ⟨zl1, zl2, zl3, zl4, zl5⟩, ⟨zd1, zd2, zd3, zd4, zd5⟩⟩ := id hsh
  have c88 : I 166 s = W 88 := ar_166 hag
  have c89 : I 167 s = W 89 := ar_167 hag
  have c10 : I 171 s = W 1610 := ar_171 hag
  have c11 : I 172 s = W 1611 := ar_172 hag
  have c12 : I 173 s = W 1612 := ar_173 hag
  have c13 : I 168 s = W 1613 := ar_168 hag
  have c14 : I 169 s = W 1614 := ar_169 hag
  have c15 : I 170 s = W 1615 := ar_170 hag
  have n13 : 0 ≤ W 1613 ∧ W 1613 ≤ 80 := ⟨hP.1, hP.2.1⟩
  have nP := hP.2.2.1
  refine g_iload_n dX10_addToBench_0 rfl rfl ?_
  refine g_if_ne (tgt := 5) dX10_addToBench_1 (by decide) (by omega) (fun c_1 => ?_) (fun c_1 => ?_)
  · refine g_aload_n dX10_addToBench_5 rfl rfl ?_
    refine g_iload_n dX10_addToBench_6 rfl rfl ?_
    refine g_iload_n dX10_addToBench_7 rfl rfl ?_
    refine g_callVp (i := 8) rfl (gK0 (by assumption)) (g_at8 (by assumption)) (k_S_indexOfPile Y hsh hag hP g sh (by omega) (by omega)) u_X10_indexOfPile mw_594 dX10_addToBench_8 rfl rfl ⟨Nat.le_of_ble_eq_true rfl, Nat.le_of_ble_eq_true rfl⟩ ⟨Nat.le_of_ble_eq_true rfl, Nat.le_of_ble_eq_true rfl⟩ (Nat.le_of_ble_eq_true rfl) ?_
    have hx := sIx_sLx (P := sLayP W g sh) (W 1613).toNat 0 (by omega)
    have hlr := sLayI_range hP.1 g sh
    have hx2 : sLx (sLayP W g sh) (W 1613).toNat 0 = sLayI W g sh := rfl
    rw [hx2] at hx
    generalize hgx : sIx (sLayP W g sh) (W 1613).toNat 0 = x at hx ⊢
    refine g_istore dX10_addToBench_11 (by decide) ?_
    refine g_iload dX10_addToBench_13 rfl ?_
    refine g_iconst dX10_addToBench_15 ?_
    refine g_icmp_ne (tgt := 59) dX10_addToBench_16 (by decide) (by omega) (by omega) (fun c_16 => ?_) (fun c_16 => ?_)
    · first
      | exact g_locs (by exact ⟨rfl, rfl, rfl, rfl, rfl, rfl, trivial⟩) (lp_S_addToBench hsh g56 g sh t h (W 1613) (by rw [w13]; omega) (by rw [w13]; omega) hPn (fun I' q => ⟨rfl, rfl, rfl, rfl, rfl, by
          have e2 : sLayI W g sh = W 1613 := by omega
          rw [if_neg (by omega), sLay, e2, if_pos rfl]
          exact o56.trans q⟩))
      | exact g_locs (by exact ⟨rfl, rfl, rfl, rfl, rfl, rfl, trivial⟩) (lp_S_addToBench hsh hag g sh t h x (by omega) (by omega) hP (fun I' q => ⟨rfl, rfl, rfl, rfl, rfl, by
          have e2 : sLayI W g sh = x := by omega
          rw [if_neg (by omega), sLay, e2, if_neg (by omega)]
          exact q⟩))
      | (exfalso; have := sLay_new hP hg hs (by omega); omega)
    · refine g_aload_n dX10_addToBench_19 rfl rfl ?_
      refine g_get_State_pileCount dX10_addToBench_20 mw_219 (by assumption) ?_
      refine g_aload_n dX10_addToBench_23 rfl rfl ?_
      refine g_get_State_piles dX10_addToBench_24 mw_208 (by assumption) (by assumption) ?_
      refine g_alen_Pile dX10_addToBench_27 (by assumption) ?_
      refine g_icmp_ge (tgt := 59) dX10_addToBench_28 (by decide) (by omega) (by omega) (fun c_28 => ?_) (fun c_28 => ?_)
      · first
        | exact g_locs (by exact ⟨rfl, rfl, rfl, rfl, rfl, rfl, trivial⟩) (lp_S_addToBench hsh g56 g sh t h (W 1613) (by rw [w13]; omega) (by rw [w13]; omega) hPn (fun I' q => ⟨rfl, rfl, rfl, rfl, rfl, by
            have e2 : sLayI W g sh = W 1613 := by omega
            rw [if_neg (by omega), sLay, e2, if_pos rfl]
            exact o56.trans q⟩))
        | exact g_locs (by exact ⟨rfl, rfl, rfl, rfl, rfl, rfl, trivial⟩) (lp_S_addToBench hsh hag g sh t h x (by omega) (by omega) hP (fun I' q => ⟨rfl, rfl, rfl, rfl, rfl, by
            have e2 : sLayI W g sh = x := by omega
            rw [if_neg (by omega), sLay, e2, if_neg (by omega)]
            exact q⟩))
        | (exfalso; have := sLay_new hP hg hs (by omega); omega)
      · refine g_aload_n dX10_addToBench_31 rfl rfl ?_
        have hnew := sLay_new hP hg hs (by omega)
        refine g_get_State_pileCount dX10_addToBench_32 mw_219 (by assumption) ?_
        rw [c13]
        refine g_istore dX10_addToBench_35 (by decide) ?_
        refine g_aload_n dX10_addToBench_37 rfl rfl ?_
        refine g_dup dX10_addToBench_38 rfl ?_
        refine g_get_State_pileCount dX10_addToBench_39 mw_219 (by assumption) ?_
        refine g_iconst dX10_addToBench_42 ?_
        refine g_iadd dX10_addToBench_43 ?_
        refine g_put_State_pileCount dX10_addToBench_44 mw_219 (by assumption) (fun I44 hI44 => ?_)
        have v44 := cu_168 hsh hI44
        refine g_aload_n dX10_addToBench_47 rfl rfl ?_
        refine g_get_State_piles dX10_addToBench_48 mw_208 (by assumption) (by assumption) ?_
        refine g_iload dX10_addToBench_51 rfl ?_
        obtain ⟨zpa, zpb, zpc⟩ := zp5 (W 1613) (by omega) (by omega)
        refine g_aald_Pile dX10_addToBench_53 (by assumption) (by omega) (by omega) (by assumption) ?_
        refine g_iload_n dX10_addToBench_54 rfl rfl ?_
        refine g_iload_n dX10_addToBench_55 rfl rfl ?_
        refine g_callVw (i := 5) rfl (gK0 (by assumption)) (g_at5 (by assumption)) (k_P_begin Y (by assumption) _ _) u_X7_begin mw_602 dX10_addToBench_56 rfl rfl ⟨Nat.le_of_ble_eq_true rfl, Nat.le_of_ble_eq_true rfl⟩ ⟨Nat.le_of_ble_eq_true rfl, Nat.le_of_ble_eq_true rfl⟩ (Nat.le_of_ble_eq_true rfl) (fun v56 I56 A56 h56 => ?_)
        obtain ⟨rfl, i56, a56⟩ := h56
        obtain rfl := a56.symm
        have v56 : cV I56 R Q s = sU (sU (sU (sU (sU (cV I R Q s) 1613 (W 1613 + 1)) (90 + W 1613) g) (170 + W 1613) sh) (250 + W 1613) 0) (330 + W 1613) 0 := by
          rw [cu_103 hsh (by omega) (by omega) i56, cu_102 hsh (by omega) (by omega) rfl, cu_101 hsh (by omega) (by omega) rfl, cu_100 hsh (by omega) (by omega) rfl, v44, c13]
        have hb13 : (W 1613 + 1 : Int) = W 1613 + 1 := rfl
        have w13 : sLayNew W (W 1613) g sh 1613 = W 1613 + 1 := by rw [sLayNew, sU_ne _ _ (by omega), sU_ne _ _ (by omega), sU_ne _ _ (by omega), sU_ne _ _ (by omega), sU_eq]
        have w14 : ∀ j, j = 1614 ∨ j = 1615 → sLayNew W (W 1613) g sh j = W j := fun j hj => by rw [sLayNew, sU_ne _ _ (by omega), sU_ne _ _ (by omega), sU_ne _ _ (by omega), sU_ne _ _ (by omega), sU_ne _ _ (by omega)]
        have g56 : ag (cV I56 R Q s) (sLayNew W (W 1613) g sh) := by
          rw [v56]
          simp only [ag]
          rw [w13, w14 _ (Or.inl rfl), w14 _ (Or.inr rfl)]
          exact (((((agP.put hag 1613 (W 1613 + 1)).put (90 + W 1613) g).put (170 + W 1613) sh).put (250 + W 1613) 0).put (330 + W 1613) 0).mono (fun j hj => by simp only [lv] at hj ⊢; omega)
        have o56 : cPo R Q G s I I56 A A (sLayNew W (W 1613) g sh) := by
          refine ⟨rfl, fun q => ?_, ?_, g56⟩
          · rw [i56, g_up_ne1 _ _ (by omega), g_up_ne1 _ _ (by omega), g_up_ne1 _ _ (by omega), g_up_ne1 _ _ (by omega), hI44, g_up_ne1 _ _ (by omega)]
          · exact ((((cFr.up (by rw [hGs]) (by decide) hI44).trans (cFr.up (by rw [zpc]) (by decide) rfl)).trans (cFr.up (by rw [zpc]) (by decide) rfl)).trans (cFr.up (by rw [zpc]) (by decide) rfl)).trans (cFr.up (by rw [zpc]) (by decide) i56)
        have hPn : iPi (sLayNew W (W 1613) g sh) := by
          have := hP.lay hg hs (t := 0) (h := 0) (by omega)
          have e1 : sLay W g sh 0 0 = sLayNew W (W 1613) g sh := by
            have e2 : sLayI W g sh = W 1613 := by omega
            rw [sLay, e2, if_pos rfl, sLayAt, Int.add_zero, Int.add_zero, sU_id, sU_id]
          rw [← e1]
          exact this.2.2
        first
        | exact g_locs (by exact ⟨rfl, rfl, rfl, rfl, rfl, rfl, trivial⟩) (lp_S_addToBench hsh g56 g sh t h (W 1613) (by rw [w13]; omega) (by rw [w13]; omega) hPn (fun I' q => ⟨rfl, rfl, rfl, rfl, rfl, by
            have e2 : sLayI W g sh = W 1613 := by omega
            rw [if_neg (by omega), sLay, e2, if_pos rfl]
            exact o56.trans q⟩))
        | exact g_locs (by exact ⟨rfl, rfl, rfl, rfl, rfl, rfl, trivial⟩) (lp_S_addToBench hsh hag g sh t h x (by omega) (by omega) hP (fun I' q => ⟨rfl, rfl, rfl, rfl, rfl, by
            have e2 : sLayI W g sh = x := by omega
            rw [if_neg (by omega), sLay, e2, if_neg (by omega)]
            exact q⟩))
        | (exfalso; have := sLay_new hP hg hs (by omega); omega)
  · exact g_vret dX10_addToBench_4 rfl (by decide) (by decide) ⟨rfl, rfl, rfl, rfl, rfl, by rw [if_pos (by omega)]; exact ⟨rfl, fun _ => rfl, cFr.rfl, hag⟩⟩
set_option maxHeartbeats 1000000 in
set_option maxRecDepth 100000 in
theorem lp_S_addLoose {Y : gEnv} {X : gCtx} {K N : Nat → Nat} {I : Nat → Nat → Int} {A : Nat → Int → Int} {R : Nat → Nat → Option Nat} {Q : Nat → Int → Option Nat} {po : gPo} {px : gPx} {s : Nat} {G : Nat → Nat × Int} {W : Int → Int} (hsh : cSh K N R Q G s) (hag : ag (cV I R Q s) W) (g sh r t h i : Int) (hi : 0 ≤ i ∧ i < W 1614) (h160 : W 1614 ≤ 160) (hL : iL W) (hpo : ∀ I', cPo R Q G s I I' A A (sAddAt W i t h) → po none K N I' A R Q) : gJ Y X yX10_addLoose cX10_addLoose 7 none ({ frames := 2, cells := 0, slots := 0, locals := 46 } : Room) po px 0 0 62 [(0, .ref s), (1, vi g), (2, vi sh), (3, vi r), (4, vi t), (5, vi h), (6, vi i)] [] K N I A R Q := by
  obtain ⟨hKs, hGs, ⟨zg1, zg2, zg3, zg4, zg5⟩, ⟨zq1, zq2, zq3, zq4, zq5⟩, ⟨zp1, zp2, zp3, zp4, zp5⟩, ⟨zl1, zl2, zl3, zl4, zl5⟩, ⟨zd1, zd2, zd3, zd4, zd5⟩⟩ := id hsh
  have c88 : I 166 s = W 88 := ar_166 hag
  have c89 : I 167 s = W 89 := ar_167 hag
  have c10 : I 171 s = W 1610 := ar_171 hag
  have c11 : I 172 s = W 1611 := ar_172 hag
  have c12 : I 173 s = W 1612 := ar_173 hag
  have c13 : I 168 s = W 1613 := ar_168 hag
  have c14 : I 169 s = W 1614 := ar_169 hag
  have c15 : I 170 s = W 1615 := ar_170 hag
  refine g_aload_n dX10_addLoose_62 rfl rfl ?_
  refine g_iload dX10_addLoose_63 rfl ?_
  refine g_callVp (i := 8) rfl (gK0 (by assumption)) (g_at8 (by assumption)) (k_S_hasLot Y hsh hag hL i (by omega)) u_X10_hasLot mw_650 dX10_addLoose_65 rfl rfl ⟨Nat.le_of_ble_eq_true rfl, Nat.le_of_ble_eq_true rfl⟩ ⟨Nat.le_of_ble_eq_true rfl, Nat.le_of_ble_eq_true rfl⟩ (Nat.le_of_ble_eq_true rfl) ?_
  have b65 := ifd (0 ≤ i ∧ i < W 1614)
  generalize (if 0 ≤ i ∧ i < W 1614 then (1 : Int) else 0) = z65 at b65 ⊢
  refine g_if_eq (tgt := 105) dX10_addLoose_68 (by decide) (by omega) (fun c_68 => ?_) (fun c_68 => ?_)
  · first
    | (exfalso; omega)
    | (have v102 := cu_85 hsh (by omega) (by omega) hI102
       have o102 : cPo R Q G s I85 I102 A A _ := cPo.up hI102 (by rw [zlc]) (by decide) (by decide) (by rw [v102]; exact g85.put (by omega))
       exact g_vret dX10_addLoose_105 rfl (by decide) (by decide) (hpo _ (o85.trans o102)))
  · refine g_aload_n dX10_addLoose_71 rfl rfl ?_
    refine g_get_State_lots dX10_addLoose_72 mw_209 (by assumption) (by assumption) ?_
    refine g_iload dX10_addLoose_75 rfl ?_
    obtain ⟨zla, zlb, zlc⟩ := zl5 i (by omega) (by omega)
    refine g_aald_Lot dX10_addLoose_77 (by assumption) (by omega) (by omega) (by assumption) ?_
    refine g_dup dX10_addLoose_78 rfl ?_
    refine g_get_Lot_loose dX10_addLoose_79 mw_160 (by assumption) ?_
    rw [ar_83 hag (i := i) (by omega) (by omega) (by omega)]
    refine g_iload dX10_addLoose_82 rfl ?_
    refine g_iadd dX10_addLoose_84 ?_
    refine g_put_Lot_loose dX10_addLoose_85 mw_160 (by assumption) (fun I85 hI85 => ?_)
    have v85 := cu_83 hsh (by omega) (by omega) hI85
    have g85 : ag (cV I85 R Q s) (sU W (890 + i) (W (890 + i) + t)) := by rw [v85]; exact hag.put (by omega)
    have o85 : cPo R Q G s I I85 A A _ := cPo.up hI85 (by rw [zlc]) (by decide) (by decide) g85
    refine g_aload_n dX10_addLoose_88 rfl rfl ?_
    refine g_get_State_lots dX10_addLoose_89 mw_209 (by assumption) (by assumption) ?_
    refine g_iload dX10_addLoose_92 rfl ?_
    obtain ⟨zla, zlb, zlc⟩ := zl5 i (by omega) (by omega)
    refine g_aald_Lot dX10_addLoose_94 (by assumption) (by omega) (by omega) (by assumption) ?_
    refine g_dup dX10_addLoose_95 rfl ?_
    refine g_get_Lot_hidden dX10_addLoose_96 mw_164 (by assumption) ?_
    rw [ar_85 g85 (i := i) (by omega) (by rw [sU_ne _ _ (by omega)]; omega) (by rw [sU_ne _ _ (by omega)]; omega)]
    refine g_iload dX10_addLoose_99 rfl ?_
    refine g_iadd dX10_addLoose_101 ?_
    refine g_put_Lot_hidden dX10_addLoose_102 mw_164 (by assumption) (fun I102 hI102 => ?_)
    first
    | (exfalso; omega)
    | (have v102 := cu_85 hsh (by omega) (by omega) hI102
       have o102 : cPo R Q G s I85 I102 A A _ := cPo.up hI102 (by rw [zlc]) (by decide) (by decide) (by rw [v102]; exact g85.put (by omega))
       exact g_vret dX10_addLoose_105 rfl (by decide) (by decide) (hpo _ (o85.trans o102)))
theorem iL.addNew {W : Int → Int} (hL : iL W) (hZ : iZ W) (hb : 0 ≤ W 89) {g s r x : Int} (hg : 0 ≤ g ∧ g ≤ 3) (hs : 0 ≤ s ∧ s ≤ 19) (hr : 1 ≤ r ∧ r ≤ 2) (hx : sFind W g s r = x) (hx1 : x = -1) : iL (sAddNew W (W 1614) g s r) := by
  have h1 := hL.1
  have h160 := sFind_new hL hg hs hr (hx.trans hx1)
  have hno := sFind_none h1 (hx.trans hx1)
  have e14 : sAddNew W (W 1614) g s r 1614 = W 1614 + 1 := by rw [sAddNew, sU_ne _ _ (by omega), sU_ne _ _ (by omega), sU_ne _ _ (by omega), sU_eq]
  have ea : sAddNew W (W 1614) g s r (410 + W 1614) = g := by rw [sAddNew, sU_ne _ _ (by omega), sU_ne _ _ (by omega), sU_eq]
  have eb : sAddNew W (W 1614) g s r (570 + W 1614) = s := by rw [sAddNew, sU_ne _ _ (by omega), sU_eq]
  have ec : sAddNew W (W 1614) g s r (730 + W 1614) = r := by rw [sAddNew, sU_eq]
  have eo : ∀ j, j ≠ 1614 → j ≠ 410 + W 1614 → j ≠ 570 + W 1614 → j ≠ 730 + W 1614 → sAddNew W (W 1614) g s r j = W j := fun j a b c d => by rw [sAddNew, sU_ne _ _ d, sU_ne _ _ c, sU_ne _ _ b, sU_ne _ _ a]
  generalize sAddNew W (W 1614) g s r = w' at *
  obtain ⟨-, h2, h3, h4⟩ := hL
  refine ⟨by omega, by omega, fun l a b => ?_, fun l m a b c => ?_⟩
  · have ect : sContent w' l = sContent W l := by simp only [sContent]; rw [eo (890 + l) (by omega) (by omega) (by omega) (by omega), eo (1050 + l) (by omega) (by omega) (by omega) (by omega), eo 89 (by omega) (by omega) (by omega) (by omega)]
    rw [ect, eo (890 + l) (by omega) (by omega) (by omega) (by omega), eo (1050 + l) (by omega) (by omega) (by omega) (by omega), eo (1210 + l) (by omega) (by omega) (by omega) (by omega)]
    by_cases e : l = W 1614
    · obtain ⟨z1, z2, z3⟩ := hZ (W 1614) (by omega) h160
      rw [e, ea, eb, ec, z1, z2, z3]
      simp only [sContent]
      rw [z1, z2, Int.zero_mul]
      omega
    · rw [eo (410 + l) (by omega) (by omega) (by omega) (by omega), eo (570 + l) (by omega) (by omega) (by omega) (by omega), eo (730 + l) (by omega) (by omega) (by omega) (by omega)]
      exact h3 l a (by omega)
  · rw [eo (410 + l) (by omega) (by omega) (by omega) (by omega), eo (570 + l) (by omega) (by omega) (by omega) (by omega), eo (730 + l) (by omega) (by omega) (by omega) (by omega)]
    by_cases e : m = W 1614
    · rw [e, ea, eb, ec]
      exact hno l a (by omega)
    · rw [eo (410 + m) (by omega) (by omega) (by omega) (by omega), eo (570 + m) (by omega) (by omega) (by omega) (by omega), eo (730 + m) (by omega) (by omega) (by omega) (by omega)]
      exact h4 l m a b (by omega)
set_option maxHeartbeats 1000000 in
set_option maxRecDepth 100000 in
theorem k_S_addLoose (Y : gEnv) {K N : Nat → Nat} {I : Nat → Nat → Int} {A : Nat → Int → Int} {R : Nat → Nat → Option Nat} {Q : Nat → Int → Option Nat} {s : Nat} {G : Nat → Nat × Int} {W : Int → Int} (hsh : cSh K N R Q G s) (hag : ag (cV I R Q s) W) (hL : iL W) (hZ : iZ W) (hb89 : 0 ≤ W 89) (g sh r t h : Int) (hg : 0 ≤ g ∧ g ≤ 3) (hs : 0 ≤ sh ∧ sh ≤ 19) (hr : 1 ≤ r ∧ r ≤ 2) (ht : 0 ≤ t ∧ t ≤ 10000000) (hh : 0 ≤ h ∧ h ≤ t) : gC Y yX10_addLoose cX10_addLoose 7 none ({ frames := 2, cells := 0, slots := 0, locals := 46 } : Room) [.ref s, vi g, vi sh, vi r, vi t, vi h] K N I A R Q (g_wr K N R Q (fun v I' A' => v = none ∧ cPo R Q G s I I' A A' (sAdd W g sh r t h))) gno := by
  refine gC_of (by decide) (Nat.le_of_ble_eq_true rfl) (fun X => ?_)
  obtain ⟨hKs, hGs, ⟨zg1, zg2, zg3, zg4, zg5⟩, ⟨zq1, zq2, zq3, zq4, zq5⟩, ⟨zp1, zp2, zp3, zp4, zp5⟩, ⟨zl1, zl2, zl3, zl4, zl5⟩, ⟨zd1, zd2, zd3, zd4, zd5⟩⟩ := id hsh
  have c88 : I 166 s = W 88 := ar_166 hag
  have c89 : I 167 s = W 89 := ar_167 hag
  have c10 : I 171 s = W 1610 := ar_171 hag
  have c11 : I 172 s = W 1611 := ar_172 hag
  have c12 : I 173 s = W 1612 := ar_173 hag
  have c13 : I 168 s = W 1613 := ar_168 hag
  have c14 : I 169 s = W 1614 := ar_169 hag
  have c15 : I 170 s = W 1615 := ar_170 hag
  have n14 : 0 ≤ W 1614 ∧ W 1614 ≤ 160 := ⟨hL.1, hL.2.1⟩
  have nL := hL.2.2.1
  refine g_iload dX10_addLoose_0 rfl ?_
  refine g_if_ne (tgt := 6) dX10_addLoose_2 (by decide) (by omega) (fun c_2 => ?_) (fun c_2 => ?_)
  · refine g_aload_n dX10_addLoose_6 rfl rfl ?_
    refine g_iload_n dX10_addLoose_7 rfl rfl ?_
    refine g_iload_n dX10_addLoose_8 rfl rfl ?_
    refine g_iload_n dX10_addLoose_9 rfl rfl ?_
    refine g_callVp (i := 8) rfl (gK0 (by assumption)) (g_at8 (by assumption)) (k_S_indexOfLot Y hsh hag hL g sh r (by omega) (by omega) (by omega)) u_X10_indexOfLot mw_638 dX10_addLoose_10 rfl rfl ⟨Nat.le_of_ble_eq_true rfl, Nat.le_of_ble_eq_true rfl⟩ ⟨Nat.le_of_ble_eq_true rfl, Nat.le_of_ble_eq_true rfl⟩ (Nat.le_of_ble_eq_true rfl) ?_
    have hfr := sFind_range hL.1 g sh r
    have hnw := sFind_new hL hg hs hr
    have hsm : ∀ y, sFind W g sh r = y → sFind W g sh r = y := fun _ h => h
    generalize hgx : sFind W g sh r = x at hfr hnw ⊢
    refine g_istore dX10_addLoose_13 (by decide) ?_
    refine g_iload dX10_addLoose_15 rfl ?_
    refine g_iconst dX10_addLoose_17 ?_
    refine g_icmp_ne (tgt := 62) dX10_addLoose_18 (by decide) (by omega) (by omega) (fun c_18 => ?_) (fun c_18 => ?_)
    · first
      | exact g_locs (by exact ⟨rfl, rfl, rfl, rfl, rfl, rfl, rfl, trivial⟩) (lp_S_addLoose hsh g59 g sh r t h (W 1614) (by rw [w14]; omega) (by rw [w14]; omega) hLn (fun I' q => ⟨rfl, rfl, rfl, rfl, rfl, by
          rw [sAdd, if_neg (by omega), if_pos (by omega)]
          exact o59.trans q⟩))
      | exact g_locs (by exact ⟨rfl, rfl, rfl, rfl, rfl, rfl, rfl, trivial⟩) (lp_S_addLoose hsh hag g sh r t h x (by omega) (by omega) hL (fun I' q => ⟨rfl, rfl, rfl, rfl, rfl, by
          rw [sAdd, if_neg (by omega), if_neg (by omega), hgx]
          exact q⟩))
      | (exfalso; have := hnw (by omega); omega)
    · refine g_aload_n dX10_addLoose_21 rfl rfl ?_
      refine g_get_State_lotCount dX10_addLoose_22 mw_220 (by assumption) ?_
      refine g_aload_n dX10_addLoose_25 rfl rfl ?_
      refine g_get_State_lots dX10_addLoose_26 mw_209 (by assumption) (by assumption) ?_
      refine g_alen_Lot dX10_addLoose_29 (by assumption) ?_
      refine g_icmp_ge (tgt := 62) dX10_addLoose_30 (by decide) (by omega) (by omega) (fun c_30 => ?_) (fun c_30 => ?_)
      · first
        | exact g_locs (by exact ⟨rfl, rfl, rfl, rfl, rfl, rfl, rfl, trivial⟩) (lp_S_addLoose hsh g59 g sh r t h (W 1614) (by rw [w14]; omega) (by rw [w14]; omega) hLn (fun I' q => ⟨rfl, rfl, rfl, rfl, rfl, by
            rw [sAdd, if_neg (by omega), if_pos (by omega)]
            exact o59.trans q⟩))
        | exact g_locs (by exact ⟨rfl, rfl, rfl, rfl, rfl, rfl, rfl, trivial⟩) (lp_S_addLoose hsh hag g sh r t h x (by omega) (by omega) hL (fun I' q => ⟨rfl, rfl, rfl, rfl, rfl, by
            rw [sAdd, if_neg (by omega), if_neg (by omega), hgx]
            exact q⟩))
        | (exfalso; have := hnw (by omega); omega)
      · refine g_aload_n dX10_addLoose_33 rfl rfl ?_
        refine g_get_State_lotCount dX10_addLoose_34 mw_220 (by assumption) ?_
        rw [c14]
        refine g_istore dX10_addLoose_37 (by decide) ?_
        refine g_aload_n dX10_addLoose_39 rfl rfl ?_
        refine g_dup dX10_addLoose_40 rfl ?_
        refine g_get_State_lotCount dX10_addLoose_41 mw_220 (by assumption) ?_
        refine g_iconst dX10_addLoose_44 ?_
        refine g_iadd dX10_addLoose_45 ?_
        refine g_put_State_lotCount dX10_addLoose_46 mw_220 (by assumption) (fun I46 hI46 => ?_)
        have v46 := cu_169 hsh hI46
        have hnew : W 1614 < 160 := hnw (by omega)
        refine g_aload_n dX10_addLoose_49 rfl rfl ?_
        refine g_get_State_lots dX10_addLoose_50 mw_209 (by assumption) (by assumption) ?_
        refine g_iload dX10_addLoose_53 rfl ?_
        obtain ⟨zla, zlb, zlc⟩ := zl5 (W 1614) (by omega) (by omega)
        refine g_aald_Lot dX10_addLoose_55 (by assumption) (by omega) (by omega) (by assumption) ?_
        refine g_iload_n dX10_addLoose_56 rfl rfl ?_
        refine g_iload_n dX10_addLoose_57 rfl rfl ?_
        refine g_iload_n dX10_addLoose_58 rfl rfl ?_
        refine g_callVw (i := 4) rfl (gK0 (by assumption)) (g_at4 (by assumption)) (k_L_begin Y (by assumption) _ _ _) u_X6_begin mw_646 dX10_addLoose_59 rfl rfl ⟨Nat.le_of_ble_eq_true rfl, Nat.le_of_ble_eq_true rfl⟩ ⟨Nat.le_of_ble_eq_true rfl, Nat.le_of_ble_eq_true rfl⟩ (Nat.le_of_ble_eq_true rfl) (fun v59 I59 A59 h59 => ?_)
        obtain ⟨rfl, i59, a59⟩ := h59
        obtain rfl := a59.symm
        have zz := hZ (W 1614) (by omega) hnew
        have v59 : cV I59 R Q s = sU (sU (sU (sU (sU (sU (sU (cV I R Q s) 1614 (W 1614 + 1)) (410 + W 1614) g) (570 + W 1614) sh) (730 + W 1614) r) (890 + W 1614) 0) (1050 + W 1614) 0) (1210 + W 1614) 0 := by
          rw [cu_85 hsh (by omega) (by omega) i59, cu_84 hsh (by omega) (by omega) rfl, cu_83 hsh (by omega) (by omega) rfl, cu_82 hsh (by omega) (by omega) rfl, cu_81 hsh (by omega) (by omega) rfl, cu_80 hsh (by omega) (by omega) rfl, v46, c14]
        have w14 : sAddNew W (W 1614) g sh r 1614 = W 1614 + 1 := by rw [sAddNew, sU_ne _ _ (by omega), sU_ne _ _ (by omega), sU_ne _ _ (by omega), sU_eq]
        have w15 : ∀ j, j = 1613 ∨ j = 1615 → sAddNew W (W 1614) g sh r j = W j := fun j hj => by rw [sAddNew, sU_ne _ _ (by omega), sU_ne _ _ (by omega), sU_ne _ _ (by omega), sU_ne _ _ (by omega)]
        have wz : sU (sU (sU (sAddNew W (W 1614) g sh r) (890 + W 1614) 0) (1050 + W 1614) 0) (1210 + W 1614) 0 = sAddNew W (W 1614) g sh r := by
          have q1 : sAddNew W (W 1614) g sh r (890 + W 1614) = 0 := by rw [sAddNew, sU_ne _ _ (by omega), sU_ne _ _ (by omega), sU_ne _ _ (by omega), sU_ne _ _ (by omega), zz.1]
          have q2 : sAddNew W (W 1614) g sh r (1050 + W 1614) = 0 := by rw [sAddNew, sU_ne _ _ (by omega), sU_ne _ _ (by omega), sU_ne _ _ (by omega), sU_ne _ _ (by omega), zz.2.1]
          have q3 : sAddNew W (W 1614) g sh r (1210 + W 1614) = 0 := by rw [sAddNew, sU_ne _ _ (by omega), sU_ne _ _ (by omega), sU_ne _ _ (by omega), sU_ne _ _ (by omega), zz.2.2]
          have p1 := sU_id (sAddNew W (W 1614) g sh r) (890 + W 1614)
          have p2 := sU_id (sAddNew W (W 1614) g sh r) (1050 + W 1614)
          have p3 := sU_id (sAddNew W (W 1614) g sh r) (1210 + W 1614)
          rw [q1] at p1
          rw [q2] at p2
          rw [q3] at p3
          rw [p1, p2, p3]
        have g59 : ag (cV I59 R Q s) (sAddNew W (W 1614) g sh r) := by
          rw [v59]
          simp only [ag]
          rw [w14, w15 _ (Or.inl rfl), w15 _ (Or.inr rfl), ← wz]
          exact (((((((agP.put hag 1614 (W 1614 + 1)).put (410 + W 1614) g).put (570 + W 1614) sh).put (730 + W 1614) r).put (890 + W 1614) 0).put (1050 + W 1614) 0).put (1210 + W 1614) 0).mono (fun j hj => by simp only [lv] at hj ⊢; omega)
        have o59 : cPo R Q G s I I59 A A (sAddNew W (W 1614) g sh r) := by
          refine ⟨rfl, fun q => ?_, ?_, g59⟩
          · rw [i59, g_up_ne1 _ _ (by omega), g_up_ne1 _ _ (by omega), g_up_ne1 _ _ (by omega), g_up_ne1 _ _ (by omega), g_up_ne1 _ _ (by omega), g_up_ne1 _ _ (by omega), hI46, g_up_ne1 _ _ (by omega)]
          · exact ((((((cFr.up (by rw [hGs]) (by decide) hI46).trans (cFr.up (by rw [zlc]) (by decide) rfl)).trans (cFr.up (by rw [zlc]) (by decide) rfl)).trans (cFr.up (by rw [zlc]) (by decide) rfl)).trans (cFr.up (by rw [zlc]) (by decide) rfl)).trans (cFr.up (by rw [zlc]) (by decide) rfl)).trans (cFr.up (by rw [zlc]) (by decide) i59)
        have hLn : iL (sAddNew W (W 1614) g sh r) := iL.addNew hL hZ hb89 hg hs hr hgx (by omega)
        first
        | exact g_locs (by exact ⟨rfl, rfl, rfl, rfl, rfl, rfl, rfl, trivial⟩) (lp_S_addLoose hsh g59 g sh r t h (W 1614) (by rw [w14]; omega) (by rw [w14]; omega) hLn (fun I' q => ⟨rfl, rfl, rfl, rfl, rfl, by
            rw [sAdd, if_neg (by omega), if_pos (by omega)]
            exact o59.trans q⟩))
        | exact g_locs (by exact ⟨rfl, rfl, rfl, rfl, rfl, rfl, rfl, trivial⟩) (lp_S_addLoose hsh hag g sh r t h x (by omega) (by omega) hL (fun I' q => ⟨rfl, rfl, rfl, rfl, rfl, by
            rw [sAdd, if_neg (by omega), if_neg (by omega), hgx]
            exact q⟩))
        | (exfalso; have := hnw (by omega); omega)
  · exact g_vret dX10_addLoose_5 rfl (by decide) (by decide) ⟨rfl, rfl, rfl, rfl, rfl, by rw [sAdd, if_pos (by omega)]; exact ⟨rfl, fun _ => rfl, cFr.rfl, hag⟩⟩
