theorem agP.get {D : Int → Prop} {V W : Int → Int} (h : agP D V W) (j : Int) : agP (fun k => k = j ∨ D k) (sU V j (W j)) W := fun k hk => by
  simp only [sU]
  by_cases e : k = j
  · rw [if_pos e, e]
  · rw [if_neg e]
    exact h k (hk.resolve_left e)
set_option maxHeartbeats 1000000 in
set_option maxRecDepth 100000 in
theorem k_E_copy (Y : gEnv) {K N : Nat → Nat} {I : Nat → Nat → Int} {A : Nat → Int → Int} {R : Nat → Nat → Option Nat} {Q : Nat → Int → Option Nat} {ev kq nq eb kb nb : Nat} (hKe : K ev = 2) (hR1 : R 20 ev = some kq) (hR2 : R 21 ev = some nq) (hK1 : K kq = 13) (hN1 : N kq = 20) (hK2 : K nq = 13) (hN2 : N nq = 20) (hne : kq ≠ nq) (hKb : K eb = 2) (hB1 : R 20 eb = some kb) (hB2 : R 21 eb = some nb) (hK3 : K kb = 13) (hN3 : N kb = 20) (hK4 : K nb = 13) (hN4 : N nb = 20) (hx1 : kb ≠ kq) (hx2 : nb ≠ kq) {W : Int → Int} (hE : cE I A eb kb nb W) (hiE : iE W) : gC Y yX2_copyFrom cX2_copyFrom 2 none ({ frames := 1, cells := 0, slots := 0, locals := 120 } : Room) [.ref ev, .ref eb] K N I A R Q (g_wr K N R Q (fun v I' A' => v = none ∧ (∃ z : Int, I' = g_up I 22 ev z) ∧ (∀ q, q ≠ kq → q ≠ nq → A' q = A q) ∧ cE I' A' ev kq nq W)) gno := by
  refine gC_of (by decide) (Nat.le_of_ble_eq_true rfl) (fun X => ?_)
  obtain ⟨i0, i20⟩ := hiE
  obtain ⟨hE1, hE2⟩ := hE
  refine g_aload_n dX2_copyFrom_0 rfl rfl ?_
  refine g_get_EventLog_kinds dX2_copyFrom_1 mw_74 (by assumption) (by assumption) ?_
  refine g_iconst dX2_copyFrom_4 ?_
  refine g_aload_n dX2_copyFrom_5 rfl rfl ?_
  refine g_get_EventLog_kinds dX2_copyFrom_6 mw_74 (by assumption) (by assumption) ?_
  refine g_iconst dX2_copyFrom_9 ?_
  refine g_bipush dX2_copyFrom_10 (by decide) ?_
  refine g_copyi dX2_copyFrom_12 mw_463 (by assumption) (by assumption) (by omega) (by omega) (by omega) (by omega) (by omega) (by omega) (by omega) (by decide) (by decide) (fun A12 hA12 => ?_)
  refine g_aload_n dX2_copyFrom_15 rfl rfl ?_
  refine g_get_EventLog_numbers dX2_copyFrom_16 mw_75 (by assumption) (by assumption) ?_
  refine g_iconst dX2_copyFrom_19 ?_
  refine g_aload_n dX2_copyFrom_20 rfl rfl ?_
  refine g_get_EventLog_numbers dX2_copyFrom_21 mw_75 (by assumption) (by assumption) ?_
  refine g_iconst dX2_copyFrom_24 ?_
  refine g_bipush dX2_copyFrom_25 (by decide) ?_
  refine g_copyi dX2_copyFrom_27 mw_463 (by assumption) (by assumption) (by omega) (by omega) (by omega) (by omega) (by omega) (by omega) (by omega) (by decide) (by decide) (fun A27 hA27 => ?_)
  refine g_aload_n dX2_copyFrom_30 rfl rfl ?_
  refine g_aload_n dX2_copyFrom_31 rfl rfl ?_
  refine g_get_EventLog_count dX2_copyFrom_32 mw_76 (by assumption) ?_
  refine g_put_EventLog_count dX2_copyFrom_35 mw_76 (by assumption) (fun I35 hI35 => ?_)
  exact g_vret dX2_copyFrom_38 rfl (by decide) (by decide) ⟨rfl, rfl, rfl, rfl, rfl, ⟨_, hI35⟩, fun q h1 h2 => by
      rw [hA27, hA12]
      funext j
      simp only [g_rw]
      rw [if_neg h2, if_neg h1], by
      refine ⟨by rw [hI35, g_up_eq]; exact hE1, fun i a b => ?_⟩
      obtain ⟨w1, w2⟩ := hE2 i a b
      rw [hA27, hA12]
      simp only [g_rw, if_true, if_neg hne, if_neg hx2, g_cpy]
      rw [if_pos (by omega), if_pos (by omega), show (0 : Int) + (i - 0) = i by omega]
      exact ⟨w1, w2⟩⟩
set_option maxHeartbeats 1000000 in
set_option maxRecDepth 100000 in
theorem lp_S_copyg {Y : gEnv} {X : gCtx} {K N : Nat → Nat} {I : Nat → Nat → Int} {A : Nat → Int → Int} {R : Nat → Nat → Option Nat} {Q : Nat → Int → Option Nat} {po : gPo} {px : gPx} {I0 : Nat → Nat → Int} {s b : Nat} {G : Nat → Nat × Int} {W : Int → Int} (hsb : b ≠ s) (hsh : cSh K N R Q G s) (hshb : cSh K N R Q G b) (hagb : ag (cV I0 R Q b) W) (D : Int → Prop) (kx : ∀ (I' : Nat → Nat → Int) (L : List (Nat × Value)), cFr G s I0 I' A A → (∀ q, I' 22 q = I0 22 q) → agP (fun j => D j ∨ (0 ≤ j ∧ j < 16 ∧ (j - 0) % 4 < 4)) (cV I' R Q s) W → gJ Y X yX10_copyFrom cX10_copyFrom 3 none ({ frames := 2, cells := 0, slots := 0, locals := 141 } : Room) po px 0 0 32 [(0, .ref s), (1, .ref b)] [] K N I' A R Q) : ∀ (f m : Nat) (i : Int), m < f → 0 ≤ i → i + m = 4 → cFr G s I0 I A A → (∀ q, I 22 q = I0 22 q) → agP (fun j => D j ∨ (0 ≤ j ∧ j < 16 ∧ (j - 0) % 4 < i)) (cV I R Q s) W → gJ Y X yX10_copyFrom cX10_copyFrom 3 none ({ frames := 2, cells := 0, slots := 0, locals := 141 } : Room) po px 0 0 2 [(0, .ref s), (1, .ref b), (2, vi i)] [] K N I A R Q := by
  obtain ⟨hKs, hGs, ⟨zg1, zg2, zg3, zg4, zg5⟩, ⟨zq1, zq2, zq3, zq4, zq5⟩, ⟨zp1, zp2, zp3, zp4, zp5⟩, ⟨zl1, zl2, zl3, zl4, zl5⟩, ⟨zd1, zd2, zd3, zd4, zd5⟩⟩ := id hsh
  obtain ⟨hKb, hGb, ⟨yg1, yg2, yg3, yg4, yg5⟩, ⟨yq1, yq2, yq3, yq4, yq5⟩, ⟨yp1, yp2, yp3, yp4, yp5⟩, ⟨yl1, yl2, yl3, yl4, yl5⟩, ⟨yd1, yd2, yd3, yd4, yd5⟩⟩ := id hshb
  intro f
  induction f generalizing I with
  | zero => intro m i h; omega
  | succ f ih =>
  intro m i hf hi hm hfr h22 hag
  have hagI : ag (cV I R Q b) W := by rw [hshb.fr hsb hfr]; exact hagb
  refine g_iload_n dX10_copyFrom_2 rfl rfl ?_
  refine g_aload_n dX10_copyFrom_3 rfl rfl ?_
  refine g_get_State_glazes dX10_copyFrom_4 mw_204 (by assumption) (by assumption) ?_
  refine g_alen_Glaze dX10_copyFrom_7 (by assumption) ?_
  refine g_icmp_ge (tgt := 32) dX10_copyFrom_8 (by decide) (by omega) (by omega) (fun c_8 => ?_) (fun c_8 => ?_)
  · have e : i = 4 := by omega
    rw [e] at hag
    exact g_locs (by exact ⟨rfl, rfl, trivial⟩) (kx I [] hfr h22 hag)
  · refine g_aload_n dX10_copyFrom_11 rfl rfl ?_
    refine g_get_State_glazes dX10_copyFrom_12 mw_204 (by assumption) (by assumption) ?_
    refine g_iload_n dX10_copyFrom_15 rfl rfl ?_
    obtain ⟨zga, zgb, zgc⟩ := zg5 i (by omega) (by omega)
    refine g_aald_Glaze dX10_copyFrom_16 (by assumption) (by omega) (by omega) (by assumption) ?_
    refine g_aload_n dX10_copyFrom_17 rfl rfl ?_
    refine g_get_State_glazes dX10_copyFrom_18 mw_204 (by assumption) (by assumption) ?_
    refine g_iload_n dX10_copyFrom_21 rfl rfl ?_
    obtain ⟨yga, ygb, ygc⟩ := yg5 i (by omega) (by omega)
    refine g_aald_Glaze dX10_copyFrom_22 (by assumption) (by omega) (by omega) (by assumption) ?_
    refine g_callVw (i := 2) rfl (gK0 (by assumption)) (g_at2 (by assumption)) (k_G_copy Y (by assumption) (by assumption)) u_X4_copyFrom mw_439 dX10_copyFrom_23 rfl rfl ⟨Nat.le_of_ble_eq_true rfl, Nat.le_of_ble_eq_true rfl⟩ ⟨Nat.le_of_ble_eq_true rfl, Nat.le_of_ble_eq_true rfl⟩ (Nat.le_of_ble_eq_true rfl) (fun v23 I23 A23 h23 => ?_)
    obtain ⟨rfl, i23, a23⟩ := h23
    obtain rfl := a23.symm
    rw [ar_40 hagI (i := i) (by omega) (by omega), ar_41 hagI (i := i) (by omega) (by omega), ar_42 hagI (i := i) (by omega) (by omega), ar_43 hagI (i := i) (by omega) (by omega)] at i23
    have v23 : cV I23 R Q s = (sU (sU (sU (sU (cV I R Q s) i (W i)) (4 + i) (W (4 + i))) (8 + i) (W (8 + i))) (12 + i) (W (12 + i))) := by rw [cu_43 hsh (by omega) (by omega) i23, cu_42 hsh (by omega) (by omega) rfl, cu_41 hsh (by omega) (by omega) rfl, cu_40 hsh (by omega) (by omega) rfl]
    have g23 : agP (fun j => D j ∨ (0 ≤ j ∧ j < 16 ∧ (j - 0) % 4 < i + 1)) (cV I23 R Q s) W := by
      rw [v23]
      exact ((((hag.get i).get (4 + i)).get (8 + i)).get (12 + i)).mono (fun j hj => by
        rcases hj with hj | hj
        · exact Or.inr (Or.inr (Or.inr (Or.inr (Or.inl hj))))
        · by_cases q : (j - 0) % 4 = i
          · skip
            have q2 : j = i ∨ j = 4 + i ∨ j = 8 + i ∨ j = 12 + i := by omega
            omega
          · exact Or.inr (Or.inr (Or.inr (Or.inr (Or.inr (by omega))))))
    have f23 : cFr G s I I23 A A := (cFr.trans (cFr.trans (cFr.trans (cFr.up (by rw [zgc]) (by decide) rfl) (cFr.up (by rw [zgc]) (by decide) rfl)) (cFr.up (by rw [zgc]) (by decide) rfl)) (cFr.up (by rw [zgc]) (by decide) i23))
    have n23 : ∀ q, I23 22 q = I 22 q := fun q => by rw [i23, g_up_ne1 _ _ (by omega), g_up_ne1 _ _ (by omega), g_up_ne1 _ _ (by omega), g_up_ne1 _ _ (by omega)]
    refine g_iinc dX10_copyFrom_26 rfl (by decide) ?_
    refine g_goto (tgt := 2) dX10_copyFrom_29 (by decide) ?_
    exact g_locs (by exact ⟨rfl, rfl, rfl, trivial⟩) (ih (m - 1) (i + 1) (by omega) (by omega) (by omega) (hfr.trans f23) (fun q => (n23 q).trans (h22 q)) g23)
set_option maxHeartbeats 1000000 in
set_option maxRecDepth 100000 in
theorem lp_S_copyq {Y : gEnv} {X : gCtx} {K N : Nat → Nat} {I : Nat → Nat → Int} {A : Nat → Int → Int} {R : Nat → Nat → Option Nat} {Q : Nat → Int → Option Nat} {po : gPo} {px : gPx} {I0 : Nat → Nat → Int} {s b : Nat} {G : Nat → Nat × Int} {W : Int → Int} (hsb : b ≠ s) (hsh : cSh K N R Q G s) (hshb : cSh K N R Q G b) (hagb : ag (cV I0 R Q b) W) (D : Int → Prop) (kx : ∀ (I' : Nat → Nat → Int) (L : List (Nat × Value)), cFr G s I0 I' A A → (∀ q, I' 22 q = I0 22 q) → agP (fun j => D j ∨ (16 ≤ j ∧ j < 88 ∧ (j - 16) % 24 < 24)) (cV I' R Q s) W → gJ Y X yX10_copyFrom cX10_copyFrom 3 none ({ frames := 2, cells := 0, slots := 0, locals := 141 } : Room) po px 0 0 64 [(0, .ref s), (1, .ref b)] [] K N I' A R Q) : ∀ (f m : Nat) (i : Int), m < f → 0 ≤ i → i + m = 24 → cFr G s I0 I A A → (∀ q, I 22 q = I0 22 q) → agP (fun j => D j ∨ (16 ≤ j ∧ j < 88 ∧ (j - 16) % 24 < i)) (cV I R Q s) W → gJ Y X yX10_copyFrom cX10_copyFrom 3 none ({ frames := 2, cells := 0, slots := 0, locals := 141 } : Room) po px 0 0 34 [(0, .ref s), (1, .ref b), (2, vi i)] [] K N I A R Q := by
  obtain ⟨hKs, hGs, ⟨zg1, zg2, zg3, zg4, zg5⟩, ⟨zq1, zq2, zq3, zq4, zq5⟩, ⟨zp1, zp2, zp3, zp4, zp5⟩, ⟨zl1, zl2, zl3, zl4, zl5⟩, ⟨zd1, zd2, zd3, zd4, zd5⟩⟩ := id hsh
  obtain ⟨hKb, hGb, ⟨yg1, yg2, yg3, yg4, yg5⟩, ⟨yq1, yq2, yq3, yq4, yq5⟩, ⟨yp1, yp2, yp3, yp4, yp5⟩, ⟨yl1, yl2, yl3, yl4, yl5⟩, ⟨yd1, yd2, yd3, yd4, yd5⟩⟩ := id hshb
  intro f
  induction f generalizing I with
  | zero => intro m i h; omega
  | succ f ih =>
  intro m i hf hi hm hfr h22 hag
  have hagI : ag (cV I R Q b) W := by rw [hshb.fr hsb hfr]; exact hagb
  refine g_iload_n dX10_copyFrom_34 rfl rfl ?_
  refine g_aload_n dX10_copyFrom_35 rfl rfl ?_
  refine g_get_State_positions dX10_copyFrom_36 mw_206 (by assumption) (by assumption) ?_
  refine g_alen_Position dX10_copyFrom_39 (by assumption) ?_
  refine g_icmp_ge (tgt := 64) dX10_copyFrom_40 (by decide) (by omega) (by omega) (fun c_40 => ?_) (fun c_40 => ?_)
  · have e : i = 24 := by omega
    rw [e] at hag
    exact g_locs (by exact ⟨rfl, rfl, trivial⟩) (kx I [] hfr h22 hag)
  · refine g_aload_n dX10_copyFrom_43 rfl rfl ?_
    refine g_get_State_positions dX10_copyFrom_44 mw_206 (by assumption) (by assumption) ?_
    refine g_iload_n dX10_copyFrom_47 rfl rfl ?_
    obtain ⟨zqa, zqb, zqc⟩ := zq5 i (by omega) (by omega)
    refine g_aald_Position dX10_copyFrom_48 (by assumption) (by omega) (by omega) (by assumption) ?_
    refine g_aload_n dX10_copyFrom_49 rfl rfl ?_
    refine g_get_State_positions dX10_copyFrom_50 mw_206 (by assumption) (by assumption) ?_
    refine g_iload_n dX10_copyFrom_53 rfl rfl ?_
    obtain ⟨yqa, yqb, yqc⟩ := yq5 i (by omega) (by omega)
    refine g_aald_Position dX10_copyFrom_54 (by assumption) (by omega) (by omega) (by assumption) ?_
    refine g_callVw (i := 6) rfl (gK0 (by assumption)) (g_at6 (by assumption)) (k_O_copy Y (by assumption) (by assumption)) u_X8_copyFrom mw_443 dX10_copyFrom_55 rfl rfl ⟨Nat.le_of_ble_eq_true rfl, Nat.le_of_ble_eq_true rfl⟩ ⟨Nat.le_of_ble_eq_true rfl, Nat.le_of_ble_eq_true rfl⟩ (Nat.le_of_ble_eq_true rfl) (fun v55 I55 A55 h55 => ?_)
    obtain ⟨rfl, i55, a55⟩ := h55
    obtain rfl := a55.symm
    rw [ar_121 hagI (i := i) (by omega) (by omega), ar_122 hagI (i := i) (by omega) (by omega), ar_123 hagI (i := i) (by omega) (by omega)] at i55
    have v55 : cV I55 R Q s = (sU (sU (sU (cV I R Q s) (16 + i) (W (16 + i))) (40 + i) (W (40 + i))) (64 + i) (W (64 + i))) := by rw [cu_123 hsh (by omega) (by omega) i55, cu_122 hsh (by omega) (by omega) rfl, cu_121 hsh (by omega) (by omega) rfl]
    have g55 : agP (fun j => D j ∨ (16 ≤ j ∧ j < 88 ∧ (j - 16) % 24 < i + 1)) (cV I55 R Q s) W := by
      rw [v55]
      exact (((hag.get (16 + i)).get (40 + i)).get (64 + i)).mono (fun j hj => by
        rcases hj with hj | hj
        · exact Or.inr (Or.inr (Or.inr (Or.inl hj)))
        · by_cases q : (j - 16) % 24 = i
          · skip
            have q2 : j = 16 + i ∨ j = 40 + i ∨ j = 64 + i := by omega
            omega
          · exact Or.inr (Or.inr (Or.inr (Or.inr (by omega)))))
    have f55 : cFr G s I I55 A A := (cFr.trans (cFr.trans (cFr.up (by rw [zqc]) (by decide) rfl) (cFr.up (by rw [zqc]) (by decide) rfl)) (cFr.up (by rw [zqc]) (by decide) i55))
    have n55 : ∀ q, I55 22 q = I 22 q := fun q => by rw [i55, g_up_ne1 _ _ (by omega), g_up_ne1 _ _ (by omega), g_up_ne1 _ _ (by omega)]
    refine g_iinc dX10_copyFrom_58 rfl (by decide) ?_
    refine g_goto (tgt := 34) dX10_copyFrom_61 (by decide) ?_
    exact g_locs (by exact ⟨rfl, rfl, rfl, trivial⟩) (ih (m - 1) (i + 1) (by omega) (by omega) (by omega) (hfr.trans f55) (fun q => (n55 q).trans (h22 q)) g55)
set_option maxHeartbeats 1000000 in
set_option maxRecDepth 100000 in
theorem lp_S_copyp {Y : gEnv} {X : gCtx} {K N : Nat → Nat} {I : Nat → Nat → Int} {A : Nat → Int → Int} {R : Nat → Nat → Option Nat} {Q : Nat → Int → Option Nat} {po : gPo} {px : gPx} {I0 : Nat → Nat → Int} {s b : Nat} {G : Nat → Nat × Int} {W : Int → Int} (hsb : b ≠ s) (hsh : cSh K N R Q G s) (hshb : cSh K N R Q G b) (hagb : ag (cV I0 R Q b) W) (D : Int → Prop) (hcn : 0 ≤ W 1613 ∧ W 1613 ≤ 80) (hD : D 1613) (kx : ∀ (I' : Nat → Nat → Int) (L : List (Nat × Value)), cFr G s I0 I' A A → (∀ q, I' 22 q = I0 22 q) → agP (fun j => D j ∨ (90 ≤ j ∧ j < 410 ∧ (j - 90) % 80 < W 1613)) (cV I' R Q s) W → gJ Y X yX10_copyFrom cX10_copyFrom 3 none ({ frames := 2, cells := 0, slots := 0, locals := 141 } : Room) po px 0 0 103 [(0, .ref s), (1, .ref b)] [] K N I' A R Q) : ∀ (f m : Nat) (i : Int), m < f → 0 ≤ i → i + m = W 1613 → cFr G s I0 I A A → (∀ q, I 22 q = I0 22 q) → agP (fun j => D j ∨ (90 ≤ j ∧ j < 410 ∧ (j - 90) % 80 < i)) (cV I R Q s) W → gJ Y X yX10_copyFrom cX10_copyFrom 3 none ({ frames := 2, cells := 0, slots := 0, locals := 141 } : Room) po px 0 0 74 [(0, .ref s), (1, .ref b), (2, vi i)] [] K N I A R Q := by
  obtain ⟨hKs, hGs, ⟨zg1, zg2, zg3, zg4, zg5⟩, ⟨zq1, zq2, zq3, zq4, zq5⟩, ⟨zp1, zp2, zp3, zp4, zp5⟩, ⟨zl1, zl2, zl3, zl4, zl5⟩, ⟨zd1, zd2, zd3, zd4, zd5⟩⟩ := id hsh
  obtain ⟨hKb, hGb, ⟨yg1, yg2, yg3, yg4, yg5⟩, ⟨yq1, yq2, yq3, yq4, yq5⟩, ⟨yp1, yp2, yp3, yp4, yp5⟩, ⟨yl1, yl2, yl3, yl4, yl5⟩, ⟨yd1, yd2, yd3, yd4, yd5⟩⟩ := id hshb
  intro f
  induction f generalizing I with
  | zero => intro m i h; omega
  | succ f ih =>
  intro m i hf hi hm hfr h22 hag
  have hagI : ag (cV I R Q b) W := by rw [hshb.fr hsb hfr]; exact hagb
  refine g_iload_n dX10_copyFrom_74 rfl rfl ?_
  refine g_aload_n dX10_copyFrom_75 rfl rfl ?_
  refine g_get_State_pileCount dX10_copyFrom_76 mw_219 (by assumption) ?_
  rw [show I 168 s = W 1613 by rw [← cr_168 (I := I) (R := R) (Q := Q) (s := s)]; exact hag _ (Or.inl hD)]
  refine g_icmp_ge (tgt := 103) dX10_copyFrom_79 (by decide) (by omega) (by omega) (fun c_79 => ?_) (fun c_79 => ?_)
  · have e : i = W 1613 := by omega
    rw [e] at hag
    exact g_locs (by exact ⟨rfl, rfl, trivial⟩) (kx I [] hfr h22 hag)
  · refine g_aload_n dX10_copyFrom_82 rfl rfl ?_
    refine g_get_State_piles dX10_copyFrom_83 mw_208 (by assumption) (by assumption) ?_
    refine g_iload_n dX10_copyFrom_86 rfl rfl ?_
    obtain ⟨zpa, zpb, zpc⟩ := zp5 i (by omega) (by omega)
    refine g_aald_Pile dX10_copyFrom_87 (by assumption) (by omega) (by omega) (by assumption) ?_
    refine g_aload_n dX10_copyFrom_88 rfl rfl ?_
    refine g_get_State_piles dX10_copyFrom_89 mw_208 (by assumption) (by assumption) ?_
    refine g_iload_n dX10_copyFrom_92 rfl rfl ?_
    obtain ⟨ypa, ypb, ypc⟩ := yp5 i (by omega) (by omega)
    refine g_aald_Pile dX10_copyFrom_93 (by assumption) (by omega) (by omega) (by assumption) ?_
    refine g_callVw (i := 5) rfl (gK0 (by assumption)) (g_at5 (by assumption)) (k_P_copy Y (by assumption) (by assumption)) u_X7_copyFrom mw_447 dX10_copyFrom_94 rfl rfl ⟨Nat.le_of_ble_eq_true rfl, Nat.le_of_ble_eq_true rfl⟩ ⟨Nat.le_of_ble_eq_true rfl, Nat.le_of_ble_eq_true rfl⟩ (Nat.le_of_ble_eq_true rfl) (fun v94 I94 A94 h94 => ?_)
    obtain ⟨rfl, i94, a94⟩ := h94
    obtain rfl := a94.symm
    rw [ar_100 hagI (i := i) (by omega) (by omega) (by omega), ar_101 hagI (i := i) (by omega) (by omega) (by omega), ar_102 hagI (i := i) (by omega) (by omega) (by omega), ar_103 hagI (i := i) (by omega) (by omega) (by omega)] at i94
    have v94 : cV I94 R Q s = (sU (sU (sU (sU (cV I R Q s) (90 + i) (W (90 + i))) (170 + i) (W (170 + i))) (250 + i) (W (250 + i))) (330 + i) (W (330 + i))) := by rw [cu_103 hsh (by omega) (by omega) i94, cu_102 hsh (by omega) (by omega) rfl, cu_101 hsh (by omega) (by omega) rfl, cu_100 hsh (by omega) (by omega) rfl]
    have g94 : agP (fun j => D j ∨ (90 ≤ j ∧ j < 410 ∧ (j - 90) % 80 < i + 1)) (cV I94 R Q s) W := by
      rw [v94]
      exact ((((hag.get (90 + i)).get (170 + i)).get (250 + i)).get (330 + i)).mono (fun j hj => by
        rcases hj with hj | hj
        · exact Or.inr (Or.inr (Or.inr (Or.inr (Or.inl hj))))
        · by_cases q : (j - 90) % 80 = i
          · skip
            have q2 : j = 90 + i ∨ j = 170 + i ∨ j = 250 + i ∨ j = 330 + i := by omega
            omega
          · exact Or.inr (Or.inr (Or.inr (Or.inr (Or.inr (by omega))))))
    have f94 : cFr G s I I94 A A := (cFr.trans (cFr.trans (cFr.trans (cFr.up (by rw [zpc]) (by decide) rfl) (cFr.up (by rw [zpc]) (by decide) rfl)) (cFr.up (by rw [zpc]) (by decide) rfl)) (cFr.up (by rw [zpc]) (by decide) i94))
    have n94 : ∀ q, I94 22 q = I 22 q := fun q => by rw [i94, g_up_ne1 _ _ (by omega), g_up_ne1 _ _ (by omega), g_up_ne1 _ _ (by omega), g_up_ne1 _ _ (by omega)]
    refine g_iinc dX10_copyFrom_97 rfl (by decide) ?_
    refine g_goto (tgt := 74) dX10_copyFrom_100 (by decide) ?_
    exact g_locs (by exact ⟨rfl, rfl, rfl, trivial⟩) (ih (m - 1) (i + 1) (by omega) (by omega) (by omega) (hfr.trans f94) (fun q => (n94 q).trans (h22 q)) g94)
set_option maxHeartbeats 1000000 in
set_option maxRecDepth 100000 in
theorem lp_S_copyl {Y : gEnv} {X : gCtx} {K N : Nat → Nat} {I : Nat → Nat → Int} {A : Nat → Int → Int} {R : Nat → Nat → Option Nat} {Q : Nat → Int → Option Nat} {po : gPo} {px : gPx} {I0 : Nat → Nat → Int} {s b : Nat} {G : Nat → Nat × Int} {W : Int → Int} (hsb : b ≠ s) (hsh : cSh K N R Q G s) (hshb : cSh K N R Q G b) (hagb : ag (cV I0 R Q b) W) (D : Int → Prop) (hcn : 0 ≤ W 1614 ∧ W 1614 ≤ 160) (hD : D 1614) (kx : ∀ (I' : Nat → Nat → Int) (L : List (Nat × Value)), cFr G s I0 I' A A → (∀ q, I' 22 q = I0 22 q) → agP (fun j => D j ∨ (410 ≤ j ∧ j < 1370 ∧ (j - 410) % 160 < W 1614)) (cV I' R Q s) W → gJ Y X yX10_copyFrom cX10_copyFrom 3 none ({ frames := 2, cells := 0, slots := 0, locals := 141 } : Room) po px 0 0 142 [(0, .ref s), (1, .ref b)] [] K N I' A R Q) : ∀ (f m : Nat) (i : Int), m < f → 0 ≤ i → i + m = W 1614 → cFr G s I0 I A A → (∀ q, I 22 q = I0 22 q) → agP (fun j => D j ∨ (410 ≤ j ∧ j < 1370 ∧ (j - 410) % 160 < i)) (cV I R Q s) W → gJ Y X yX10_copyFrom cX10_copyFrom 3 none ({ frames := 2, cells := 0, slots := 0, locals := 141 } : Room) po px 0 0 113 [(0, .ref s), (1, .ref b), (2, vi i)] [] K N I A R Q := by
  obtain ⟨hKs, hGs, ⟨zg1, zg2, zg3, zg4, zg5⟩, ⟨zq1, zq2, zq3, zq4, zq5⟩, ⟨zp1, zp2, zp3, zp4, zp5⟩, ⟨zl1, zl2, zl3, zl4, zl5⟩, ⟨zd1, zd2, zd3, zd4, zd5⟩⟩ := id hsh
  obtain ⟨hKb, hGb, ⟨yg1, yg2, yg3, yg4, yg5⟩, ⟨yq1, yq2, yq3, yq4, yq5⟩, ⟨yp1, yp2, yp3, yp4, yp5⟩, ⟨yl1, yl2, yl3, yl4, yl5⟩, ⟨yd1, yd2, yd3, yd4, yd5⟩⟩ := id hshb
  intro f
  induction f generalizing I with
  | zero => intro m i h; omega
  | succ f ih =>
  intro m i hf hi hm hfr h22 hag
  have hagI : ag (cV I R Q b) W := by rw [hshb.fr hsb hfr]; exact hagb
  refine g_iload_n dX10_copyFrom_113 rfl rfl ?_
  refine g_aload_n dX10_copyFrom_114 rfl rfl ?_
  refine g_get_State_lotCount dX10_copyFrom_115 mw_220 (by assumption) ?_
  rw [show I 169 s = W 1614 by rw [← cr_169 (I := I) (R := R) (Q := Q) (s := s)]; exact hag _ (Or.inl hD)]
  refine g_icmp_ge (tgt := 142) dX10_copyFrom_118 (by decide) (by omega) (by omega) (fun c_118 => ?_) (fun c_118 => ?_)
  · have e : i = W 1614 := by omega
    rw [e] at hag
    exact g_locs (by exact ⟨rfl, rfl, trivial⟩) (kx I [] hfr h22 hag)
  · refine g_aload_n dX10_copyFrom_121 rfl rfl ?_
    refine g_get_State_lots dX10_copyFrom_122 mw_209 (by assumption) (by assumption) ?_
    refine g_iload_n dX10_copyFrom_125 rfl rfl ?_
    obtain ⟨zla, zlb, zlc⟩ := zl5 i (by omega) (by omega)
    refine g_aald_Lot dX10_copyFrom_126 (by assumption) (by omega) (by omega) (by assumption) ?_
    refine g_aload_n dX10_copyFrom_127 rfl rfl ?_
    refine g_get_State_lots dX10_copyFrom_128 mw_209 (by assumption) (by assumption) ?_
    refine g_iload_n dX10_copyFrom_131 rfl rfl ?_
    obtain ⟨yla, ylb, ylc⟩ := yl5 i (by omega) (by omega)
    refine g_aald_Lot dX10_copyFrom_132 (by assumption) (by omega) (by omega) (by assumption) ?_
    refine g_callVw (i := 4) rfl (gK0 (by assumption)) (g_at4 (by assumption)) (k_L_copy Y (by assumption) (by assumption)) u_X6_copyFrom mw_451 dX10_copyFrom_133 rfl rfl ⟨Nat.le_of_ble_eq_true rfl, Nat.le_of_ble_eq_true rfl⟩ ⟨Nat.le_of_ble_eq_true rfl, Nat.le_of_ble_eq_true rfl⟩ (Nat.le_of_ble_eq_true rfl) (fun v133 I133 A133 h133 => ?_)
    obtain ⟨rfl, i133, a133⟩ := h133
    obtain rfl := a133.symm
    rw [ar_80 hagI (i := i) (by omega) (by omega) (by omega), ar_81 hagI (i := i) (by omega) (by omega) (by omega), ar_82 hagI (i := i) (by omega) (by omega) (by omega), ar_83 hagI (i := i) (by omega) (by omega) (by omega), ar_84 hagI (i := i) (by omega) (by omega) (by omega), ar_85 hagI (i := i) (by omega) (by omega) (by omega)] at i133
    have v133 : cV I133 R Q s = (sU (sU (sU (sU (sU (sU (cV I R Q s) (410 + i) (W (410 + i))) (570 + i) (W (570 + i))) (730 + i) (W (730 + i))) (890 + i) (W (890 + i))) (1050 + i) (W (1050 + i))) (1210 + i) (W (1210 + i))) := by rw [cu_85 hsh (by omega) (by omega) i133, cu_84 hsh (by omega) (by omega) rfl, cu_83 hsh (by omega) (by omega) rfl, cu_82 hsh (by omega) (by omega) rfl, cu_81 hsh (by omega) (by omega) rfl, cu_80 hsh (by omega) (by omega) rfl]
    have g133 : agP (fun j => D j ∨ (410 ≤ j ∧ j < 1370 ∧ (j - 410) % 160 < i + 1)) (cV I133 R Q s) W := by
      rw [v133]
      exact ((((((hag.get (410 + i)).get (570 + i)).get (730 + i)).get (890 + i)).get (1050 + i)).get (1210 + i)).mono (fun j hj => by
        rcases hj with hj | hj
        · exact Or.inr (Or.inr (Or.inr (Or.inr (Or.inr (Or.inr (Or.inl hj))))))
        · by_cases q : (j - 410) % 160 = i
          · skip
            have q2 : j = 410 + i ∨ j = 570 + i ∨ j = 730 + i ∨ j = 890 + i ∨ j = 1050 + i ∨ j = 1210 + i := by omega
            omega
          · exact Or.inr (Or.inr (Or.inr (Or.inr (Or.inr (Or.inr (Or.inr (by omega))))))))
    have f133 : cFr G s I I133 A A := (cFr.trans (cFr.trans (cFr.trans (cFr.trans (cFr.trans (cFr.up (by rw [zlc]) (by decide) rfl) (cFr.up (by rw [zlc]) (by decide) rfl)) (cFr.up (by rw [zlc]) (by decide) rfl)) (cFr.up (by rw [zlc]) (by decide) rfl)) (cFr.up (by rw [zlc]) (by decide) rfl)) (cFr.up (by rw [zlc]) (by decide) i133))
    have n133 : ∀ q, I133 22 q = I 22 q := fun q => by rw [i133, g_up_ne1 _ _ (by omega), g_up_ne1 _ _ (by omega), g_up_ne1 _ _ (by omega), g_up_ne1 _ _ (by omega), g_up_ne1 _ _ (by omega), g_up_ne1 _ _ (by omega)]
    refine g_iinc dX10_copyFrom_136 rfl (by decide) ?_
    refine g_goto (tgt := 113) dX10_copyFrom_139 (by decide) ?_
    exact g_locs (by exact ⟨rfl, rfl, rfl, trivial⟩) (ih (m - 1) (i + 1) (by omega) (by omega) (by omega) (hfr.trans f133) (fun q => (n133 q).trans (h22 q)) g133)
set_option maxHeartbeats 1000000 in
set_option maxRecDepth 100000 in
theorem lp_S_copyd {Y : gEnv} {X : gCtx} {K N : Nat → Nat} {I : Nat → Nat → Int} {A : Nat → Int → Int} {R : Nat → Nat → Option Nat} {Q : Nat → Int → Option Nat} {po : gPo} {px : gPx} {I0 : Nat → Nat → Int} {s b : Nat} {G : Nat → Nat × Int} {W : Int → Int} (hsb : b ≠ s) (hsh : cSh K N R Q G s) (hshb : cSh K N R Q G b) (hagb : ag (cV I0 R Q b) W) (D : Int → Prop) (hcn : 0 ≤ W 1615 ∧ W 1615 ≤ 40) (hD : D 1615) (kx : ∀ (I' : Nat → Nat → Int) (L : List (Nat × Value)), cFr G s I0 I' A A → (∀ q, I' 22 q = I0 22 q) → agP (fun j => D j ∨ (1370 ≤ j ∧ j < 1570 ∧ (j - 1370) % 40 < W 1615)) (cV I' R Q s) W → gJ Y X yX10_copyFrom cX10_copyFrom 3 none ({ frames := 2, cells := 0, slots := 0, locals := 141 } : Room) po px 0 0 181 [(0, .ref s), (1, .ref b)] [] K N I' A R Q) : ∀ (f m : Nat) (i : Int), m < f → 0 ≤ i → i + m = W 1615 → cFr G s I0 I A A → (∀ q, I 22 q = I0 22 q) → agP (fun j => D j ∨ (1370 ≤ j ∧ j < 1570 ∧ (j - 1370) % 40 < i)) (cV I R Q s) W → gJ Y X yX10_copyFrom cX10_copyFrom 3 none ({ frames := 2, cells := 0, slots := 0, locals := 141 } : Room) po px 0 0 152 [(0, .ref s), (1, .ref b), (2, vi i)] [] K N I A R Q := by
  obtain ⟨hKs, hGs, ⟨zg1, zg2, zg3, zg4, zg5⟩, ⟨zq1, zq2, zq3, zq4, zq5⟩, ⟨zp1, zp2, zp3, zp4, zp5⟩, ⟨zl1, zl2, zl3, zl4, zl5⟩, ⟨zd1, zd2, zd3, zd4, zd5⟩⟩ := id hsh
  obtain ⟨hKb, hGb, ⟨yg1, yg2, yg3, yg4, yg5⟩, ⟨yq1, yq2, yq3, yq4, yq5⟩, ⟨yp1, yp2, yp3, yp4, yp5⟩, ⟨yl1, yl2, yl3, yl4, yl5⟩, ⟨yd1, yd2, yd3, yd4, yd5⟩⟩ := id hshb
  intro f
  induction f generalizing I with
  | zero => intro m i h; omega
  | succ f ih =>
  intro m i hf hi hm hfr h22 hag
  have hagI : ag (cV I R Q b) W := by rw [hshb.fr hsb hfr]; exact hagb
  refine g_iload_n dX10_copyFrom_152 rfl rfl ?_
  refine g_aload_n dX10_copyFrom_153 rfl rfl ?_
  refine g_get_State_deliveryCount dX10_copyFrom_154 mw_221 (by assumption) ?_
  rw [show I 170 s = W 1615 by rw [← cr_170 (I := I) (R := R) (Q := Q) (s := s)]; exact hag _ (Or.inl hD)]
  refine g_icmp_ge (tgt := 181) dX10_copyFrom_157 (by decide) (by omega) (by omega) (fun c_157 => ?_) (fun c_157 => ?_)
  · have e : i = W 1615 := by omega
    rw [e] at hag
    exact g_locs (by exact ⟨rfl, rfl, trivial⟩) (kx I [] hfr h22 hag)
  · refine g_aload_n dX10_copyFrom_160 rfl rfl ?_
    refine g_get_State_deliveries dX10_copyFrom_161 mw_211 (by assumption) (by assumption) ?_
    refine g_iload_n dX10_copyFrom_164 rfl rfl ?_
    obtain ⟨zda, zdb, zdc⟩ := zd5 i (by omega) (by omega)
    refine g_aald_Delivery dX10_copyFrom_165 (by assumption) (by omega) (by omega) (by assumption) ?_
    refine g_aload_n dX10_copyFrom_166 rfl rfl ?_
    refine g_get_State_deliveries dX10_copyFrom_167 mw_211 (by assumption) (by assumption) ?_
    refine g_iload_n dX10_copyFrom_170 rfl rfl ?_
    obtain ⟨yda, ydb, ydc⟩ := yd5 i (by omega) (by omega)
    refine g_aald_Delivery dX10_copyFrom_171 (by assumption) (by omega) (by omega) (by assumption) ?_
    refine g_callVw (i := 0) rfl (gK0 (by assumption)) (g_at0 (by assumption)) (k_D_copy Y (by assumption) (by assumption)) u_X1_copyFrom mw_455 dX10_copyFrom_172 rfl rfl ⟨Nat.le_of_ble_eq_true rfl, Nat.le_of_ble_eq_true rfl⟩ ⟨Nat.le_of_ble_eq_true rfl, Nat.le_of_ble_eq_true rfl⟩ (Nat.le_of_ble_eq_true rfl) (fun v172 I172 A172 h172 => ?_)
    obtain ⟨rfl, i172, a172⟩ := h172
    obtain rfl := a172.symm
    rw [ar_0 hagI (i := i) (by omega) (by omega) (by omega), ar_1 hagI (i := i) (by omega) (by omega) (by omega), ar_2 hagI (i := i) (by omega) (by omega) (by omega), ar_3 hagI (i := i) (by omega) (by omega) (by omega), ar_4 hagI (i := i) (by omega) (by omega) (by omega)] at i172
    have v172 : cV I172 R Q s = (sU (sU (sU (sU (sU (cV I R Q s) (1370 + i) (W (1370 + i))) (1410 + i) (W (1410 + i))) (1450 + i) (W (1450 + i))) (1490 + i) (W (1490 + i))) (1530 + i) (W (1530 + i))) := by rw [cu_4 hsh (by omega) (by omega) i172, cu_3 hsh (by omega) (by omega) rfl, cu_2 hsh (by omega) (by omega) rfl, cu_1 hsh (by omega) (by omega) rfl, cu_0 hsh (by omega) (by omega) rfl]
    have g172 : agP (fun j => D j ∨ (1370 ≤ j ∧ j < 1570 ∧ (j - 1370) % 40 < i + 1)) (cV I172 R Q s) W := by
      rw [v172]
      exact (((((hag.get (1370 + i)).get (1410 + i)).get (1450 + i)).get (1490 + i)).get (1530 + i)).mono (fun j hj => by
        rcases hj with hj | hj
        · exact Or.inr (Or.inr (Or.inr (Or.inr (Or.inr (Or.inl hj)))))
        · by_cases q : (j - 1370) % 40 = i
          · skip
            have q2 : j = 1370 + i ∨ j = 1410 + i ∨ j = 1450 + i ∨ j = 1490 + i ∨ j = 1530 + i := by omega
            omega
          · exact Or.inr (Or.inr (Or.inr (Or.inr (Or.inr (Or.inr (by omega)))))))
    have f172 : cFr G s I I172 A A := (cFr.trans (cFr.trans (cFr.trans (cFr.trans (cFr.up (by rw [zdc]) (by decide) rfl) (cFr.up (by rw [zdc]) (by decide) rfl)) (cFr.up (by rw [zdc]) (by decide) rfl)) (cFr.up (by rw [zdc]) (by decide) rfl)) (cFr.up (by rw [zdc]) (by decide) i172))
    have n172 : ∀ q, I172 22 q = I 22 q := fun q => by rw [i172, g_up_ne1 _ _ (by omega), g_up_ne1 _ _ (by omega), g_up_ne1 _ _ (by omega), g_up_ne1 _ _ (by omega), g_up_ne1 _ _ (by omega)]
    refine g_iinc dX10_copyFrom_175 rfl (by decide) ?_
    refine g_goto (tgt := 152) dX10_copyFrom_178 (by decide) ?_
    exact g_locs (by exact ⟨rfl, rfl, rfl, trivial⟩) (ih (m - 1) (i + 1) (by omega) (by omega) (by omega) (hfr.trans f172) (fun q => (n172 q).trans (h22 q)) g172)
set_option maxHeartbeats 1000000 in
set_option maxRecDepth 100000 in
theorem k_S_copyFrom (Y : gEnv) {K N : Nat → Nat} {I : Nat → Nat → Int} {A : Nat → Int → Int} {R : Nat → Nat → Option Nat} {Q : Nat → Int → Option Nat} {s b : Nat} {G : Nat → Nat × Int} {W : Int → Int} (hsb : b ≠ s) (hsh : cSh K N R Q G s) (hshb : cSh K N R Q G b) (hagb : ag (cV I R Q b) W) (h0 : iN W) {ev kq nq eb kb nb : Nat} (hev : cEv K N R G s ev kq nq) (hevb : cEv K N R G b eb kb nb) (hEb : cE I A eb kb nb W) : gC Y yX10_copyFrom cX10_copyFrom 3 none ({ frames := 2, cells := 0, slots := 0, locals := 141 } : Room) [.ref s, .ref b] K N I A R Q (g_wr K N R Q (fun v I' A' => v = none ∧ cPe R Q G s ev kq nq I I' A A' W)) gno := by
  refine gC_of (by decide) (Nat.le_of_ble_eq_true rfl) (fun X => ?_)
  obtain ⟨hKs, hGs, ⟨zg1, zg2, zg3, zg4, zg5⟩, ⟨zq1, zq2, zq3, zq4, zq5⟩, ⟨zp1, zp2, zp3, zp4, zp5⟩, ⟨zl1, zl2, zl3, zl4, zl5⟩, ⟨zd1, zd2, zd3, zd4, zd5⟩⟩ := id hsh
  obtain ⟨hKb, hGb, ⟨yg1, yg2, yg3, yg4, yg5⟩, ⟨yq1, yq2, yq3, yq4, yq5⟩, ⟨yp1, yp2, yp3, yp4, yp5⟩, ⟨yl1, yl2, yl3, yl4, yl5⟩, ⟨yd1, yd2, yd3, yd4, yd5⟩⟩ := id hshb
  obtain ⟨ev1, ev2, ev3, ev4, ev5, ev6, ev7, ev8, ev9, ev10, ev11, ev12⟩ := id hev
  obtain ⟨eb1, eb2, eb3, eb4, eb5, eb6, eb7, eb8, eb9, eb10, eb11, eb12⟩ := id hevb
  have evG : (G ev).1 = s ∧ (G kq).1 = s ∧ (G nq).1 = s := ⟨by rw [ev10], by rw [ev11], by rw [ev12]⟩
  have hP := h0.2.2.2.1
  have hL := h0.2.2.2.2.1
  have hD := h0.2.2.2.2.2.1
  have hx1 : kb ≠ kq := fun e => hsb (by have := congrArg (fun z => (G z).1) e; rw [eb11, ev11] at this; exact this)
  have hx2 : nb ≠ kq := fun e => hsb (by have := congrArg (fun z => (G z).1) e; rw [eb12, ev11] at this; exact this)
  have p0 := hP.1
  have p1 := hP.2.1
  have l0 := hL.1
  have l1 := hL.2.1
  have d0 := hD.1
  have d1 := hD.2.1
  refine g_iconst dX10_copyFrom_0 ?_
  refine g_istore_n dX10_copyFrom_1 rfl (by decide) ?_
  refine g_locs (by exact ⟨rfl, rfl, rfl, trivial⟩) (lp_S_copyg hsb hsh hshb hagb (fun _ => False) (fun I1 _ f1 n1 g1 => ?_) _ 4 0 (Nat.lt_succ_self _) (by omega) (by omega) cFr.rfl (fun _ => rfl) (fun j hj => hj.elim (fun h => h.elim) (fun h => by omega)))
  refine g_iconst dX10_copyFrom_32 ?_
  refine g_istore_n dX10_copyFrom_33 rfl (by decide) ?_
  refine g_locs (by exact ⟨rfl, rfl, rfl, trivial⟩) (lp_S_copyq hsb hsh hshb hagb _ (fun I2 _ f2 n2 g2 => ?_) _ 24 0 (Nat.lt_succ_self _) (by omega) (by omega) f1 n1 (g1.mono (fun j hj => hj.resolve_right (by omega))))
  refine g_aload_n dX10_copyFrom_64 rfl rfl ?_
  refine g_aload_n dX10_copyFrom_65 rfl rfl ?_
  refine g_get_State_pileCount dX10_copyFrom_66 mw_219 (by assumption) ?_
  rw [show I2 168 b = W 1613 by rw [← ar_168 hagb]; exact f2.1 _ _ (by rw [hGb]; exact hsb)]
  refine g_put_State_pileCount dX10_copyFrom_69 mw_219 (by assumption) (fun I69 hI69 => ?_)
  have v69 := cu_168 hsh hI69
  have g69 := g2.get 1613
  rw [← v69] at g69
  have f69 := f2.trans (cFr.up (A := A) (by rw [hGs]) (by decide) hI69)
  have n69 : ∀ q, I69 22 q = I 22 q := fun q => by rw [hI69, g_up_ne1 _ _ (by omega)]; exact n2 q
  refine g_iconst dX10_copyFrom_72 ?_
  refine g_istore_n dX10_copyFrom_73 rfl (by decide) ?_
  refine g_locs (by exact ⟨rfl, rfl, rfl, trivial⟩) (lp_S_copyp hsb hsh hshb hagb _ (by omega) (Or.inl rfl) (fun I3 _ f3 n3 g3 => ?_) _ (W 1613).toNat 0 (Nat.lt_succ_self _) (by omega) (by omega) f69 n69 (g69.mono (fun j hj => hj.resolve_right (by omega))))
  refine g_aload_n dX10_copyFrom_103 rfl rfl ?_
  refine g_aload_n dX10_copyFrom_104 rfl rfl ?_
  refine g_get_State_lotCount dX10_copyFrom_105 mw_220 (by assumption) ?_
  rw [show I3 169 b = W 1614 by rw [← ar_169 hagb]; exact f3.1 _ _ (by rw [hGb]; exact hsb)]
  refine g_put_State_lotCount dX10_copyFrom_108 mw_220 (by assumption) (fun I108 hI108 => ?_)
  have v108 := cu_169 hsh hI108
  have g108 := g3.get 1614
  rw [← v108] at g108
  have f108 := f3.trans (cFr.up (A := A) (by rw [hGs]) (by decide) hI108)
  have n108 : ∀ q, I108 22 q = I 22 q := fun q => by rw [hI108, g_up_ne1 _ _ (by omega)]; exact n3 q
  refine g_iconst dX10_copyFrom_111 ?_
  refine g_istore_n dX10_copyFrom_112 rfl (by decide) ?_
  refine g_locs (by exact ⟨rfl, rfl, rfl, trivial⟩) (lp_S_copyl hsb hsh hshb hagb _ (by omega) (Or.inl rfl) (fun I4 _ f4 n4 g4 => ?_) _ (W 1614).toNat 0 (Nat.lt_succ_self _) (by omega) (by omega) f108 n108 (g108.mono (fun j hj => hj.resolve_right (by omega))))
  refine g_aload_n dX10_copyFrom_142 rfl rfl ?_
  refine g_aload_n dX10_copyFrom_143 rfl rfl ?_
  refine g_get_State_deliveryCount dX10_copyFrom_144 mw_221 (by assumption) ?_
  rw [show I4 170 b = W 1615 by rw [← ar_170 hagb]; exact f4.1 _ _ (by rw [hGb]; exact hsb)]
  refine g_put_State_deliveryCount dX10_copyFrom_147 mw_221 (by assumption) (fun I147 hI147 => ?_)
  have v147 := cu_170 hsh hI147
  have g147 := g4.get 1615
  rw [← v147] at g147
  have f147 := f4.trans (cFr.up (A := A) (by rw [hGs]) (by decide) hI147)
  have n147 : ∀ q, I147 22 q = I 22 q := fun q => by rw [hI147, g_up_ne1 _ _ (by omega)]; exact n4 q
  refine g_iconst dX10_copyFrom_150 ?_
  refine g_istore_n dX10_copyFrom_151 rfl (by decide) ?_
  refine g_locs (by exact ⟨rfl, rfl, rfl, trivial⟩) (lp_S_copyd hsb hsh hshb hagb _ (by omega) (Or.inl rfl) (fun I5 _ f5 n5 g5 => ?_) _ (W 1615).toNat 0 (Nat.lt_succ_self _) (by omega) (by omega) f147 n147 (g147.mono (fun j hj => hj.resolve_right (by omega))))
  refine g_aload_n dX10_copyFrom_181 rfl rfl ?_
  refine g_get_State_events dX10_copyFrom_182 mw_213 (by assumption) (by assumption) ?_
  refine g_aload_n dX10_copyFrom_185 rfl rfl ?_
  refine g_get_State_events dX10_copyFrom_186 mw_213 (by assumption) (by assumption) ?_
  have e22 : cE I5 A eb kb nb W := ⟨(n5 eb).trans hEb.1, hEb.2⟩
  refine g_callVw (i := 1) rfl (gK0 (by assumption)) (g_at1 (by assumption)) (k_E_copy Y ev2 ev3 ev4 ev5 ev6 ev7 ev8 ev9 eb2 eb3 eb4 eb5 eb6 eb7 eb8 hx1 hx2 e22 h0.2.2.2.2.2.2.2) u_X2_copyFrom mw_459 dX10_copyFrom_189 rfl rfl ⟨Nat.le_of_ble_eq_true rfl, Nat.le_of_ble_eq_true rfl⟩ ⟨Nat.le_of_ble_eq_true rfl, Nat.le_of_ble_eq_true rfl⟩ (Nat.le_of_ble_eq_true rfl) (fun v189 I189 A189 h189 => ?_)
  obtain ⟨rfl, ⟨z189, i189⟩, a189, E189⟩ := h189
  have f189 : cFr G s I5 I189 A A189 := ⟨fun f q hq => by rw [i189]; exact g_up_ne2 _ _ (fun e => hq (by rw [e]; exact evG.1)), fun q => by rw [i189]; exact g_up_ne1 _ _ (by omega), fun q hq => a189 q (fun e => hq (by rw [e]; exact evG.2.1)) (fun e => hq (by rw [e]; exact evG.2.2))⟩
  have F189 := f5.trans f189
  have B189 : ag (cV I189 R Q b) W := by rw [hshb.fr hsb F189]; exact hagb
  have v189 : cV I189 R Q s = cV I5 R Q s := cV_22 i189
  refine g_aload_n dX10_copyFrom_192 rfl rfl ?_
  refine g_aload_n dX10_copyFrom_193 rfl rfl ?_
  refine g_get_State_sharpness dX10_copyFrom_194 mw_215 (by assumption) ?_
  rw [ar_166 B189]
  refine g_put_State_sharpness dX10_copyFrom_197 mw_215 (by assumption) (fun I197 hI197 => ?_)
  refine g_aload_n dX10_copyFrom_200 rfl rfl ?_
  refine g_aload_n dX10_copyFrom_201 rfl rfl ?_
  refine g_get_State_boxSize dX10_copyFrom_202 mw_217 (by assumption) ?_
  rw [show I197 167 b = W 89 by rw [hI197, g_up_ne1 _ _ (by omega), ar_167 B189]]
  refine g_put_State_boxSize dX10_copyFrom_205 mw_217 (by assumption) (fun I205 hI205 => ?_)
  refine g_aload_n dX10_copyFrom_208 rfl rfl ?_
  refine g_aload_n dX10_copyFrom_209 rfl rfl ?_
  refine g_get_State_firings dX10_copyFrom_210 mw_222 (by assumption) ?_
  rw [show I205 171 b = W 1610 by rw [hI205, g_up_ne1 _ _ (by omega), hI197, g_up_ne1 _ _ (by omega), ar_171 B189]]
  refine g_put_State_firings dX10_copyFrom_213 mw_222 (by assumption) (fun I213 hI213 => ?_)
  refine g_aload_n dX10_copyFrom_216 rfl rfl ?_
  refine g_aload_n dX10_copyFrom_217 rfl rfl ?_
  refine g_get_State_fired dX10_copyFrom_218 mw_223 (by assumption) ?_
  rw [show I213 172 b = W 1611 by rw [hI213, g_up_ne1 _ _ (by omega), hI205, g_up_ne1 _ _ (by omega), hI197, g_up_ne1 _ _ (by omega), ar_172 B189]]
  refine g_put_State_fired dX10_copyFrom_221 mw_223 (by assumption) (fun I221 hI221 => ?_)
  refine g_aload_n dX10_copyFrom_224 rfl rfl ?_
  refine g_aload_n dX10_copyFrom_225 rfl rfl ?_
  refine g_get_State_broken dX10_copyFrom_226 mw_224 (by assumption) ?_
  rw [show I221 173 b = W 1612 by rw [hI221, g_up_ne1 _ _ (by omega), hI213, g_up_ne1 _ _ (by omega), hI205, g_up_ne1 _ _ (by omega), hI197, g_up_ne1 _ _ (by omega), ar_173 B189]]
  refine g_put_State_broken dX10_copyFrom_229 mw_224 (by assumption) (fun I229 hI229 => ?_)
  have v229 : cV I229 R Q s = sU (sU (sU (sU (sU (cV I5 R Q s) 88 (W 88)) 89 (W 89)) 1610 (W 1610)) 1611 (W 1611)) 1612 (W 1612) := by rw [cu_173 hsh hI229, cu_172 hsh hI221, cu_171 hsh hI213, cu_167 hsh hI205, cu_166 hsh hI197, v189]
  have g229 : ag (cV I229 R Q s) W := by
    rw [v229]
    exact (((((g5.get 88).get 89).get 1610).get 1611).get 1612).mono (fun j hj => by simp only [lv] at hj; omega)
  have F229 := ((((F189.trans (cFr.up (A := A189) (by rw [hGs]) (by decide) hI197)).trans (cFr.up (by rw [hGs]) (by decide) hI205)).trans (cFr.up (by rw [hGs]) (by decide) hI213)).trans (cFr.up (by rw [hGs]) (by decide) hI221)).trans (cFr.up (by rw [hGs]) (by decide) hI229)
  have E229 : cE I229 A189 ev kq nq W := ⟨by rw [hI229, g_up_ne1 _ _ (by omega), hI221, g_up_ne1 _ _ (by omega), hI213, g_up_ne1 _ _ (by omega), hI205, g_up_ne1 _ _ (by omega), hI197, g_up_ne1 _ _ (by omega)]; exact E189.1, E189.2⟩
  exact g_vret dX10_copyFrom_232 rfl (by decide) (by decide) ⟨rfl, rfl, rfl, rfl, rfl, F229, g229, E229⟩
