def sTv (W : Int → Int) (g r : Int) : Int := if r = 1 then W (12 + g) else (W (12 + g)).tdiv 2
def sCon (W : Int → Int) (g r : Int) : Int := sSum (fun l => if W (410 + l) = g ∧ W (730 + l) = r then sContent W l else 0) (W 1614).toNat 0
def sPvG (W : Int → Int) (g : Int) : Int := sSum (fun r => sCon W g r * sTv W g r) 2 1
def sPV (W : Int → Int) : Int := sSum (fun g => sPvG W g) 4 0
theorem sPV_eq {W : Int → Int} (h : iL W) : sPV W = sWorthAll W := by
  have key : ∀ (n : Nat) (l : Int), 0 ≤ l → l + n ≤ W 1614 →
      sSum (fun g => sSum (fun r => sSum (fun l => if W (410 + l) = g ∧ W (730 + l) = r then sContent W l else 0) n l * sTv W g r) 2 1) 4 0 = sSum (fun l => sContent W l * sWorth W l) n l := by
    intro n
    induction n with
    | zero => intro l _ _; simp [sSum]
    | succ n ih =>
      intro l h0 h1
      have hi := ih (l + 1) (by omega) (by omega)
      have hl := h.2.2.1 l h0 (by omega)
      simp only [sSum] at hi ⊢
      rw [← hi]
      have ew : sContent W l * sWorth W l = sContent W l * sTv W (W (410 + l)) (W (730 + l)) := by
        simp only [sWorth, sTv]
      rw [ew]
      simp only [Int.add_mul]
      have hg : W (410 + l) = 0 ∨ W (410 + l) = 1 ∨ W (410 + l) = 2 ∨ W (410 + l) = 3 := by omega
      have hr : W (730 + l) = 1 ∨ W (730 + l) = 2 := by omega
      rcases hg with e | e | e | e <;> rcases hr with f | f <;> rw [e, f] <;> simp <;> omega
  exact key (W 1614).toNat 0 (by omega) (by have := h.1; omega)
theorem sCon_range {W : Int → Int} (h0 : iN W) (g r : Int) : 0 ≤ sCon W g r ∧ sCon W g r ≤ 1600000 := by
  have hs := h0.sums
  have h12 := h0.2.2.2.2.2.2.1.2.2.2.2.2.2.1
  have h1 : 0 ≤ sCon W g r := sSum_nnI (fun j a b => by show 0 ≤ (if _ then _ else (0 : Int)); have := h0.lot a b; split <;> omega)
  have h2 : sCon W g r ≤ sumL W := sSum_leq _ _ (fun j a b => by show (if _ then _ else (0 : Int)) ≤ _; have := h0.lot a (show j < W 1614 by omega); split <;> omega)
  omega
set_option maxHeartbeats 1000000 in
set_option maxRecDepth 100000 in
theorem lp_S_pv1 {Y : gEnv} {X : gCtx} {K N : Nat → Nat} {I : Nat → Nat → Int} {A : Nat → Int → Int} {R : Nat → Nat → Option Nat} {Q : Nat → Int → Option Nat} {po : gPo} {px : gPx} {s : Nat} {G : Nat → Nat × Int} {W : Int → Int} (hsh : cSh K N R Q G s) (hag : ag (cV I R Q s) W) (h0 : iN W) (g : Int) (hg : 0 ≤ g ∧ g ≤ 3) : ∀ (f m : Nat) (r z : Int), m < f → 1 ≤ r → r + m = 3 → gJ Y X yX10_presentValue cX10_presentValue 5 (some .long) ({ frames := 2, cells := 0, slots := 0, locals := 46 } : Room) po px 0 0 52 [(0, .ref s), (1, vl (z + sSum (fun r => sCon W g r * sTv W g r) m r)), (3, vi g)] [] K N I A R Q → gJ Y X yX10_presentValue cX10_presentValue 5 (some .long) ({ frames := 2, cells := 0, slots := 0, locals := 46 } : Room) po px 0 0 16 [(0, .ref s), (1, vl z), (3, vi g), (4, vi r)] [] K N I A R Q := by
  obtain ⟨hKs, hGs, ⟨zg1, zg2, zg3, zg4, zg5⟩, ⟨zq1, zq2, zq3, zq4, zq5⟩, ⟨zp1, zp2, zp3, zp4, zp5⟩, ⟨zl1, zl2, zl3, zl4, zl5⟩, ⟨zd1, zd2, zd3, zd4, zd5⟩⟩ := id hsh
  have c88 : I 166 s = W 88 := ar_166 hag
  have c89 : I 167 s = W 89 := ar_167 hag
  have c10 : I 171 s = W 1610 := ar_171 hag
  have c11 : I 172 s = W 1611 := ar_172 hag
  have c12 : I 173 s = W 1612 := ar_173 hag
  have c13 : I 168 s = W 1613 := ar_168 hag
  have c14 : I 169 s = W 1614 := ar_169 hag
  have c15 : I 170 s = W 1615 := ar_170 hag
  have hP := h0.2.2.2.1
  have hL := h0.2.2.2.2.1
  have n15 : 0 ≤ W 1615 ∧ W 1615 ≤ 40 := ⟨h0.2.2.2.2.2.1.1, h0.2.2.2.2.2.1.2.1⟩
  have nD := h0.2.2.2.2.2.1.2.2
  have nG := h0.1
  have nO := h0.2.1
  have nB := h0.2.2.1
  obtain ⟨s1, s2, s3, s4, s5, s6, s7, s8, s9, s10⟩ := h0.2.2.2.2.2.2.1
  have hsu := h0.sums
  have n13 : 0 ≤ W 1613 ∧ W 1613 ≤ 80 := ⟨hP.1, hP.2.1⟩
  have nP := hP.2.2.1
  have n14 : 0 ≤ W 1614 ∧ W 1614 ≤ 160 := ⟨hL.1, hL.2.1⟩
  have nL := hL.2.2.1

  intro f
  induction f with
  | zero => intro m r z h; omega
  | succ f ih =>
  intro m r z hf hr hm kx
  refine g_iload dX10_presentValue_16 rfl ?_
  refine g_iconst dX10_presentValue_18 ?_
  refine g_icmp_gt (tgt := 52) dX10_presentValue_19 (by decide) (by omega) (by omega) (fun c_19 => ?_) (fun c_19 => ?_)
  · rw [sSum_stop (by omega), Int.add_zero] at kx
    exact g_locs (by exact ⟨rfl, rfl, rfl, trivial⟩) kx
  · have hgg := nG g (by omega) (by omega)
    refine g_lload_n dX10_presentValue_22 rfl rfl ?_
    refine g_aload_n dX10_presentValue_23 rfl rfl ?_
    refine g_iload_n dX10_presentValue_24 rfl rfl ?_
    refine g_iload dX10_presentValue_25 rfl ?_
    refine g_callVp (i := 8) rfl (gK0 (by assumption)) (g_at8 (by assumption)) (k_S_contentOf Y hsh hag h0 g r (by omega) (by omega)) u_X10_contentOf mw_999 dX10_presentValue_27 rfl rfl ⟨Nat.le_of_ble_eq_true rfl, Nat.le_of_ble_eq_true rfl⟩ ⟨Nat.le_of_ble_eq_true rfl, Nat.le_of_ble_eq_true rfl⟩ (Nat.le_of_ble_eq_true rfl) ?_
    rw [show sSum (fun l => if W (410 + l) = g ∧ W (730 + l) = r then sContent W l else 0) (W 1614).toNat 0 = sCon W g r from rfl]
    have hcr := sCon_range h0 g r
    refine g_i2l dX10_presentValue_30 (by omega) ?_
    refine g_aload_n dX10_presentValue_31 rfl rfl ?_
    refine g_get_State_glazes dX10_presentValue_32 mw_204 (by assumption) (by assumption) ?_
    refine g_iload_n dX10_presentValue_35 rfl rfl ?_
    obtain ⟨zga, zgb, zgc⟩ := zg5 g (by omega) (by omega)
    refine g_aald_Glaze dX10_presentValue_36 (by assumption) (by omega) (by omega) (by assumption) ?_
    refine g_iload dX10_presentValue_37 rfl ?_
    refine g_callVp (i := 2) rfl (gK0 (by assumption)) (g_at2 (by assumption)) (k_G_tileValue Y zgb r (by omega) (by rw [ar_43 hag (i := g) (by omega) (by omega)]; omega)) u_X4_tileValue mw_708 dX10_presentValue_39 rfl rfl ⟨Nat.le_of_ble_eq_true rfl, Nat.le_of_ble_eq_true rfl⟩ ⟨Nat.le_of_ble_eq_true rfl, Nat.le_of_ble_eq_true rfl⟩ (Nat.le_of_ble_eq_true rfl) ?_
    rw [ar_43 hag (i := g) (by omega) (by omega)]
    have htd := td_pos (a := W (12 + g)) (b := 2) (by omega)
    rw [show (if r = 1 then W (12 + g) else (W (12 + g)).tdiv 2) = sTv W g r from rfl]
    have htv : 0 ≤ sTv W g r ∧ sTv W g r ≤ 9999 := by simp only [sTv]; split <;> omega
    refine g_i2l dX10_presentValue_42 (by omega) ?_
    refine g_lmul dX10_presentValue_43 ?_
    refine g_ladd dX10_presentValue_44 ?_
    refine g_lstore_n dX10_presentValue_45 rfl (by decide) ?_
    refine g_iinc dX10_presentValue_46 rfl (by decide) ?_
    refine g_goto (tgt := 16) dX10_presentValue_49 (by decide) ?_
    rw [sSum_step (by omega), ← Int.add_assoc] at kx
    exact g_locs (by exact ⟨rfl, rfl, rfl, rfl, trivial⟩) (ih (m - 1) (r + 1) _ (by omega) (by omega) (by omega) kx)
set_option maxHeartbeats 1000000 in
set_option maxRecDepth 100000 in
theorem lp_S_pv {Y : gEnv} {X : gCtx} {K N : Nat → Nat} {I : Nat → Nat → Int} {A : Nat → Int → Int} {R : Nat → Nat → Option Nat} {Q : Nat → Int → Option Nat} {s : Nat} {G : Nat → Nat × Int} {W : Int → Int} (hsh : cSh K N R Q G s) (hag : ag (cV I R Q s) W) (h0 : iN W) : ∀ (f m : Nat) (g z : Int), m < f → 0 ≤ g → g + m = 4 → gJ Y X yX10_presentValue cX10_presentValue 5 (some .long) ({ frames := 2, cells := 0, slots := 0, locals := 46 } : Room) (g_pu (some (vl (z + sSum (fun g => sPvG W g) m g))) K N I A R Q) gno 0 0 4 [(0, .ref s), (1, vl z), (3, vi g)] [] K N I A R Q := by
  obtain ⟨hKs, hGs, ⟨zg1, zg2, zg3, zg4, zg5⟩, ⟨zq1, zq2, zq3, zq4, zq5⟩, ⟨zp1, zp2, zp3, zp4, zp5⟩, ⟨zl1, zl2, zl3, zl4, zl5⟩, ⟨zd1, zd2, zd3, zd4, zd5⟩⟩ := id hsh
  have c88 : I 166 s = W 88 := ar_166 hag
  have c89 : I 167 s = W 89 := ar_167 hag
  have c10 : I 171 s = W 1610 := ar_171 hag
  have c11 : I 172 s = W 1611 := ar_172 hag
  have c12 : I 173 s = W 1612 := ar_173 hag
  have c13 : I 168 s = W 1613 := ar_168 hag
  have c14 : I 169 s = W 1614 := ar_169 hag
  have c15 : I 170 s = W 1615 := ar_170 hag
  have hP := h0.2.2.2.1
  have hL := h0.2.2.2.2.1
  have n15 : 0 ≤ W 1615 ∧ W 1615 ≤ 40 := ⟨h0.2.2.2.2.2.1.1, h0.2.2.2.2.2.1.2.1⟩
  have nD := h0.2.2.2.2.2.1.2.2
  have nG := h0.1
  have nO := h0.2.1
  have nB := h0.2.2.1
  obtain ⟨s1, s2, s3, s4, s5, s6, s7, s8, s9, s10⟩ := h0.2.2.2.2.2.2.1
  have hsu := h0.sums
  have n13 : 0 ≤ W 1613 ∧ W 1613 ≤ 80 := ⟨hP.1, hP.2.1⟩
  have nP := hP.2.2.1
  have n14 : 0 ≤ W 1614 ∧ W 1614 ≤ 160 := ⟨hL.1, hL.2.1⟩
  have nL := hL.2.2.1

  intro f
  induction f with
  | zero => intro m g z h; omega
  | succ f ih =>
  intro m g z hf hg hm
  refine g_iload_n dX10_presentValue_4 rfl rfl ?_
  refine g_aload_n dX10_presentValue_5 rfl rfl ?_
  refine g_get_State_glazes dX10_presentValue_6 mw_204 (by assumption) (by assumption) ?_
  refine g_alen_Glaze dX10_presentValue_9 (by assumption) ?_
  refine g_icmp_ge (tgt := 58) dX10_presentValue_10 (by decide) (by omega) (by omega) (fun c_10 => ?_) (fun c_10 => ?_)
  · refine g_lload_n dX10_presentValue_58 rfl rfl ?_
    exact g_lret dX10_presentValue_59 rfl (by decide) (by decide) (g_pu_l (by rw [sSum_stop (by omega), Int.add_zero]) _ _ _ _ _ _)
  · refine g_iconst dX10_presentValue_13 ?_
    refine g_istore dX10_presentValue_14 (by decide) ?_
    rw [sSum_step (by omega), ← Int.add_assoc]
    refine g_locs (by exact ⟨rfl, rfl, rfl, rfl, trivial⟩) (lp_S_pv1 hsh hag h0 g (by omega) _ 2 1 z (Nat.lt_succ_self _) (by omega) (by omega) ?_)
    rw [show sSum (fun r => sCon W g r * sTv W g r) 2 1 = sPvG W g from rfl]
    refine g_iinc dX10_presentValue_52 rfl (by decide) ?_
    refine g_goto (tgt := 4) dX10_presentValue_55 (by decide) ?_
    exact g_locs (by exact ⟨rfl, rfl, rfl, trivial⟩) (ih (m - 1) (g + 1) _ (by omega) (by omega) (by omega))
set_option maxHeartbeats 1000000 in
set_option maxRecDepth 100000 in
theorem k_S_presentValue (Y : gEnv) {K N : Nat → Nat} {I : Nat → Nat → Int} {A : Nat → Int → Int} {R : Nat → Nat → Option Nat} {Q : Nat → Int → Option Nat} {s : Nat} {G : Nat → Nat × Int} {W : Int → Int} (hsh : cSh K N R Q G s) (hag : ag (cV I R Q s) W) (h0 : iN W) : gC Y yX10_presentValue cX10_presentValue 5 (some .long) ({ frames := 2, cells := 0, slots := 0, locals := 46 } : Room) [.ref s] K N I A R Q (g_pu (some (vl (sWorthAll W))) K N I A R Q) gno := by
  refine gC_of (by decide) (Nat.le_of_ble_eq_true rfl) (fun X => ?_)
  have hl := lp_S_pv (Y := Y) (X := X) (A := A) hsh hag h0 _ 4 0 0 (Nat.lt_succ_self _) (by omega) (by omega)
  rw [Int.zero_add, show sSum (fun g => sPvG W g) 4 0 = sPV W from rfl, sPV_eq h0.2.2.2.2.1] at hl
  refine g_lconst (c := 0) dX10_presentValue_0 (by decide) ?_
  refine g_lstore_n dX10_presentValue_1 rfl (by decide) ?_
  refine g_iconst dX10_presentValue_2 ?_
  refine g_istore_n dX10_presentValue_3 rfl (by decide) ?_
  exact g_locs (by exact ⟨rfl, rfl, rfl, trivial⟩) hl
set_option maxHeartbeats 1000000 in
set_option maxRecDepth 100000 in
theorem k_S_sum (Y : gEnv) {K N : Nat → Nat} {I : Nat → Nat → Int} {A : Nat → Int → Int} {R : Nat → Nat → Option Nat} {Q : Nat → Int → Option Nat} {s : Nat} {G : Nat → Nat × Int} {W : Int → Int} (hsh : cSh K N R Q G s) (hag : ag (cV I R Q s) W) (h0 : iN W) (mm nn p : Int) (hp : 0 ≤ p ∧ p ≤ 14 ∧ p ≠ 12) : gC Y yX10_sum cX10_sum 2 (some .long) ({ frames := 3, cells := 0, slots := 0, locals := 70 } : Room) [.ref s, vi p] K N I A R Q (g_pu (some (vl (sTotQ W mm nn p))) K N I A R Q) gno := by
  refine gC_of (by decide) (Nat.le_of_ble_eq_true rfl) (fun X => ?_)
  obtain ⟨hKs, hGs, ⟨zg1, zg2, zg3, zg4, zg5⟩, ⟨zq1, zq2, zq3, zq4, zq5⟩, ⟨zp1, zp2, zp3, zp4, zp5⟩, ⟨zl1, zl2, zl3, zl4, zl5⟩, ⟨zd1, zd2, zd3, zd4, zd5⟩⟩ := id hsh
  have c88 : I 166 s = W 88 := ar_166 hag
  have c89 : I 167 s = W 89 := ar_167 hag
  have c10 : I 171 s = W 1610 := ar_171 hag
  have c11 : I 172 s = W 1611 := ar_172 hag
  have c12 : I 173 s = W 1612 := ar_173 hag
  have c13 : I 168 s = W 1613 := ar_168 hag
  have c14 : I 169 s = W 1614 := ar_169 hag
  have c15 : I 170 s = W 1615 := ar_170 hag
  have hP := h0.2.2.2.1
  have hL := h0.2.2.2.2.1
  have n15 : 0 ≤ W 1615 ∧ W 1615 ≤ 40 := ⟨h0.2.2.2.2.2.1.1, h0.2.2.2.2.2.1.2.1⟩
  have nD := h0.2.2.2.2.2.1.2.2
  have nG := h0.1
  have nO := h0.2.1
  have nB := h0.2.2.1
  obtain ⟨s1, s2, s3, s4, s5, s6, s7, s8, s9, s10⟩ := h0.2.2.2.2.2.2.1
  have hsu := h0.sums
  have n13 : 0 ≤ W 1613 ∧ W 1613 ≤ 80 := ⟨hP.1, hP.2.1⟩
  have nP := hP.2.2.1
  have n14 : 0 ≤ W 1614 ∧ W 1614 ≤ 160 := ⟨hL.1, hL.2.1⟩
  have nL := hL.2.2.1
  refine g_iload_n dX10_sum_0 rfl rfl ?_
  have hbx : 0 ≤ sBoxes W ∧ sBoxes W ≤ 1600000 := by
    have h1 := sSum_nnI (f := fun l => W (1050 + l)) (n := W 1614) (fun j a b => (h0.lot a b).2.1)
    have h2 := sSum_leq (f := fun l => W (1050 + l)) (g := fun l => sContent W l) (W 1614).toNat 0 (fun j a b => by have := h0.lot a (show j < W 1614 by omega); have := Int.mul_nonneg this.2.1 (show 0 ≤ W 89 by omega); omega)
    have h3 : sumL W = sSum (fun l => sContent W l) (W 1614).toNat 0 := rfl
    have h4 : sBoxes W = sSum (fun l => W (1050 + l)) (W 1614).toNat 0 := rfl
    omega
  have hlo : 0 ≤ sLoose W ∧ sLoose W ≤ 1600000 := by
    have h1 := sSum_nnI (f := fun l => W (890 + l)) (n := W 1614) (fun j a b => (h0.lot a b).1)
    have h2 := sSum_leq (f := fun l => W (890 + l)) (g := fun l => sContent W l) (W 1614).toNat 0 (fun j a b => by have := h0.lot a (show j < W 1614 by omega); have := Int.mul_nonneg this.2.1 (show 0 ≤ W 89 by omega); omega)
    have h3 : sumL W = sSum (fun l => sContent W l) (W 1614).toNat 0 := rfl
    have h4 : sLoose W = sSum (fun l => W (890 + l)) (W 1614).toNat 0 := rfl
    omega
  have hcm : sumO W * W 89 = W 89 * sumO W := Int.mul_comm _ _
  rcases (show p = 0 ∨ p = 1 ∨ p = 2 ∨ p = 3 ∨ p = 4 ∨ p = 5 ∨ p = 6 ∨ p = 7 ∨ p = 8 ∨ p = 9 ∨ p = 10 ∨ p = 11 ∨ p = 12 ∨ p = 13 ∨ (p < 0 ∨ 13 < p) by omega) with t1 | t1 | t1 | t1 | t1 | t1 | t1 | t1 | t1 | t1 | t1 | t1 | t1 | t1 | t1
  · refine g_tswIn (off := 71) (tgt := 72) dX10_sum_1 (by omega) 0 (by omega) (by omega) rfl (by decide) ?_
    refine g_aload_n dX10_sum_72 rfl rfl ?_
    refine g_get_State_sharpness dX10_sum_73 mw_215 (by assumption) ?_
    rw [c88]
    refine g_i2l dX10_sum_76 (by omega) ?_
    exact g_lret dX10_sum_77 rfl (by decide) (by decide) (g_pu_l (by simp only [sTotQ]; rw [if_pos (by omega)]) _ _ _ _ _ _)
  · refine g_tswIn (off := 77) (tgt := 78) dX10_sum_1 (by omega) 1 (by omega) (by omega) rfl (by decide) ?_
    refine g_aload_n dX10_sum_78 rfl rfl ?_
    refine g_get_State_boxSize dX10_sum_79 mw_217 (by assumption) ?_
    rw [c89]
    refine g_i2l dX10_sum_82 (by omega) ?_
    exact g_lret dX10_sum_83 rfl (by decide) (by decide) (g_pu_l (by simp only [sTotQ]; rw [if_neg (by omega), if_pos (by omega)]) _ _ _ _ _ _)
  · refine g_tswIn (off := 83) (tgt := 84) dX10_sum_1 (by omega) 2 (by omega) (by omega) rfl (by decide) ?_
    refine g_aload_n dX10_sum_84 rfl rfl ?_
    refine g_get_State_firings dX10_sum_85 mw_222 (by assumption) ?_
    rw [c10]
    refine g_i2l dX10_sum_88 (by omega) ?_
    exact g_lret dX10_sum_89 rfl (by decide) (by decide) (g_pu_l (by simp only [sTotQ]; rw [if_neg (by omega), if_neg (by omega), if_pos (by omega)]) _ _ _ _ _ _)
  · refine g_tswIn (off := 89) (tgt := 90) dX10_sum_1 (by omega) 3 (by omega) (by omega) rfl (by decide) ?_
    refine g_aload_n dX10_sum_90 rfl rfl ?_
    refine g_get_State_fired dX10_sum_91 mw_223 (by assumption) ?_
    rw [c11]
    refine g_i2l dX10_sum_94 (by omega) ?_
    exact g_lret dX10_sum_95 rfl (by decide) (by decide) (g_pu_l (by simp only [sTotQ]; rw [if_neg (by omega), if_neg (by omega), if_neg (by omega), if_pos (by omega)]) _ _ _ _ _ _)
  · refine g_tswIn (off := 95) (tgt := 96) dX10_sum_1 (by omega) 4 (by omega) (by omega) rfl (by decide) ?_
    refine g_aload_n dX10_sum_96 rfl rfl ?_
    refine g_get_State_broken dX10_sum_97 mw_224 (by assumption) ?_
    rw [c12]
    refine g_i2l dX10_sum_100 (by omega) ?_
    exact g_lret dX10_sum_101 rfl (by decide) (by decide) (g_pu_l (by simp only [sTotQ]; rw [if_neg (by omega), if_neg (by omega), if_neg (by omega), if_neg (by omega), if_pos (by omega)]) _ _ _ _ _ _)
  · refine g_tswIn (off := 101) (tgt := 102) dX10_sum_1 (by omega) 5 (by omega) (by omega) rfl (by decide) ?_
    refine g_aload_n dX10_sum_102 rfl rfl ?_
    refine g_callVp (i := 8) rfl (gK0 (by assumption)) (g_at8 (by assumption)) (k_S_tilesOnBench Y hsh hag h0) u_X10_tilesOnBench mw_985 dX10_sum_103 rfl rfl ⟨Nat.le_of_ble_eq_true rfl, Nat.le_of_ble_eq_true rfl⟩ ⟨Nat.le_of_ble_eq_true rfl, Nat.le_of_ble_eq_true rfl⟩ (Nat.le_of_ble_eq_true rfl) ?_
    rw [show sSum (fun l => W (250 + l)) (W 1613).toNat 0 = sumP W from rfl]
    refine g_i2l dX10_sum_106 (by omega) ?_
    exact g_lret dX10_sum_107 rfl (by decide) (by decide) (g_pu_l (by simp only [sTotQ]; rw [if_neg (by omega), if_neg (by omega), if_neg (by omega), if_neg (by omega), if_neg (by omega), if_pos (by omega)]) _ _ _ _ _ _)
  · refine g_tswIn (off := 107) (tgt := 108) dX10_sum_1 (by omega) 6 (by omega) (by omega) rfl (by decide) ?_
    refine g_aload_n dX10_sum_108 rfl rfl ?_
    refine g_callVp (i := 8) rfl (gK0 (by assumption)) (g_at8 (by assumption)) (k_S_looseTiles Y hsh hag h0) u_X10_looseTiles mw_989 dX10_sum_109 rfl rfl ⟨Nat.le_of_ble_eq_true rfl, Nat.le_of_ble_eq_true rfl⟩ ⟨Nat.le_of_ble_eq_true rfl, Nat.le_of_ble_eq_true rfl⟩ (Nat.le_of_ble_eq_true rfl) ?_
    rw [show sSum (fun l => W (890 + l)) (W 1614).toNat 0 = sLoose W from rfl]
    refine g_i2l dX10_sum_112 (by omega) ?_
    exact g_lret dX10_sum_113 rfl (by decide) (by decide) (g_pu_l (by simp only [sTotQ]; rw [if_neg (by omega), if_neg (by omega), if_neg (by omega), if_neg (by omega), if_neg (by omega), if_neg (by omega), if_pos (by omega)]) _ _ _ _ _ _)
  · refine g_tswIn (off := 113) (tgt := 114) dX10_sum_1 (by omega) 7 (by omega) (by omega) rfl (by decide) ?_
    refine g_aload_n dX10_sum_114 rfl rfl ?_
    refine g_callVp (i := 8) rfl (gK0 (by assumption)) (g_at8 (by assumption)) (k_S_boxesInLots Y hsh hag h0) u_X10_boxesInLots mw_993 dX10_sum_115 rfl rfl ⟨Nat.le_of_ble_eq_true rfl, Nat.le_of_ble_eq_true rfl⟩ ⟨Nat.le_of_ble_eq_true rfl, Nat.le_of_ble_eq_true rfl⟩ (Nat.le_of_ble_eq_true rfl) ?_
    rw [show sSum (fun l => W (1050 + l)) (W 1614).toNat 0 = sBoxes W from rfl]
    refine g_i2l dX10_sum_118 (by omega) ?_
    exact g_lret dX10_sum_119 rfl (by decide) (by decide) (g_pu_l (by simp only [sTotQ]; rw [if_neg (by omega), if_neg (by omega), if_neg (by omega), if_neg (by omega), if_neg (by omega), if_neg (by omega), if_neg (by omega), if_pos (by omega)]) _ _ _ _ _ _)
  · refine g_tswIn (off := 119) (tgt := 120) dX10_sum_1 (by omega) 8 (by omega) (by omega) rfl (by decide) ?_
    refine g_aload_n dX10_sum_120 rfl rfl ?_
    refine g_callVp (i := 8) rfl (gK0 (by assumption)) (g_at8 (by assumption)) (k_S_boxesOut Y hsh hag h0) u_X10_boxesOut mw_994 dX10_sum_121 rfl rfl ⟨Nat.le_of_ble_eq_true rfl, Nat.le_of_ble_eq_true rfl⟩ ⟨Nat.le_of_ble_eq_true rfl, Nat.le_of_ble_eq_true rfl⟩ (Nat.le_of_ble_eq_true rfl) ?_
    rw [show sSum (fun l => W (1450 + l)) (W 1615).toNat 0 = sumO W from rfl]
    refine g_aload_n dX10_sum_124 rfl rfl ?_
    refine g_get_State_boxSize dX10_sum_125 mw_217 (by assumption) ?_
    rw [c89]
    refine g_imul dX10_sum_128 ?_
    refine g_i2l dX10_sum_129 (by omega) ?_
    exact g_lret dX10_sum_130 rfl (by decide) (by decide) (g_pu_l (by simp only [sTotQ]; rw [if_neg (by omega), if_neg (by omega), if_neg (by omega), if_neg (by omega), if_neg (by omega), if_neg (by omega), if_neg (by omega), if_neg (by omega), if_pos (by omega)]) _ _ _ _ _ _)
  · refine g_tswIn (off := 130) (tgt := 131) dX10_sum_1 (by omega) 9 (by omega) (by omega) rfl (by decide) ?_
    refine g_aload_n dX10_sum_131 rfl rfl ?_
    refine g_get_State_pileCount dX10_sum_132 mw_219 (by assumption) ?_
    rw [c13]
    refine g_i2l dX10_sum_135 (by omega) ?_
    exact g_lret dX10_sum_136 rfl (by decide) (by decide) (g_pu_l (by simp only [sTotQ]; rw [if_neg (by omega), if_neg (by omega), if_neg (by omega), if_neg (by omega), if_neg (by omega), if_neg (by omega), if_neg (by omega), if_neg (by omega), if_neg (by omega), if_pos (by omega)]) _ _ _ _ _ _)
  · refine g_tswIn (off := 136) (tgt := 137) dX10_sum_1 (by omega) 10 (by omega) (by omega) rfl (by decide) ?_
    refine g_aload_n dX10_sum_137 rfl rfl ?_
    refine g_get_State_lotCount dX10_sum_138 mw_220 (by assumption) ?_
    rw [c14]
    refine g_i2l dX10_sum_141 (by omega) ?_
    exact g_lret dX10_sum_142 rfl (by decide) (by decide) (g_pu_l (by simp only [sTotQ]; rw [if_neg (by omega), if_neg (by omega), if_neg (by omega), if_neg (by omega), if_neg (by omega), if_neg (by omega), if_neg (by omega), if_neg (by omega), if_neg (by omega), if_neg (by omega), if_pos (by omega)]) _ _ _ _ _ _)
  · refine g_tswIn (off := 142) (tgt := 143) dX10_sum_1 (by omega) 11 (by omega) (by omega) rfl (by decide) ?_
    refine g_aload_n dX10_sum_143 rfl rfl ?_
    refine g_get_State_deliveryCount dX10_sum_144 mw_221 (by assumption) ?_
    rw [c15]
    refine g_i2l dX10_sum_147 (by omega) ?_
    exact g_lret dX10_sum_148 rfl (by decide) (by decide) (g_pu_l (by simp only [sTotQ]; rw [if_neg (by omega), if_neg (by omega), if_neg (by omega), if_neg (by omega), if_neg (by omega), if_neg (by omega), if_neg (by omega), if_neg (by omega), if_neg (by omega), if_neg (by omega), if_neg (by omega), if_pos (by omega)]) _ _ _ _ _ _)
  · refine g_tswIn (off := 153) (tgt := 154) dX10_sum_1 (by omega) 12 (by omega) (by omega) rfl (by decide) ?_
    refine g_aload_n dX10_sum_154 rfl rfl ?_
    refine g_callVp (i := 8) rfl (gK0 (by assumption)) (g_at8 (by assumption)) (k_S_deliveredValue Y hsh hag h0) u_X10_deliveredValue mw_1004 dX10_sum_155 rfl rfl ⟨Nat.le_of_ble_eq_true rfl, Nat.le_of_ble_eq_true rfl⟩ ⟨Nat.le_of_ble_eq_true rfl, Nat.le_of_ble_eq_true rfl⟩ (Nat.le_of_ble_eq_true rfl) ?_
    rw [show sSum (fun l => W (1530 + l)) (W 1615).toNat 0 = W 1617 from s10.symm]
    exact g_lret dX10_sum_158 rfl (by decide) (by decide) (g_pu_l (by simp only [sTotQ]; rw [if_neg (by omega), if_neg (by omega), if_neg (by omega), if_neg (by omega), if_neg (by omega), if_neg (by omega), if_neg (by omega), if_neg (by omega), if_neg (by omega), if_neg (by omega), if_neg (by omega), if_neg (by omega), if_neg (by omega), if_neg (by omega), if_pos (by omega)]) _ _ _ _ _ _)
  · refine g_tswIn (off := 148) (tgt := 149) dX10_sum_1 (by omega) 13 (by omega) (by omega) rfl (by decide) ?_
    refine g_aload_n dX10_sum_149 rfl rfl ?_
    refine g_callVp (i := 8) rfl (gK0 (by assumption)) (g_at8 (by assumption)) (k_S_presentValue Y hsh hag h0) u_X10_presentValue mw_995 dX10_sum_150 rfl rfl ⟨Nat.le_of_ble_eq_true rfl, Nat.le_of_ble_eq_true rfl⟩ ⟨Nat.le_of_ble_eq_true rfl, Nat.le_of_ble_eq_true rfl⟩ (Nat.le_of_ble_eq_true rfl) ?_
    exact g_lret dX10_sum_153 rfl (by decide) (by decide) (g_pu_l (by simp only [sTotQ]; rw [if_neg (by omega), if_neg (by omega), if_neg (by omega), if_neg (by omega), if_neg (by omega), if_neg (by omega), if_neg (by omega), if_neg (by omega), if_neg (by omega), if_neg (by omega), if_neg (by omega), if_neg (by omega), if_neg (by omega), if_pos (by omega)]) _ _ _ _ _ _)
  · refine g_tswOut (tgt := 154) dX10_sum_1 (by omega) (by omega) (by decide) ?_
    refine g_aload_n dX10_sum_154 rfl rfl ?_
    refine g_callVp (i := 8) rfl (gK0 (by assumption)) (g_at8 (by assumption)) (k_S_deliveredValue Y hsh hag h0) u_X10_deliveredValue mw_1004 dX10_sum_155 rfl rfl ⟨Nat.le_of_ble_eq_true rfl, Nat.le_of_ble_eq_true rfl⟩ ⟨Nat.le_of_ble_eq_true rfl, Nat.le_of_ble_eq_true rfl⟩ (Nat.le_of_ble_eq_true rfl) ?_
    rw [show sSum (fun l => W (1530 + l)) (W 1615).toNat 0 = W 1617 from s10.symm]
    exact g_lret dX10_sum_158 rfl (by decide) (by decide) (g_pu_l (by simp only [sTotQ]; rw [if_neg (by omega), if_neg (by omega), if_neg (by omega), if_neg (by omega), if_neg (by omega), if_neg (by omega), if_neg (by omega), if_neg (by omega), if_neg (by omega), if_neg (by omega), if_neg (by omega), if_neg (by omega), if_neg (by omega), if_neg (by omega), if_pos (by omega)]) _ _ _ _ _ _)
def sInsL : Nat → Int → Int → (Int → Int) → (Int → Int)
  | 0, _, _, f => f
  | n + 1, i, h, f => if f i < h then sInsL n (i + 1) (f i) (sU f i h) else sInsL n (i + 1) h f
theorem sInsL_stop {i h : Int} {f : Int → Int} {n : Nat} (e : n = 0) : sInsL n i h f = f := by subst e; rfl
theorem sInsL_take {i h : Int} {f : Int → Int} {n : Nat} (e : 0 < n) (hp : f i < h) : sInsL n i h f = sInsL (n - 1) (i + 1) (f i) (sU f i h) := by
  obtain ⟨q, rfl⟩ : ∃ q, n = q + 1 := ⟨n - 1, by omega⟩
  simp only [sInsL, if_pos hp, Nat.add_sub_cancel]
theorem sInsL_skip {i h : Int} {f : Int → Int} {n : Nat} (e : 0 < n) (hp : ¬ f i < h) : sInsL n i h f = sInsL (n - 1) (i + 1) h f := by
  obtain ⟨q, rfl⟩ : ∃ q, n = q + 1 := ⟨n - 1, by omega⟩
  simp only [sInsL, if_neg hp, Nat.add_sub_cancel]
theorem sInsL_range {B : Int} : ∀ (n : Nat) (i h : Int) (f : Int → Int), 0 ≤ h ∧ h ≤ B → (∀ j, 0 ≤ j → j < 3 → 0 ≤ f j ∧ f j ≤ B) → 0 ≤ i → i + n ≤ 3 → ∀ j, 0 ≤ j → j < 3 → 0 ≤ sInsL n i h f j ∧ sInsL n i h f j ≤ B
  | 0, i, h, f, _, hf, _, _ => hf
  | n + 1, i, h, f, hh, hf, h1, h2 => by
    have hi := hf i h1 (by omega)
    simp only [sInsL]
    split
    · refine sInsL_range n (i + 1) (f i) _ hi (fun j a b => ?_) (by omega) (by omega)
      by_cases e : j = i
      · rw [e, sU_eq]; exact hh
      · rw [sU_ne _ _ e]; exact hf j a b
    · exact sInsL_range n (i + 1) h f hh hf (by omega) (by omega)
def sFulL (W : Int → Int) (g r : Int) : Nat → Int → (Int → Int) → (Int → Int)
  | 0, _, f => f
  | n + 1, l, f => sFulL W g r n (l + 1) (if W (410 + l) = g ∧ W (730 + l) = r then sInsL 3 0 (W (1050 + l)) f else f)
theorem sFulL_stop {W : Int → Int} {g r l : Int} {f : Int → Int} {n : Nat} (e : n = 0) : sFulL W g r n l f = f := by subst e; rfl
theorem sFulL_step {W : Int → Int} {g r l : Int} {f : Int → Int} {n : Nat} (e : 0 < n) : sFulL W g r n l f = sFulL W g r (n - 1) (l + 1) (if W (410 + l) = g ∧ W (730 + l) = r then sInsL 3 0 (W (1050 + l)) f else f) := by
  obtain ⟨q, rfl⟩ : ∃ q, n = q + 1 := ⟨n - 1, by omega⟩
  simp only [sFulL, Nat.add_sub_cancel]
theorem cSh.new {K N : Nat → Nat} {R : Nat → Nat → Option Nat} {Q : Nat → Int → Option Nat} {G : Nat → Nat × Int} {s q v m : Nat} (h : cSh K N R Q G s) (hq : K q = 0) : cSh (va_up K q v) (va_up N q m) R Q G s := by
  have hk : ∀ b, K b ≠ 0 → va_up K q v b = K b := fun b hb => va_up_ne _ _ (fun e => hb (by rw [e]; exact hq))
  have hn : ∀ b, K b ≠ 0 → va_up N q m b = N b := fun b hb => va_up_ne _ _ (fun e => hb (by rw [e]; exact hq))
  have hr : ∀ f kd cl n, kd ≠ 0 → cl ≠ 0 → cRow K N R Q G s f kd cl n → cRow (va_up K q v) (va_up N q m) R Q G s f kd cl n := fun f kd cl n h1 h2 ⟨a, b, c, d, e⟩ =>
    ⟨a, by rw [hk _ (by rw [b]; exact h1)]; exact b, by rw [hn _ (by rw [b]; exact h1)]; exact c, d, fun i x y => by
      obtain ⟨e1, e2, e3⟩ := e i x y
      exact ⟨e1, by rw [hk _ (by rw [e2]; exact h2)]; exact e2, e3⟩⟩
  obtain ⟨h1, h2, a, b, c, d, e⟩ := h
  exact ⟨by rw [hk _ (by rw [h1]; decide)]; exact h1, h2, hr _ _ _ _ (by decide) (by decide) a, hr _ _ _ _ (by decide) (by decide) b, hr _ _ _ _ (by decide) (by decide) c, hr _ _ _ _ (by decide) (by decide) d, hr _ _ _ _ (by decide) (by decide) e⟩
set_option maxHeartbeats 1000000 in
set_option maxRecDepth 100000 in
theorem lp_S_insert {Y : gEnv} {X : gCtx} {K N : Nat → Nat} {I : Nat → Nat → Int} {A : Nat → Int → Int} {R : Nat → Nat → Option Nat} {Q : Nat → Int → Option Nat} {A0 : Nat → Int → Int} {q : Nat} (hK : K q = 13) (hN : N q = 3) (x : Int) (hx : 0 ≤ x ∧ x ≤ 10000000) : ∀ (f m : Nat) (i h : Int) (f0 : Int → Int), m < f → 0 ≤ i → i + m = 3 → (0 ≤ h ∧ h ≤ 10000000) → (∀ j, 0 ≤ j → j < 3 → 0 ≤ f0 j ∧ f0 j ≤ 10000000) → sInsL m i h f0 = sInsL 3 0 x (A0 q) → A = g_rw A0 q f0 → gJ Y X yX10_insert cX10_insert 5 none ({ frames := 0, cells := 0, slots := 0, locals := 0 } : Room) (g_wr K N R Q (fun v I' A' => v = none ∧ I' = I ∧ A' = g_rw A0 q (sInsL 3 0 x (A0 q)))) gno 0 0 4 [(0, .ref q), (1, vi x), (2, vi h), (3, vi i)] [] K N I A R Q := by

  intro f
  induction f generalizing A with
  | zero => intro m i h f0 h; omega
  | succ f ih =>
  intro m i h f0 hf hi hm hh hf0 he hA
  have eA : A q = f0 := by rw [hA, g_rw_at]
  refine g_iload_n dX10_insert_4 rfl rfl ?_
  refine g_aload_n dX10_insert_5 rfl rfl ?_
  refine g_alen_i dX10_insert_6 (by assumption) ?_
  refine g_icmp_ge (tgt := 35) dX10_insert_7 (by decide) (by omega) (by omega) (fun c_7 => ?_) (fun c_7 => ?_)
  · rw [sInsL_stop (by omega)] at he
    exact g_vret dX10_insert_35 rfl (by decide) (by decide) ⟨rfl, rfl, rfl, rfl, rfl, rfl, by rw [hA, he]⟩
  · have hfi := hf0 i hi (by omega)
    refine g_iload_n dX10_insert_10 rfl rfl ?_
    refine g_aload_n dX10_insert_11 rfl rfl ?_
    refine g_iload_n dX10_insert_12 rfl rfl ?_
    skip
    refine g_iaload dX10_insert_13 (by assumption) (by omega) (by omega) ?_
    rw [eA]
    refine g_icmp_le (tgt := 29) dX10_insert_14 (by decide) (by omega) (by omega) (fun c_14 => ?_) (fun c_14 => ?_)
    · refine g_iinc dX10_insert_29 rfl (by decide) ?_
      refine g_goto (tgt := 4) dX10_insert_32 (by decide) ?_
      first
      | (rw [sInsL_take (by omega) (by omega)] at he
         refine g_locs (by exact ⟨rfl, rfl, rfl, rfl, trivial⟩) (ih (m - 1) (i + 1) (f0 i) (sU f0 i h) (by omega) (by omega) (by omega) hfi (fun j a b => ?_) he ?_)
         · by_cases e : j = i
           · rw [e, sU_eq]; exact hh
           · rw [sU_ne _ _ e]; exact hf0 j a b
         · rw [hA25, g_uq_rw, eA, hA, g_rw_rw])
      | (rw [sInsL_skip (by omega) (by omega)] at he
         exact g_locs (by exact ⟨rfl, rfl, rfl, rfl, trivial⟩) (ih (m - 1) (i + 1) h f0 (by omega) (by omega) (by omega) hh hf0 he hA))
    · refine g_aload_n dX10_insert_17 rfl rfl ?_
      refine g_iload_n dX10_insert_18 rfl rfl ?_
      refine g_iaload dX10_insert_19 (by assumption) (by omega) (by omega) ?_
      rw [eA]
      refine g_istore dX10_insert_20 (by decide) ?_
      refine g_aload_n dX10_insert_22 rfl rfl ?_
      refine g_iload_n dX10_insert_23 rfl rfl ?_
      refine g_iload_n dX10_insert_24 rfl rfl ?_
      refine g_iastore dX10_insert_25 (by assumption) (by omega) (by omega) (fun A25 hA25 => ?_)
      have eA25 := congrFun (hA25.trans (g_uq_rw _ _ _ _)) q
      rw [g_rw_at] at eA25
      refine g_iload dX10_insert_26 rfl ?_
      refine g_istore_n dX10_insert_28 rfl (by decide) ?_
      refine g_iinc dX10_insert_29 rfl (by decide) ?_
      refine g_goto (tgt := 4) dX10_insert_32 (by decide) ?_
      first
      | (rw [sInsL_take (by omega) (by omega)] at he
         refine g_locs (by exact ⟨rfl, rfl, rfl, rfl, trivial⟩) (ih (m - 1) (i + 1) (f0 i) (sU f0 i h) (by omega) (by omega) (by omega) hfi (fun j a b => ?_) he ?_)
         · by_cases e : j = i
           · rw [e, sU_eq]; exact hh
           · rw [sU_ne _ _ e]; exact hf0 j a b
         · rw [hA25, g_uq_rw, eA, hA, g_rw_rw])
      | (rw [sInsL_skip (by omega) (by omega)] at he
         exact g_locs (by exact ⟨rfl, rfl, rfl, rfl, trivial⟩) (ih (m - 1) (i + 1) h f0 (by omega) (by omega) (by omega) hh hf0 he hA))
set_option maxHeartbeats 1000000 in
set_option maxRecDepth 100000 in
theorem k_S_insert (Y : gEnv) {K N : Nat → Nat} {I : Nat → Nat → Int} {A : Nat → Int → Int} {R : Nat → Nat → Option Nat} {Q : Nat → Int → Option Nat} {q : Nat} (hK : K q = 13) (hN : N q = 3) (x : Int) (hx : 0 ≤ x ∧ x ≤ 10000000) (hf0 : ∀ j, 0 ≤ j → j < 3 → 0 ≤ A q j ∧ A q j ≤ 10000000) : gC Y yX10_insert cX10_insert 5 none ({ frames := 0, cells := 0, slots := 0, locals := 0 } : Room) [.ref q, vi x] K N I A R Q (g_wr K N R Q (fun v I' A' => v = none ∧ I' = I ∧ A' = g_rw A q (sInsL 3 0 x (A q)))) gno := by
  refine gC_of (by decide) (Nat.le_of_ble_eq_true rfl) (fun X => ?_)
  refine g_iload_n dX10_insert_0 rfl rfl ?_
  refine g_istore_n dX10_insert_1 rfl (by decide) ?_
  refine g_iconst dX10_insert_2 ?_
  refine g_istore_n dX10_insert_3 rfl (by decide) ?_
  exact g_locs (by exact ⟨rfl, rfl, rfl, rfl, trivial⟩) (lp_S_insert (A0 := A) hK hN x hx _ 3 0 x (A q) (Nat.lt_succ_self _) (by omega) (by omega) hx hf0 rfl (by rw [g_rw_self]))
set_option maxHeartbeats 1000000 in
set_option maxRecDepth 100000 in
theorem lp_S_fullest {Y : gEnv} {X : gCtx} {K N : Nat → Nat} {I : Nat → Nat → Int} {A : Nat → Int → Int} {R : Nat → Nat → Option Nat} {Q : Nat → Int → Option Nat} {po : gPo} {px : gPx} {A0 : Nat → Int → Int} {q : Nat} (hKq : K q = 13) (hNq : N q = 3) {s : Nat} {G : Nat → Nat × Int} {W : Int → Int} (hsh : cSh K N R Q G s) (hag : ag (cV I R Q s) W) (h0 : iN W) (g r : Int) (hg : 0 ≤ g ∧ g ≤ 3) (hr : 1 ≤ r ∧ r ≤ 2) (hpo : po (some (.ref q)) K N I (g_rw A0 q (sFulL W g r (W 1614).toNat 0 (fun _ => 0))) R Q) : ∀ (f m : Nat) (l : Int) (f0 : Int → Int), m < f → 0 ≤ l → l + m = W 1614 → (∀ j, 0 ≤ j → j < 3 → 0 ≤ f0 j ∧ f0 j ≤ 10000000) → sFulL W g r m l f0 = sFulL W g r (W 1614).toNat 0 (fun _ => 0) → A = g_rw A0 q f0 → gJ Y X yX10_fullestLots cX10_fullestLots 5 (some (.array .int)) ({ frames := 1, cells := 1, slots := 3, locals := 24 } : Room) po px 1 3 7 [(0, .ref s), (1, vi g), (2, vi r), (3, .ref q), (4, vi l)] [] K N I A R Q := by
  obtain ⟨hKs, hGs, ⟨zg1, zg2, zg3, zg4, zg5⟩, ⟨zq1, zq2, zq3, zq4, zq5⟩, ⟨zp1, zp2, zp3, zp4, zp5⟩, ⟨zl1, zl2, zl3, zl4, zl5⟩, ⟨zd1, zd2, zd3, zd4, zd5⟩⟩ := id hsh
  have c88 : I 166 s = W 88 := ar_166 hag
  have c89 : I 167 s = W 89 := ar_167 hag
  have c10 : I 171 s = W 1610 := ar_171 hag
  have c11 : I 172 s = W 1611 := ar_172 hag
  have c12 : I 173 s = W 1612 := ar_173 hag
  have c13 : I 168 s = W 1613 := ar_168 hag
  have c14 : I 169 s = W 1614 := ar_169 hag
  have c15 : I 170 s = W 1615 := ar_170 hag
  have hP := h0.2.2.2.1
  have hL := h0.2.2.2.2.1
  have n15 : 0 ≤ W 1615 ∧ W 1615 ≤ 40 := ⟨h0.2.2.2.2.2.1.1, h0.2.2.2.2.2.1.2.1⟩
  have nD := h0.2.2.2.2.2.1.2.2
  have nG := h0.1
  have nO := h0.2.1
  have nB := h0.2.2.1
  obtain ⟨s1, s2, s3, s4, s5, s6, s7, s8, s9, s10⟩ := h0.2.2.2.2.2.2.1
  have hsu := h0.sums
  have n13 : 0 ≤ W 1613 ∧ W 1613 ≤ 80 := ⟨hP.1, hP.2.1⟩
  have nP := hP.2.2.1
  have n14 : 0 ≤ W 1614 ∧ W 1614 ≤ 160 := ⟨hL.1, hL.2.1⟩
  have nL := hL.2.2.1

  intro f
  induction f generalizing A with
  | zero => intro m l f0 h; omega
  | succ f ih =>
  intro m l f0 hf hl hm hf0 he hA
  have eA : A q = f0 := by rw [hA, g_rw_at]
  refine g_iload dX10_fullestLots_7 rfl ?_
  refine g_aload_n dX10_fullestLots_9 rfl rfl ?_
  refine g_get_State_lotCount dX10_fullestLots_10 mw_220 (by assumption) ?_
  refine g_icmp_ge (tgt := 51) dX10_fullestLots_13 (by decide) (by omega) (by omega) (fun c_13 => ?_) (fun c_13 => ?_)
  · refine g_aload_n dX10_fullestLots_51 rfl rfl ?_
    exact g_aret dX10_fullestLots_52 rfl (Or.inr ⟨_, rfl⟩) (by decide) (by decide) (by rw [hA]; rw [← he, sFulL_stop (by omega)] at hpo; exact hpo)
  · refine g_aload_n dX10_fullestLots_16 rfl rfl ?_
    refine g_get_State_lots dX10_fullestLots_17 mw_209 (by assumption) (by assumption) ?_
    obtain ⟨zla, zlb, zlc⟩ := zl5 l (by omega) (by omega)
    have nlo := h0.lot (l := l) (by omega) (by omega)
    have nlm := Int.mul_nonneg nlo.2.1 (show 0 ≤ W 89 by omega)
    refine g_iload dX10_fullestLots_20 rfl ?_
    obtain ⟨zla, zlb, zlc⟩ := zl5 l (by omega) (by omega)
    have nlo := h0.lot (l := l) (by omega) (by omega)
    have nlm := Int.mul_nonneg nlo.2.1 (show 0 ≤ W 89 by omega)
    refine g_aald_Lot dX10_fullestLots_22 (by assumption) (by omega) (by omega) (by assumption) ?_
    refine g_iload_n dX10_fullestLots_23 rfl rfl ?_
    refine g_iload_n dX10_fullestLots_24 rfl rfl ?_
    refine g_callVp (i := 4) rfl (gK0 (by assumption)) (g_at4 (by assumption)) (k_L_isOf Y zlb g r (by omega) (by omega) (by rw [ar_80 hag (i := l) (by omega) (by omega) (by omega)]; have := nL l (by omega) (by omega); omega) (by rw [ar_82 hag (i := l) (by omega) (by omega) (by omega)]; have := nL l (by omega) (by omega); omega)) u_X6_isOf mw_642 dX10_fullestLots_25 rfl rfl ⟨Nat.le_of_ble_eq_true rfl, Nat.le_of_ble_eq_true rfl⟩ ⟨Nat.le_of_ble_eq_true rfl, Nat.le_of_ble_eq_true rfl⟩ (Nat.le_of_ble_eq_true rfl) ?_
    rw [ar_80 hag (i := l) (by omega) (by omega) (by omega), ar_82 hag (i := l) (by omega) (by omega) (by omega)]
    have b25 := ifd (W (410 + l) = g ∧ W (730 + l) = r)
    generalize (if W (410 + l) = g ∧ W (730 + l) = r then (1 : Int) else 0) = z25 at b25 ⊢
    refine g_if_eq (tgt := 45) dX10_fullestLots_28 (by decide) (by omega) (fun c_28 => ?_) (fun c_28 => ?_)
    · refine g_iinc dX10_fullestLots_45 rfl (by decide) ?_
      refine g_goto (tgt := 7) dX10_fullestLots_48 (by decide) ?_
      rw [sFulL_step (by omega)] at he
      first
      | (rw [if_pos (by omega)] at he
         exact g_locs (by exact ⟨rfl, rfl, rfl, rfl, rfl, trivial⟩) (ih (m - 1) (l + 1) (sInsL 3 0 (W (1050 + l)) f0) (by omega) (by omega) (by omega) (sInsL_range 3 0 _ f0 (by omega) hf0 (by omega) (by omega)) he (by rw [a42, hA, g_rw_rw])))
      | (rw [if_neg (by omega)] at he
         exact g_locs (by exact ⟨rfl, rfl, rfl, rfl, rfl, trivial⟩) (ih (m - 1) (l + 1) f0 (by omega) (by omega) (by omega) hf0 he hA))
    · refine g_aload_n dX10_fullestLots_31 rfl rfl ?_
      refine g_aload_n dX10_fullestLots_32 rfl rfl ?_
      refine g_get_State_lots dX10_fullestLots_33 mw_209 (by assumption) (by assumption) ?_
      refine g_iload dX10_fullestLots_36 rfl ?_
      obtain ⟨zla, zlb, zlc⟩ := zl5 l (by omega) (by omega)
      refine g_aald_Lot dX10_fullestLots_38 (by assumption) (by omega) (by omega) (by assumption) ?_
      refine g_get_Lot_boxes dX10_fullestLots_39 mw_162 (by assumption) ?_
      rw [ar_84 hag (i := l) (by omega) (by omega) (by omega)]
      refine g_callSw (k_S_insert Y hKq hNq (W (1050 + l)) (by omega) (by rw [eA]; exact hf0)) u_X10_insert mw_828 rfl dX10_fullestLots_42 rfl rfl ⟨Nat.le_of_ble_eq_true rfl, Nat.le_of_ble_eq_true rfl⟩ ⟨Nat.le_of_ble_eq_true rfl, Nat.le_of_ble_eq_true rfl⟩ (Nat.le_of_ble_eq_true rfl) (fun v42 I42 A42 h42 => ?_)
      obtain ⟨rfl, i42, a42⟩ := h42
      obtain rfl := i42.symm
      rw [eA] at a42
      refine g_iinc dX10_fullestLots_45 rfl (by decide) ?_
      refine g_goto (tgt := 7) dX10_fullestLots_48 (by decide) ?_
      rw [sFulL_step (by omega)] at he
      first
      | (rw [if_pos (by omega)] at he
         exact g_locs (by exact ⟨rfl, rfl, rfl, rfl, rfl, trivial⟩) (ih (m - 1) (l + 1) (sInsL 3 0 (W (1050 + l)) f0) (by omega) (by omega) (by omega) (sInsL_range 3 0 _ f0 (by omega) hf0 (by omega) (by omega)) he (by rw [a42, hA, g_rw_rw])))
      | (rw [if_neg (by omega)] at he
         exact g_locs (by exact ⟨rfl, rfl, rfl, rfl, rfl, trivial⟩) (ih (m - 1) (l + 1) f0 (by omega) (by omega) (by omega) hf0 he hA))
set_option maxHeartbeats 1000000 in
set_option maxRecDepth 100000 in
theorem k_S_fullest (Y : gEnv) {K N : Nat → Nat} {I : Nat → Nat → Int} {A : Nat → Int → Int} {R : Nat → Nat → Option Nat} {Q : Nat → Int → Option Nat} {s : Nat} {G : Nat → Nat × Int} {W : Int → Int} (hsh : cSh K N R Q G s) (hag : ag (cV I R Q s) W) (h0 : iN W) (g r : Int) (hg : 0 ≤ g ∧ g ≤ 3) (hr : 1 ≤ r ∧ r ≤ 2) : gC Y yX10_fullestLots cX10_fullestLots 5 (some (.array .int)) ({ frames := 1, cells := 1, slots := 3, locals := 24 } : Room) [.ref s, vi g, vi r] K N I A R Q (fun v K' N' I' A' R' Q' => ∃ q, K q = 0 ∧ v = some (.ref q) ∧ K' = va_up K q 13 ∧ N' = va_up N q 3 ∧ I' = I ∧ R' = R ∧ Q' = Q ∧ A' = g_rw A q (sFulL W g r (W 1614).toNat 0 (fun _ => 0))) gno := by
  refine gC_of (by decide) (Nat.le_of_ble_eq_true rfl) (fun X => ?_)
  have h14 := h0.2.2.2.2.1.1
  refine g_iconst dX10_fullestLots_0 ?_
  refine g_newa_i (m := 3) dX10_fullestLots_1 mw_84 (by decide) (by decide) (by decide) (by decide) (fun q K1 N1 A1 zq hK1 hN1 hA1 => ?_)
  refine g_astore_n dX10_fullestLots_3 rfl (by decide) ?_
  refine g_iconst dX10_fullestLots_4 ?_
  refine g_istore dX10_fullestLots_5 (by decide) ?_
  subst hK1
  subst hN1
  refine g_locs (by exact ⟨rfl, rfl, rfl, rfl, rfl, trivial⟩) (lp_S_fullest (A0 := A) (K := va_up K q 13) (N := va_up N q 3) (va_up_self _ _ _) (va_up_self _ _ _) (hsh.new zq) hag h0 g r hg hr ⟨q, zq, rfl, rfl, rfl, rfl, rfl, rfl, rfl⟩ _ (W 1614).toNat 0 (fun _ => 0) (Nat.lt_succ_self _) (by omega) (by omega) (fun j _ _ => by omega) rfl ?_)
  rw [hA1]
  funext b j
  simp only [g_zr, g_rw]
