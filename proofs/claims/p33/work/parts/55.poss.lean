set_option maxHeartbeats 1000000 in
set_option maxRecDepth 100000 in
theorem jp_A_possible_42 {Y : gEnv} {X : gCtx} {K N : Nat → Nat} {I : Nat → Nat → Int} {A : Nat → Int → Int} {R : Nat → Nat → Option Nat} {Q : Nat → Int → Option Nat} {G : Nat → Nat × Int} {M : Nat → Prop} {x s h hq sc sg ar : Nat} {W SV T : Int → Int} {n len : Int} (hI : cI K N I A R Q G M x s h hq sc sg ar W n SV T len) (g : Int) (hg : (-2147483648 ≤ g ∧ g ≤ 2147483647)) (r : Int) (hr : (-2147483648 ≤ r ∧ r ≤ 2147483647)) (a : Int) (ha : (-2147483648 ≤ a ∧ a ≤ 2147483647)) (b : Int) (hb : (-2147483648 ≤ b ∧ b ≤ 2147483647)) (c : Int) (hc : (-2147483648 ≤ c ∧ c ≤ 2147483647))  (f0 : 0 ≤ g ∧ g ≤ 3) (z : Int) (hz : z = if (1 ≤ r ∧ r ≤ 2) ∧ (1 ≤ a ∧ a ≤ 100000) ∧ (1 ≤ b ∧ b ≤ 100000) ∧ (1 ≤ c ∧ c ≤ 100000) then 1 else 0) : gJ Y X yX12_possible cX12_possible 7 (some .int) ({ frames := 7, cells := 4, slots := 18, locals := 120 } : Room) (cOpP K N I A R Q M x s h hq sc sg ar (if ¬ (0 ≤ g ∧ g ≤ 3) then 1 else if ¬ ((1 ≤ r ∧ r ≤ 2) ∧ (1 ≤ a ∧ a ≤ 100000) ∧ (1 ≤ b ∧ b ≤ 100000) ∧ (1 ≤ c ∧ c ≤ 100000)) then 2 else 0) (vi (sMost W g r a b c)) (W) (n) (SV) (T) (len)) (cOpX K N I A R Q (if ¬ (0 ≤ g ∧ g ≤ 3) then 1 else if ¬ ((1 ≤ r ∧ r ≤ 2) ∧ (1 ≤ a ∧ a ≤ 100000) ∧ (1 ≤ b ∧ b ≤ 100000) ∧ (1 ≤ c ∧ c ≤ 100000)) then 2 else 0) [xIx, xAr, xSt]) 1 6 42 [(0, .ref x), (1, vi g), (2, vi r), (3, vi a), (4, vi b), (5, vi c)] [vi z] K N I A R Q := by
  obtain ⟨⟨x1, x2, x3, x4⟩, ⟨h1, h2, h3, h4, h5, h6, h7⟩, ⟨c1, c2, c3⟩, st, sv, hs, gg, hM⟩ := id hI
  obtain ⟨h0, hag, ev, kq, nq, hev, hE⟩ := id sv
  have hsh := st.1
  refine g_callSXc (k_K_Argument Y _ (by first | omega | (split <;> omega))) u_X12_checkArgument mw_407 rfl dX12_possible_42 rfl rfl ⟨Nat.le_of_ble_eq_true rfl, Nat.le_of_ble_eq_true rfl⟩ ⟨Nat.le_of_ble_eq_true rfl, Nat.le_of_ble_eq_true rfl⟩ (Nat.le_of_ble_eq_true rfl) (by decide) (fun E hh => by
    obtain ⟨q1, q2⟩ := hh
    have hc : ((if ¬ (0 ≤ g ∧ g ≤ 3) then 1 else if ¬ ((1 ≤ r ∧ r ≤ 2) ∧ (1 ≤ a ∧ a ≤ 100000) ∧ (1 ≤ b ∧ b ≤ 100000) ∧ (1 ≤ c ∧ c ≤ 100000)) then 2 else 0) : Int) = 2 := by repeat (first | omega | split)
    exact ⟨by rw [hc]; decide, by rw [hc, q2]; rfl, cSame.rfl⟩) (fun h42 => ?_)
  refine g_iconst dX12_possible_45 ?_
  refine g_newa_i (m := 3) dX12_possible_46 mw_84 (by decide) (by decide) (by decide) (by decide) (fun p K46 N46 A46 zp hK46 hN46 hA46 => ?_)
  have kp : K46 p = 13 := by rw [hK46, va_up_self]
  have np : N46 p = 3 := by rw [hN46, va_up_self]
  refine g_dup dX12_possible_48 rfl ?_
  refine g_iconst dX12_possible_49 ?_
  refine g_iload_n dX12_possible_50 rfl rfl ?_
  refine g_iastore dX12_possible_51 kp (by rw [np]; decide) (by rw [np]; omega) (fun A51 hA51 => ?_)
  refine g_dup dX12_possible_52 rfl ?_
  refine g_iconst dX12_possible_53 ?_
  refine g_iload dX12_possible_54 rfl ?_
  refine g_iastore dX12_possible_56 kp (by rw [np]; decide) (by rw [np]; omega) (fun A56 hA56 => ?_)
  refine g_dup dX12_possible_57 rfl ?_
  refine g_iconst dX12_possible_58 ?_
  refine g_iload dX12_possible_59 rfl ?_
  refine g_iastore dX12_possible_61 kp (by rw [np]; decide) (by rw [np]; omega) (fun A61 hA61 => ?_)
  refine g_astore dX12_possible_62 (by decide) ?_
  have aw0 : A61 p 0 = a := by rw [hA61, g_uq_at, if_neg (by decide), hA56, g_uq_at, if_neg (by decide), hA51, g_uq_at, if_pos rfl]
  have aw1 : A61 p 1 = b := by rw [hA61, g_uq_at, if_neg (by decide), hA56, g_uq_at, if_pos rfl]
  have aw2 : A61 p 2 = c := by rw [hA61, g_uq_at, if_pos rfl]
  obtain ⟨t1, t2⟩ := hI.fresh (A1 := A61) zp (by decide) hK46 hN46 (fun b' hb => by rw [hA61, g_uq_off _ _ _ hb, hA56, g_uq_off _ _ _ hb, hA51, g_uq_off _ _ _ hb, hA46, g_zr_ne _ _ hb])
  obtain ⟨⟨x1p, x2p, x3p, x4p⟩, ⟨h1p, h2p, h3p, h4p, h5p, h6p, h7p⟩, ⟨c1p, c2p, c3p⟩, stp, svp, hsp, ggp, hMp⟩ := id t1
  obtain ⟨h0p, hagp, evp, kqp, nqp, hevp, hEp⟩ := id svp
  have hshp := stp.1
  refine g_aload_n dX12_possible_64 rfl rfl ?_
  refine g_get_TileFactory_state dX12_possible_65 mw_300 x1p x2p ?_
  refine g_iload_n dX12_possible_68 rfl rfl ?_
  refine g_iload_n dX12_possible_69 rfl rfl ?_
  refine g_callV (i := 8) rfl (gK0 hshp.1) (g_at8 hshp.1) (k_S_fullest Y hshp hagp h0p g r (by omega) (by omega)) u_X10_fullestLots mw_824 dX12_possible_70 rfl rfl ⟨Nat.le_of_ble_eq_true rfl, Nat.le_of_ble_eq_true rfl⟩ ⟨Nat.le_of_ble_eq_true rfl, Nat.le_of_ble_eq_true rfl⟩ (Nat.le_of_ble_eq_true rfl) (fun v70 K70 N70 I70 A70 R70 Q70 h70 => ?_)
  obtain ⟨q, zq, rfl, k70, n70, i70, r70, q70, a70⟩ := h70
  obtain rfl := i70.symm
  obtain rfl := r70.symm
  obtain rfl := q70.symm
  have hqp : q ≠ p := fun e => by rw [e, kp] at zq; cases zq
  obtain ⟨t3, t4⟩ := t1.fresh (A1 := A70) zq (by decide) k70 n70 (fun b' hb => by rw [a70]; exact g_rw_ne _ _ hb)
  have ap : A70 p = A61 p := by rw [a70]; exact g_rw_ne _ _ (fun e => hqp e.symm)
  have aq : A70 q = sFulL W g r (W 1614).toNat 0 (fun _ => 0) := by rw [a70, g_rw_at]
  have htop := oTop.full (W := W) (g := g) (r := r) (W 1614).toNat 0 (fun _ => 0) oTop.zero (by omega) (fun j u v => by
    obtain ⟨y1, y2, y3, y4, y5, y6, y7, y8, -⟩ := h0.2.2.2.2.1.2.2.1 j u (by omega)
    exact y8)
  refine g_aload dX12_possible_73 rfl ?_
  refine g_iconst dX12_possible_75 ?_
  refine g_callSw (k_MP3 Y (by rw [k70, va_up_self]) (by rw [n70, va_up_self]) (by rw [k70, va_up_ne _ _ (fun e => hqp e.symm)]; exact kp) (by rw [n70, va_up_ne _ _ (fun e => hqp e.symm)]; exact np) hqp (fun j u v => by
    rw [aq]
    obtain ⟨⟨o1, o2, o3⟩, -, -, -, t0, t1', t2', w0, w1, w2, -⟩ := htop
    have hub : sFulL W g r (W 1614).toNat 0 (fun _ => 0) 0 ≤ 10000000 := by
      by_cases e : 0 < sFulL W g r (W 1614).toNat 0 (fun _ => 0) 0
      · obtain ⟨w3, w4⟩ := w0 e
        have hl := h0.lot (l := t0) w3.1 (by have := w3.2.1; have := h0.2.2.2.2.1.1; omega)
        rw [← w4]
        omega
      · omega
    have hc : j = 0 ∨ j = 1 ∨ j = 2 := by omega
    rcases hc with e | e | e <;> subst e <;> omega) (fun j u v => by
    rw [ap]
    have hc : j = 0 ∨ j = 1 ∨ j = 2 := by omega
    rcases hc with e | e | e <;> subst e
    · rw [aw0]; omega
    · rw [aw1]; omega
    · rw [aw2]; omega)) u_X12_mostPlaced mw_839 rfl dX12_possible_76 rfl rfl ⟨Nat.le_of_ble_eq_true rfl, Nat.le_of_ble_eq_true rfl⟩ ⟨Nat.le_of_ble_eq_true rfl, Nat.le_of_ble_eq_true rfl⟩ (Nat.le_of_ble_eq_true rfl) (fun v76 I76 A76 h76 => ?_)
  obtain ⟨rfl, i76, a76⟩ := h76
  obtain rfl := i76.symm
  obtain rfl := a76.symm
  exact g_iret dX12_possible_79 rfl (by decide) (by decide) (by
      have hc0 : ((if ¬ (0 ≤ g ∧ g ≤ 3) then 1 else if ¬ ((1 ≤ r ∧ r ≤ 2) ∧ (1 ≤ a ∧ a ≤ 100000) ∧ (1 ≤ b ∧ b ≤ 100000) ∧ (1 ≤ c ∧ c ≤ 100000)) then 2 else 0) : Int) = 0 := by repeat (first | omega | split)
      exact ⟨hc0, by rw [aq, sMost_eq (a := a) (b := b) (c := c) h0 (by omega) (by omega) (by omega) (by rw [ap]; exact aw0) (by rw [ap]; exact aw1) (by rw [ap]; exact aw2)], _, t3, t2.trans t4⟩)
set_option maxHeartbeats 1000000 in
set_option maxRecDepth 100000 in
theorem k_A_possible (Y : gEnv) {K N : Nat → Nat} {I : Nat → Nat → Int} {A : Nat → Int → Int} {R : Nat → Nat → Option Nat} {Q : Nat → Int → Option Nat} {G : Nat → Nat × Int} {M : Nat → Prop} {x s h hq sc sg ar : Nat} {W SV T : Int → Int} {n len : Int} (hI : cI K N I A R Q G M x s h hq sc sg ar W n SV T len) (g : Int) (hg : (-2147483648 ≤ g ∧ g ≤ 2147483647)) (r : Int) (hr : (-2147483648 ≤ r ∧ r ≤ 2147483647)) (a : Int) (ha : (-2147483648 ≤ a ∧ a ≤ 2147483647)) (b : Int) (hb : (-2147483648 ≤ b ∧ b ≤ 2147483647)) (c : Int) (hc : (-2147483648 ≤ c ∧ c ≤ 2147483647))  : gC Y yX12_possible cX12_possible 7 (some .int) ({ frames := 7, cells := 4, slots := 18, locals := 120 } : Room) [.ref x, vi g, vi r, vi a, vi b, vi c] K N I A R Q (cOpP K N I A R Q M x s h hq sc sg ar (if ¬ (0 ≤ g ∧ g ≤ 3) then 1 else if ¬ ((1 ≤ r ∧ r ≤ 2) ∧ (1 ≤ a ∧ a ≤ 100000) ∧ (1 ≤ b ∧ b ≤ 100000) ∧ (1 ≤ c ∧ c ≤ 100000)) then 2 else 0) (vi (sMost W g r a b c)) (W) (n) (SV) (T) (len)) (cOpX K N I A R Q (if ¬ (0 ≤ g ∧ g ≤ 3) then 1 else if ¬ ((1 ≤ r ∧ r ≤ 2) ∧ (1 ≤ a ∧ a ≤ 100000) ∧ (1 ≤ b ∧ b ≤ 100000) ∧ (1 ≤ c ∧ c ≤ 100000)) then 2 else 0) [xIx, xAr, xSt]) := by
  refine gC_of (by decide) (Nat.le_of_ble_eq_true rfl) (fun X => ?_)
  obtain ⟨⟨x1, x2, x3, x4⟩, ⟨h1, h2, h3, h4, h5, h6, h7⟩, ⟨c1, c2, c3⟩, st, sv, hs, gg, hM⟩ := id hI
  obtain ⟨h0, hag, ev, kq, nq, hev, hE⟩ := id sv
  have hsh := st.1
  refine g_iload_n dX12_possible_0 rfl rfl ?_
  refine g_callSp (k_isGlaze Y _ (by omega)) u_X12_isGlaze mw_330 rfl dX12_possible_1 rfl rfl ⟨Nat.le_of_ble_eq_true rfl, Nat.le_of_ble_eq_true rfl⟩ ⟨Nat.le_of_ble_eq_true rfl, Nat.le_of_ble_eq_true rfl⟩ (Nat.le_of_ble_eq_true rfl) ?_
  refine g_callSXc (k_K_Index Y _ (by first | omega | (split <;> omega))) u_X12_checkIndex mw_336 rfl dX12_possible_4 rfl rfl ⟨Nat.le_of_ble_eq_true rfl, Nat.le_of_ble_eq_true rfl⟩ ⟨Nat.le_of_ble_eq_true rfl, Nat.le_of_ble_eq_true rfl⟩ (Nat.le_of_ble_eq_true rfl) (by decide) (fun E hh => by
    obtain ⟨q1, q2⟩ := hh
    have hc : ((if ¬ (0 ≤ g ∧ g ≤ 3) then 1 else if ¬ ((1 ≤ r ∧ r ≤ 2) ∧ (1 ≤ a ∧ a ≤ 100000) ∧ (1 ≤ b ∧ b ≤ 100000) ∧ (1 ≤ c ∧ c ≤ 100000)) then 2 else 0) : Int) = 1 := by repeat (first | omega | split)
    exact ⟨by rw [hc]; decide, by rw [hc, q2]; rfl, cSame.rfl⟩) (fun h4 => ?_)
  refine g_iload_n dX12_possible_7 rfl rfl ?_
  refine g_callSp (k_isGrade Y _ (by omega)) u_X12_isGrade mw_823 rfl dX12_possible_8 rfl rfl ⟨Nat.le_of_ble_eq_true rfl, Nat.le_of_ble_eq_true rfl⟩ ⟨Nat.le_of_ble_eq_true rfl, Nat.le_of_ble_eq_true rfl⟩ (Nat.le_of_ble_eq_true rfl) ?_
  refine g_if_eq (tgt := 41) dX12_possible_11 (by decide) (by omega) (fun c_11 => ?_) (fun c_11 => ?_)
  · refine g_iconst dX12_possible_41 ?_
    exact jp_A_possible_42 hI g hg r hr a ha b hb c hc  (by omega) _ (by repeat (first | omega | split))
  · refine g_iload_n dX12_possible_14 rfl rfl ?_
    refine g_callSp (k_isBoxCount Y _ (by omega)) u_X12_isBoxCount mw_838 rfl dX12_possible_15 rfl rfl ⟨Nat.le_of_ble_eq_true rfl, Nat.le_of_ble_eq_true rfl⟩ ⟨Nat.le_of_ble_eq_true rfl, Nat.le_of_ble_eq_true rfl⟩ (Nat.le_of_ble_eq_true rfl) ?_
    refine g_if_eq (tgt := 41) dX12_possible_18 (by decide) (by omega) (fun c_18 => ?_) (fun c_18 => ?_)
    · refine g_iconst dX12_possible_41 ?_
      exact jp_A_possible_42 hI g hg r hr a ha b hb c hc  (by omega) _ (by repeat (first | omega | split))
    · refine g_iload dX12_possible_21 rfl ?_
      refine g_callSp (k_isBoxCount Y _ (by omega)) u_X12_isBoxCount mw_838 rfl dX12_possible_23 rfl rfl ⟨Nat.le_of_ble_eq_true rfl, Nat.le_of_ble_eq_true rfl⟩ ⟨Nat.le_of_ble_eq_true rfl, Nat.le_of_ble_eq_true rfl⟩ (Nat.le_of_ble_eq_true rfl) ?_
      refine g_if_eq (tgt := 41) dX12_possible_26 (by decide) (by omega) (fun c_26 => ?_) (fun c_26 => ?_)
      · refine g_iconst dX12_possible_41 ?_
        exact jp_A_possible_42 hI g hg r hr a ha b hb c hc  (by omega) _ (by repeat (first | omega | split))
      · refine g_iload dX12_possible_29 rfl ?_
        refine g_callSp (k_isBoxCount Y _ (by omega)) u_X12_isBoxCount mw_838 rfl dX12_possible_31 rfl rfl ⟨Nat.le_of_ble_eq_true rfl, Nat.le_of_ble_eq_true rfl⟩ ⟨Nat.le_of_ble_eq_true rfl, Nat.le_of_ble_eq_true rfl⟩ (Nat.le_of_ble_eq_true rfl) ?_
        refine g_if_eq (tgt := 41) dX12_possible_34 (by decide) (by omega) (fun c_34 => ?_) (fun c_34 => ?_)
        · refine g_iconst dX12_possible_41 ?_
          exact jp_A_possible_42 hI g hg r hr a ha b hb c hc  (by omega) _ (by repeat (first | omega | split))
        · refine g_iconst dX12_possible_37 ?_
          refine g_goto (tgt := 42) dX12_possible_38 (by decide) ?_
          exact jp_A_possible_42 hI g hg r hr a ha b hb c hc  (by omega) _ (by repeat (first | omega | split))
