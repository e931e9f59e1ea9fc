theorem sInsL_off : ∀ (n : Nat) (i h : Int) (f : Int → Int), 0 < i → sInsL n i h f 0 = f 0
  | 0, i, h, f, _ => rfl
  | n + 1, i, h, f, hi => by
    simp only [sInsL]
    split
    · rw [sInsL_off n (i + 1) _ _ (by omega), sU_ne _ _ (by omega)]
    · exact sInsL_off n (i + 1) _ _ (by omega)
theorem sFulL_0 {W : Int → Int} {g r : Int} : ∀ (n : Nat) (l : Int) (f : Int → Int), sFulL W g r n l f 0 = sLgL W g r n l (f 0)
  | 0, l, f => rfl
  | n + 1, l, f => by
    simp only [sFulL, sLgL]
    rw [sFulL_0 n (l + 1)]
    have key : (if W (410 + l) = g ∧ W (730 + l) = r then sInsL 3 0 (W (1050 + l)) f else f) 0 = (if W (410 + l) = g ∧ W (730 + l) = r ∧ f 0 < W (1050 + l) then W (1050 + l) else f 0) := by
      by_cases c : W (410 + l) = g ∧ W (730 + l) = r
      · rw [if_pos c]
        by_cases d : f 0 < W (1050 + l)
        · rw [if_pos ⟨c.1, c.2, d⟩, sInsL_take (by omega) d, sInsL_off _ _ _ _ (by omega), sU_eq]
        · rw [if_neg (fun e => d e.2.2), sInsL_skip (by omega) d, sInsL_off _ _ _ _ (by omega)]
      · rw [if_neg c, if_neg (fun e => c ⟨e.1, e.2.1⟩)]
    rw [key]
theorem cI.fresh {K N : Nat → Nat} {I : Nat → Nat → Int} {A : Nat → Int → Int} {R : Nat → Nat → Option Nat} {Q : Nat → Int → Option Nat} {G : Nat → Nat × Int} {M : Nat → Prop} {x s h hq sc sg ar : Nat} {W SV T : Int → Int} {n len : Int} {q m v : Nat} {K1 N1 : Nat → Nat} {A1 : Nat → Int → Int} (hI : cI K N I A R Q G M x s h hq sc sg ar W n SV T len) (hq0 : K q = 0) (hv : v ≠ 0) (hK : K1 = va_up K q v) (hN : N1 = va_up N q m) (hA : ∀ b, b ≠ q → A1 b = A b) : cI K1 N1 I A1 R Q (va_up G q (q, 0)) M x s h hq sc sg ar W n SV T len ∧ gFm M K N I A R Q K1 N1 I A1 R Q := by
  obtain ⟨⟨x1, x2, x3, x4⟩, ⟨h1, h2, h3, h4, h5, h6, h7⟩, ⟨c1, c2, c3⟩, st, sv, hs, gg, hM⟩ := id hI
  obtain ⟨h0, hag, ev, kq, nq, hev, hE⟩ := id sv
  have hsh := st.1
  have hx : gEx hq K N I A R Q G K1 N1 I A1 R Q (va_up G q (q, 0)) := gEx.fresh hq0 (fun b hb => ⟨by rw [hK]; exact va_up_ne _ _ hb, by rw [hN]; exact va_up_ne _ _ hb, va_up_ne _ _ hb, fun _ => rfl, hA b hb, fun _ => rfl, rfl⟩)
  exact hI.ex hx ⟨h6, h7⟩ (hs.keep h7 hx (by rw [h3]; unfold sKd; omega) rfl) h5 (fun b hb => by
    have hbq : b ≠ q := fun e => by rw [e, hK, va_up_self] at hb; exact hv hb
    rw [hK, va_up_ne _ _ hbq] at hb
    rw [va_up_ne _ _ hbq]
    exact gg.2.2.2.2.2.2 b hb) (fun i a c t z => Or.inr ⟨i, a, c, z⟩)
set_option maxHeartbeats 1000000 in
set_option maxRecDepth 100000 in
theorem k_A_largest (Y : gEnv) {K N : Nat → Nat} {I : Nat → Nat → Int} {A : Nat → Int → Int} {R : Nat → Nat → Option Nat} {Q : Nat → Int → Option Nat} {G : Nat → Nat × Int} {M : Nat → Prop} {x s h hq sc sg ar : Nat} {W SV T : Int → Int} {n len : Int} (hI : cI K N I A R Q G M x s h hq sc sg ar W n SV T len) (g : Int) (hg : (-2147483648 ≤ g ∧ g ≤ 2147483647)) (r : Int) (hr : (-2147483648 ≤ r ∧ r ≤ 2147483647))  : gC Y yX12_largest cX12_largest 3 (some .int) ({ frames := 7, cells := 3, slots := 15, locals := 120 } : Room) [.ref x, vi g, vi r] K N I A R Q (cOpP K N I A R Q M x s h hq sc sg ar (if ¬ (0 ≤ g ∧ g ≤ 3) then 1 else if ¬ (1 ≤ r ∧ r ≤ 2) then 2 else 0) (vi (sLgL W g r (W 1614).toNat 0 0)) (W) (n) (SV) (T) (len)) (cOpX K N I A R Q (if ¬ (0 ≤ g ∧ g ≤ 3) then 1 else if ¬ (1 ≤ r ∧ r ≤ 2) then 2 else 0) [xIx, xAr, xSt]) := by
  refine gC_of (by decide) (Nat.le_of_ble_eq_true rfl) (fun X => ?_)
  obtain ⟨⟨x1, x2, x3, x4⟩, ⟨h1, h2, h3, h4, h5, h6, h7⟩, ⟨c1, c2, c3⟩, st, sv, hs, gg, hM⟩ := id hI
  obtain ⟨h0, hag, ev, kq, nq, hev, hE⟩ := id sv
  have hsh := st.1
  refine g_iload_n dX12_largest_0 rfl rfl ?_
  refine g_callSp (k_isGlaze Y _ (by omega)) u_X12_isGlaze mw_330 rfl dX12_largest_1 rfl rfl ⟨Nat.le_of_ble_eq_true rfl, Nat.le_of_ble_eq_true rfl⟩ ⟨Nat.le_of_ble_eq_true rfl, Nat.le_of_ble_eq_true rfl⟩ (Nat.le_of_ble_eq_true rfl) ?_
  refine g_callSXc (k_K_Index Y _ (by first | omega | (split <;> omega))) u_X12_checkIndex mw_336 rfl dX12_largest_4 rfl rfl ⟨Nat.le_of_ble_eq_true rfl, Nat.le_of_ble_eq_true rfl⟩ ⟨Nat.le_of_ble_eq_true rfl, Nat.le_of_ble_eq_true rfl⟩ (Nat.le_of_ble_eq_true rfl) (by decide) (fun E hh => by
    obtain ⟨q1, q2⟩ := hh
    have hc : ((if ¬ (0 ≤ g ∧ g ≤ 3) then 1 else if ¬ (1 ≤ r ∧ r ≤ 2) then 2 else 0) : Int) = 1 := by repeat (first | omega | split)
    exact ⟨by rw [hc]; decide, by rw [hc, q2]; rfl, cSame.rfl⟩) (fun h4 => ?_)
  refine g_iload_n dX12_largest_7 rfl rfl ?_
  refine g_callSp (k_isGrade Y _ (by omega)) u_X12_isGrade mw_823 rfl dX12_largest_8 rfl rfl ⟨Nat.le_of_ble_eq_true rfl, Nat.le_of_ble_eq_true rfl⟩ ⟨Nat.le_of_ble_eq_true rfl, Nat.le_of_ble_eq_true rfl⟩ (Nat.le_of_ble_eq_true rfl) ?_
  refine g_callSXc (k_K_Argument Y _ (by first | omega | (split <;> omega))) u_X12_checkArgument mw_407 rfl dX12_largest_11 rfl rfl ⟨Nat.le_of_ble_eq_true rfl, Nat.le_of_ble_eq_true rfl⟩ ⟨Nat.le_of_ble_eq_true rfl, Nat.le_of_ble_eq_true rfl⟩ (Nat.le_of_ble_eq_true rfl) (by decide) (fun E hh => by
    obtain ⟨q1, q2⟩ := hh
    have hc : ((if ¬ (0 ≤ g ∧ g ≤ 3) then 1 else if ¬ (1 ≤ r ∧ r ≤ 2) then 2 else 0) : Int) = 2 := by repeat (first | omega | split)
    exact ⟨by rw [hc]; decide, by rw [hc, q2]; rfl, cSame.rfl⟩) (fun h11 => ?_)
  refine g_aload_n dX12_largest_14 rfl rfl ?_
  refine g_get_TileFactory_state dX12_largest_15 mw_300 (by assumption) x2 ?_
  refine g_iload_n dX12_largest_18 rfl rfl ?_
  refine g_iload_n dX12_largest_19 rfl rfl ?_
  refine g_callV (i := 8) rfl (gK0 hsh.1) (g_at8 hsh.1) (k_S_fullest Y hsh hag h0 g r (by omega) (by omega)) u_X10_fullestLots mw_824 dX12_largest_20 rfl rfl ⟨Nat.le_of_ble_eq_true rfl, Nat.le_of_ble_eq_true rfl⟩ ⟨Nat.le_of_ble_eq_true rfl, Nat.le_of_ble_eq_true rfl⟩ (Nat.le_of_ble_eq_true rfl) (fun v20 K20 N20 I20 A20 R20 Q20 h20 => ?_)
  obtain ⟨q, zq, rfl, k20, n20, i20, r20, q20, a20⟩ := h20
  obtain rfl := i20.symm
  obtain rfl := r20.symm
  obtain rfl := q20.symm
  obtain ⟨t1, t2⟩ := hI.fresh (A1 := A20) zq (by decide) k20 n20 (fun b hb => by rw [a20]; exact g_rw_ne _ _ hb)
  refine g_iconst dX12_largest_23 ?_
  refine g_iaload dX12_largest_24 (by rw [k20, va_up_self]) (by rw [n20, va_up_self]; decide) (by rw [n20, va_up_self]; omega) ?_
  exact g_iret dX12_largest_25 rfl (by decide) (by decide) (by
      have hc0 : ((if ¬ (0 ≤ g ∧ g ≤ 3) then 1 else if ¬ (1 ≤ r ∧ r ≤ 2) then 2 else 0) : Int) = 0 := by repeat (first | omega | split)
      exact ⟨hc0, by rw [a20, g_rw_at, sFulL_0], _, t1, t2⟩)
