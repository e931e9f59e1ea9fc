theorem g_pu_a {a b : Nat} (h : a = b) (K N : Nat → Nat) (I : Nat → Nat → Int) (A : Nat → Int → Int) (R : Nat → Nat → Option Nat) (Q : Nat → Int → Option Nat) : g_pu (some (.ref b)) K N I A R Q (some (.ref a)) K N I A R Q := ⟨by rw [h], rfl, rfl, rfl, rfl, rfl, rfl⟩
theorem sIx_sLx {P : Int → Bool} : ∀ (n : Nat) (l : Int), 0 ≤ l → (sIx P n l = -1 ∧ sLx P n l = l + n) ∨ (sIx P n l = sLx P n l ∧ l ≤ sLx P n l ∧ sLx P n l < l + n)
  | 0, l, _ => Or.inl ⟨rfl, by simp [sLx]⟩
  | n + 1, l, h => by
    by_cases hp : P l = true
    · rw [sIx_hit (by omega) hp, sLx_hit (by omega) hp]; exact Or.inr ⟨rfl, by omega, by omega⟩
    · have hf : P l = false := by simpa using hp
      rw [sIx_miss (by omega) hf, sLx_miss (by omega) hf, Nat.add_sub_cancel]
      rcases sIx_sLx (P := P) n (l + 1) (by omega) with ⟨a, b⟩ | ⟨a, b, c⟩
      · exact Or.inl ⟨a, by omega⟩
      · exact Or.inr ⟨a, by omega, by omega⟩
set_option maxHeartbeats 1000000 in
set_option maxRecDepth 100000 in
theorem k_S_hasPile (Y : gEnv) {K N : Nat → Nat} {I : Nat → Nat → Int} {A : Nat → Int → Int} {R : Nat → Nat → Option Nat} {Q : Nat → Int → Option Nat} {s : Nat} {G : Nat → Nat × Int} {W : Int → Int} (hsh : cSh K N R Q G s) (hag : ag (cV I R Q s) W) (hP : iPi W) (i : Int) (hi : (-2147483648 ≤ i ∧ i ≤ 2147483647)) : gC Y yX10_hasPile cX10_hasPile 2 (some .boolean) ({ frames := 0, cells := 0, slots := 0, locals := 0 } : Room) [.ref s, vi i] K N I A R Q (g_pu (some (vi (if 0 ≤ i ∧ i < W 1613 then 1 else 0))) K N I A R Q) gno := by
  refine gC_of (by decide) (Nat.le_of_ble_eq_true rfl) (fun X => ?_)
  obtain ⟨hKs, hGs, ⟨zg1, zg2, zg3, zg4, zg5⟩, ⟨zq1, zq2, zq3, zq4, zq5⟩, ⟨zp1, zp2, zp3, zp4, zp5⟩, ⟨zl1, zl2, zl3, zl4, zl5⟩, ⟨zd1, zd2, zd3, zd4, zd5⟩⟩ := id hsh
  have c88 : I 166 s = W 88 := ar_166 hag
  have c89 : I 167 s = W 89 := ar_167 hag
  have c10 : I 171 s = W 1610 := ar_171 hag
  have c11 : I 172 s = W 1611 := ar_172 hag
  have c12 : I 173 s = W 1612 := ar_173 hag
  have c13 : I 168 s = W 1613 := ar_168 hag
  have c14 : I 169 s = W 1614 := ar_169 hag
  have c15 : I 170 s = W 1615 := ar_170 hag
  have n13 : 0 ≤ W 1613 ∧ W 1613 ≤ 80 := ⟨hP.1, hP.2.1⟩
  have nP := hP.2.2.1
  refine g_iload_n dX10_hasPile_0 rfl rfl ?_
  refine g_if_lt (tgt := 25) dX10_hasPile_1 (by decide) (by omega) (fun c_1 => ?_) (fun c_1 => ?_)
  · refine g_iconst dX10_hasPile_25 ?_
    exact g_zret dX10_hasPile_26 rfl (by omega) (by decide) (by decide) (g_pu_i (by first | (rw [if_pos (by omega)]; done) | (rw [if_neg (by omega)]; done) | (exfalso; omega)) _ _ _ _ _ _)
  · refine g_iload_n dX10_hasPile_4 rfl rfl ?_
    refine g_aload_n dX10_hasPile_5 rfl rfl ?_
    refine g_get_State_pileCount dX10_hasPile_6 mw_219 (by assumption) ?_
    refine g_icmp_ge (tgt := 25) dX10_hasPile_9 (by decide) (by omega) (by omega) (fun c_9 => ?_) (fun c_9 => ?_)
    · refine g_iconst dX10_hasPile_25 ?_
      exact g_zret dX10_hasPile_26 rfl (by omega) (by decide) (by decide) (g_pu_i (by first | (rw [if_pos (by omega)]; done) | (rw [if_neg (by omega)]; done) | (exfalso; omega)) _ _ _ _ _ _)
    · refine g_iload_n dX10_hasPile_12 rfl rfl ?_
      refine g_aload_n dX10_hasPile_13 rfl rfl ?_
      refine g_get_State_piles dX10_hasPile_14 mw_208 (by assumption) (by assumption) ?_
      refine g_alen_Pile dX10_hasPile_17 (by assumption) ?_
      refine g_icmp_ge (tgt := 25) dX10_hasPile_18 (by decide) (by omega) (by omega) (fun c_18 => ?_) (fun c_18 => ?_)
      · refine g_iconst dX10_hasPile_25 ?_
        exact g_zret dX10_hasPile_26 rfl (by omega) (by decide) (by decide) (g_pu_i (by first | (rw [if_pos (by omega)]; done) | (rw [if_neg (by omega)]; done) | (exfalso; omega)) _ _ _ _ _ _)
      · refine g_iconst dX10_hasPile_21 ?_
        refine g_goto (tgt := 26) dX10_hasPile_22 (by decide) ?_
        exact g_zret dX10_hasPile_26 rfl (by omega) (by decide) (by decide) (g_pu_i (by first | (rw [if_pos (by omega)]; done) | (rw [if_neg (by omega)]; done) | (exfalso; omega)) _ _ _ _ _ _)
set_option maxHeartbeats 1000000 in
set_option maxRecDepth 100000 in
theorem k_S_hasLot (Y : gEnv) {K N : Nat → Nat} {I : Nat → Nat → Int} {A : Nat → Int → Int} {R : Nat → Nat → Option Nat} {Q : Nat → Int → Option Nat} {s : Nat} {G : Nat → Nat × Int} {W : Int → Int} (hsh : cSh K N R Q G s) (hag : ag (cV I R Q s) W) (hL : iL W) (i : Int) (hi : (-2147483648 ≤ i ∧ i ≤ 2147483647)) : gC Y yX10_hasLot cX10_hasLot 2 (some .boolean) ({ frames := 0, cells := 0, slots := 0, locals := 0 } : Room) [.ref s, vi i] K N I A R Q (g_pu (some (vi (if 0 ≤ i ∧ i < W 1614 then 1 else 0))) K N I A R Q) gno := by
  refine gC_of (by decide) (Nat.le_of_ble_eq_true rfl) (fun X => ?_)
  obtain ⟨hKs, hGs, ⟨zg1, zg2, zg3, zg4, zg5⟩, ⟨zq1, zq2, zq3, zq4, zq5⟩, ⟨zp1, zp2, zp3, zp4, zp5⟩, ⟨zl1, zl2, zl3, zl4, zl5⟩, ⟨zd1, zd2, zd3, zd4, zd5⟩⟩ := id hsh
  have c88 : I 166 s = W 88 := ar_166 hag
  have c89 : I 167 s = W 89 := ar_167 hag
  have c10 : I 171 s = W 1610 := ar_171 hag
  have c11 : I 172 s = W 1611 := ar_172 hag
  have c12 : I 173 s = W 1612 := ar_173 hag
  have c13 : I 168 s = W 1613 := ar_168 hag
  have c14 : I 169 s = W 1614 := ar_169 hag
  have c15 : I 170 s = W 1615 := ar_170 hag
  have n14 : 0 ≤ W 1614 ∧ W 1614 ≤ 160 := ⟨hL.1, hL.2.1⟩
  have nL := hL.2.2.1
  refine g_iload_n dX10_hasLot_0 rfl rfl ?_
  refine g_if_lt (tgt := 25) dX10_hasLot_1 (by decide) (by omega) (fun c_1 => ?_) (fun c_1 => ?_)
  · refine g_iconst dX10_hasLot_25 ?_
    exact g_zret dX10_hasLot_26 rfl (by omega) (by decide) (by decide) (g_pu_i (by first | (rw [if_pos (by omega)]; done) | (rw [if_neg (by omega)]; done) | (exfalso; omega)) _ _ _ _ _ _)
  · refine g_iload_n dX10_hasLot_4 rfl rfl ?_
    refine g_aload_n dX10_hasLot_5 rfl rfl ?_
    refine g_get_State_lotCount dX10_hasLot_6 mw_220 (by assumption) ?_
    refine g_icmp_ge (tgt := 25) dX10_hasLot_9 (by decide) (by omega) (by omega) (fun c_9 => ?_) (fun c_9 => ?_)
    · refine g_iconst dX10_hasLot_25 ?_
      exact g_zret dX10_hasLot_26 rfl (by omega) (by decide) (by decide) (g_pu_i (by first | (rw [if_pos (by omega)]; done) | (rw [if_neg (by omega)]; done) | (exfalso; omega)) _ _ _ _ _ _)
    · refine g_iload_n dX10_hasLot_12 rfl rfl ?_
      refine g_aload_n dX10_hasLot_13 rfl rfl ?_
      refine g_get_State_lots dX10_hasLot_14 mw_209 (by assumption) (by assumption) ?_
      refine g_alen_Lot dX10_hasLot_17 (by assumption) ?_
      refine g_icmp_ge (tgt := 25) dX10_hasLot_18 (by decide) (by omega) (by omega) (fun c_18 => ?_) (fun c_18 => ?_)
      · refine g_iconst dX10_hasLot_25 ?_
        exact g_zret dX10_hasLot_26 rfl (by omega) (by decide) (by decide) (g_pu_i (by first | (rw [if_pos (by omega)]; done) | (rw [if_neg (by omega)]; done) | (exfalso; omega)) _ _ _ _ _ _)
      · refine g_iconst dX10_hasLot_21 ?_
        refine g_goto (tgt := 26) dX10_hasLot_22 (by decide) ?_
        exact g_zret dX10_hasLot_26 rfl (by omega) (by decide) (by decide) (g_pu_i (by first | (rw [if_pos (by omega)]; done) | (rw [if_neg (by omega)]; done) | (exfalso; omega)) _ _ _ _ _ _)
set_option maxHeartbeats 1000000 in
set_option maxRecDepth 100000 in
theorem k_S_hasDelivery (Y : gEnv) {K N : Nat → Nat} {I : Nat → Nat → Int} {A : Nat → Int → Int} {R : Nat → Nat → Option Nat} {Q : Nat → Int → Option Nat} {s : Nat} {G : Nat → Nat × Int} {W : Int → Int} (hsh : cSh K N R Q G s) (hag : ag (cV I R Q s) W) (hD : 0 ≤ W 1615 ∧ W 1615 ≤ 40) (i : Int) (hi : (-2147483648 ≤ i ∧ i ≤ 2147483647)) : gC Y yX10_hasDelivery cX10_hasDelivery 2 (some .boolean) ({ frames := 0, cells := 0, slots := 0, locals := 0 } : Room) [.ref s, vi i] K N I A R Q (g_pu (some (vi (if 0 ≤ i ∧ i < W 1615 then 1 else 0))) K N I A R Q) gno := by
  refine gC_of (by decide) (Nat.le_of_ble_eq_true rfl) (fun X => ?_)
  obtain ⟨hKs, hGs, ⟨zg1, zg2, zg3, zg4, zg5⟩, ⟨zq1, zq2, zq3, zq4, zq5⟩, ⟨zp1, zp2, zp3, zp4, zp5⟩, ⟨zl1, zl2, zl3, zl4, zl5⟩, ⟨zd1, zd2, zd3, zd4, zd5⟩⟩ := id hsh
  have c88 : I 166 s = W 88 := ar_166 hag
  have c89 : I 167 s = W 89 := ar_167 hag
  have c10 : I 171 s = W 1610 := ar_171 hag
  have c11 : I 172 s = W 1611 := ar_172 hag
  have c12 : I 173 s = W 1612 := ar_173 hag
  have c13 : I 168 s = W 1613 := ar_168 hag
  have c14 : I 169 s = W 1614 := ar_169 hag
  have c15 : I 170 s = W 1615 := ar_170 hag
  refine g_iload_n dX10_hasDelivery_0 rfl rfl ?_
  refine g_if_lt (tgt := 25) dX10_hasDelivery_1 (by decide) (by omega) (fun c_1 => ?_) (fun c_1 => ?_)
  · refine g_iconst dX10_hasDelivery_25 ?_
    exact g_zret dX10_hasDelivery_26 rfl (by omega) (by decide) (by decide) (g_pu_i (by first | (rw [if_pos (by omega)]; done) | (rw [if_neg (by omega)]; done) | (exfalso; omega)) _ _ _ _ _ _)
  · refine g_iload_n dX10_hasDelivery_4 rfl rfl ?_
    refine g_aload_n dX10_hasDelivery_5 rfl rfl ?_
    refine g_get_State_deliveryCount dX10_hasDelivery_6 mw_221 (by assumption) ?_
    refine g_icmp_ge (tgt := 25) dX10_hasDelivery_9 (by decide) (by omega) (by omega) (fun c_9 => ?_) (fun c_9 => ?_)
    · refine g_iconst dX10_hasDelivery_25 ?_
      exact g_zret dX10_hasDelivery_26 rfl (by omega) (by decide) (by decide) (g_pu_i (by first | (rw [if_pos (by omega)]; done) | (rw [if_neg (by omega)]; done) | (exfalso; omega)) _ _ _ _ _ _)
    · refine g_iload_n dX10_hasDelivery_12 rfl rfl ?_
      refine g_aload_n dX10_hasDelivery_13 rfl rfl ?_
      refine g_get_State_deliveries dX10_hasDelivery_14 mw_211 (by assumption) (by assumption) ?_
      refine g_alen_Delivery dX10_hasDelivery_17 (by assumption) ?_
      refine g_icmp_ge (tgt := 25) dX10_hasDelivery_18 (by decide) (by omega) (by omega) (fun c_18 => ?_) (fun c_18 => ?_)
      · refine g_iconst dX10_hasDelivery_25 ?_
        exact g_zret dX10_hasDelivery_26 rfl (by omega) (by decide) (by decide) (g_pu_i (by first | (rw [if_pos (by omega)]; done) | (rw [if_neg (by omega)]; done) | (exfalso; omega)) _ _ _ _ _ _)
      · refine g_iconst dX10_hasDelivery_21 ?_
        refine g_goto (tgt := 26) dX10_hasDelivery_22 (by decide) ?_
        exact g_zret dX10_hasDelivery_26 rfl (by omega) (by decide) (by decide) (g_pu_i (by first | (rw [if_pos (by omega)]; done) | (rw [if_neg (by omega)]; done) | (exfalso; omega)) _ _ _ _ _ _)
set_option maxHeartbeats 1000000 in
set_option maxRecDepth 100000 in
theorem lp_S_indexOfPile {Y : gEnv} {X : gCtx} {K N : Nat → Nat} {I : Nat → Nat → Int} {A : Nat → Int → Int} {R : Nat → Nat → Option Nat} {Q : Nat → Int → Option Nat} {s : Nat} {G : Nat → Nat × Int} {W : Int → Int} (hsh : cSh K N R Q G s) (hag : ag (cV I R Q s) W) (hP : iPi W) (g t : Int) (hg : (-2147483648 ≤ g ∧ g ≤ 2147483647)) (ht : (-2147483648 ≤ t ∧ t ≤ 2147483647)) : ∀ (f m : Nat) (i : Int), m < f → 0 ≤ i → i + m = W 1613 → gJ Y X yX10_indexOfPile cX10_indexOfPile 4 (some .int) ({ frames := 1, cells := 0, slots := 0, locals := 22 } : Room) (g_pu (some (vi (sIx (sLayP W g t) m i))) K N I A R Q) gno 0 0 2 [(0, .ref s), (1, vi g), (2, vi t), (3, vi i)] [] K N I A R Q := by
  obtain ⟨hKs, hGs, ⟨zg1, zg2, zg3, zg4, zg5⟩, ⟨zq1, zq2, zq3, zq4, zq5⟩, ⟨zp1, zp2, zp3, zp4, zp5⟩, ⟨zl1, zl2, zl3, zl4, zl5⟩, ⟨zd1, zd2, zd3, zd4, zd5⟩⟩ := id hsh
  have c88 : I 166 s = W 88 := ar_166 hag
  have c89 : I 167 s = W 89 := ar_167 hag
  have c10 : I 171 s = W 1610 := ar_171 hag
  have c11 : I 172 s = W 1611 := ar_172 hag
  have c12 : I 173 s = W 1612 := ar_173 hag
  have c13 : I 168 s = W 1613 := ar_168 hag
  have c14 : I 169 s = W 1614 := ar_169 hag
  have c15 : I 170 s = W 1615 := ar_170 hag
  have n13 : 0 ≤ W 1613 ∧ W 1613 ≤ 80 := ⟨hP.1, hP.2.1⟩
  have nP := hP.2.2.1

  intro f
  induction f with
  | zero => intro m i h; omega
  | succ f ih =>
  intro m i hf hi hm
  refine g_iload_n dX10_indexOfPile_2 rfl rfl ?_
  refine g_aload_n dX10_indexOfPile_3 rfl rfl ?_
  refine g_get_State_pileCount dX10_indexOfPile_4 mw_219 (by assumption) ?_
  refine g_icmp_ge (tgt := 32) dX10_indexOfPile_7 (by decide) (by omega) (by omega) (fun c_7 => ?_) (fun c_7 => ?_)
  · refine g_iconst dX10_indexOfPile_32 ?_
    exact g_iret dX10_indexOfPile_33 rfl (by decide) (by decide) (g_pu_i (by rw [sIx_stop (by omega)]) _ _ _ _ _ _)
  · refine g_aload_n dX10_indexOfPile_10 rfl rfl ?_
    refine g_get_State_piles dX10_indexOfPile_11 mw_208 (by assumption) (by assumption) ?_
    refine g_iload_n dX10_indexOfPile_14 rfl rfl ?_
    obtain ⟨zpa, zpb, zpc⟩ := zp5 i (by omega) (by omega)
    refine g_aald_Pile dX10_indexOfPile_15 (by assumption) (by omega) (by omega) (by assumption) ?_
    refine g_iload_n dX10_indexOfPile_16 rfl rfl ?_
    refine g_iload_n dX10_indexOfPile_17 rfl rfl ?_
    refine g_callVp (i := 5) rfl (gK0 (by assumption)) (g_at5 (by assumption)) (k_P_isOf Y zpb g t hg ht (by rw [ar_100 hag (i := i) (by omega) (by omega) (by omega)]; have := nP i (by omega) (by omega); omega) (by rw [ar_101 hag (i := i) (by omega) (by omega) (by omega)]; have := nP i (by omega) (by omega); omega)) u_X7_isOf mw_598 dX10_indexOfPile_18 rfl rfl ⟨Nat.le_of_ble_eq_true rfl, Nat.le_of_ble_eq_true rfl⟩ ⟨Nat.le_of_ble_eq_true rfl, Nat.le_of_ble_eq_true rfl⟩ (Nat.le_of_ble_eq_true rfl) ?_
    rw [ar_100 hag (i := i) (by omega) (by omega) (by omega), ar_101 hag (i := i) (by omega) (by omega) (by omega)]
    have b18 := ifd (W (90 + i) = g ∧ W (170 + i) = t)
    generalize (if W (90 + i) = g ∧ W (170 + i) = t then (1 : Int) else 0) = z18 at b18 ⊢
    refine g_if_eq (tgt := 26) dX10_indexOfPile_21 (by decide) (by omega) (fun c_21 => ?_) (fun c_21 => ?_)
    · refine g_iinc dX10_indexOfPile_26 rfl (by decide) ?_
      refine g_goto (tgt := 2) dX10_indexOfPile_29 (by decide) ?_
      rw [sIx_miss (by omega) (by simp [sLayP]; omega)]
      exact g_locs (by exact ⟨rfl, rfl, rfl, rfl, trivial⟩) (ih (m - 1) (i + 1) (by omega) (by omega) (by omega))
    · refine g_iload_n dX10_indexOfPile_24 rfl rfl ?_
      exact g_iret dX10_indexOfPile_25 rfl (by decide) (by decide) (g_pu_i (by rw [sIx_hit (by omega) (by simp [sLayP]; omega)]) _ _ _ _ _ _)
set_option maxHeartbeats 1000000 in
set_option maxRecDepth 100000 in
theorem k_S_indexOfPile (Y : gEnv) {K N : Nat → Nat} {I : Nat → Nat → Int} {A : Nat → Int → Int} {R : Nat → Nat → Option Nat} {Q : Nat → Int → Option Nat} {s : Nat} {G : Nat → Nat × Int} {W : Int → Int} (hsh : cSh K N R Q G s) (hag : ag (cV I R Q s) W) (hP : iPi W) (g t : Int) (hg : (-2147483648 ≤ g ∧ g ≤ 2147483647)) (ht : (-2147483648 ≤ t ∧ t ≤ 2147483647)) : gC Y yX10_indexOfPile cX10_indexOfPile 4 (some .int) ({ frames := 1, cells := 0, slots := 0, locals := 22 } : Room) [.ref s, vi g, vi t] K N I A R Q (g_pu (some (vi (sIx (sLayP W g t) (W 1613).toNat 0))) K N I A R Q) gno := by
  refine gC_of (by decide) (Nat.le_of_ble_eq_true rfl) (fun X => ?_)
  have h13 := hP.1
  refine g_iconst dX10_indexOfPile_0 ?_
  refine g_istore_n dX10_indexOfPile_1 rfl (by decide) ?_
  exact g_locs (by exact ⟨rfl, rfl, rfl, rfl, trivial⟩) (lp_S_indexOfPile hsh hag hP g t hg ht _ _ 0 (Nat.lt_succ_self _) (by omega) (by omega))
set_option maxHeartbeats 1000000 in
set_option maxRecDepth 100000 in
theorem lp_S_indexOfLot {Y : gEnv} {X : gCtx} {K N : Nat → Nat} {I : Nat → Nat → Int} {A : Nat → Int → Int} {R : Nat → Nat → Option Nat} {Q : Nat → Int → Option Nat} {s : Nat} {G : Nat → Nat × Int} {W : Int → Int} (hsh : cSh K N R Q G s) (hag : ag (cV I R Q s) W) (hL : iL W) (g t r : Int) (hg : (-2147483648 ≤ g ∧ g ≤ 2147483647)) (ht : (-2147483648 ≤ t ∧ t ≤ 2147483647)) (hr : (-2147483648 ≤ r ∧ r ≤ 2147483647)) : ∀ (f m : Nat) (i : Int), m < f → 0 ≤ i → i + m = W 1614 → gJ Y X yX10_indexOfLot cX10_indexOfLot 5 (some .int) ({ frames := 1, cells := 0, slots := 0, locals := 22 } : Room) (g_pu (some (vi (sIx (sFindP W g t r) m i))) K N I A R Q) gno 0 0 3 [(0, .ref s), (1, vi g), (2, vi t), (3, vi r), (4, vi i)] [] K N I A R Q := by
  obtain ⟨hKs, hGs, ⟨zg1, zg2, zg3, zg4, zg5⟩, ⟨zq1, zq2, zq3, zq4, zq5⟩, ⟨zp1, zp2, zp3, zp4, zp5⟩, ⟨zl1, zl2, zl3, zl4, zl5⟩, ⟨zd1, zd2, zd3, zd4, zd5⟩⟩ := id hsh
  have c88 : I 166 s = W 88 := ar_166 hag
  have c89 : I 167 s = W 89 := ar_167 hag
  have c10 : I 171 s = W 1610 := ar_171 hag
  have c11 : I 172 s = W 1611 := ar_172 hag
  have c12 : I 173 s = W 1612 := ar_173 hag
  have c13 : I 168 s = W 1613 := ar_168 hag
  have c14 : I 169 s = W 1614 := ar_169 hag
  have c15 : I 170 s = W 1615 := ar_170 hag
  have n14 : 0 ≤ W 1614 ∧ W 1614 ≤ 160 := ⟨hL.1, hL.2.1⟩
  have nL := hL.2.2.1

  intro f
  induction f with
  | zero => intro m i h; omega
  | succ f ih =>
  intro m i hf hi hm
  refine g_iload dX10_indexOfLot_3 rfl ?_
  refine g_aload_n dX10_indexOfLot_5 rfl rfl ?_
  refine g_get_State_lotCount dX10_indexOfLot_6 mw_220 (by assumption) ?_
  refine g_icmp_ge (tgt := 50) dX10_indexOfLot_9 (by decide) (by omega) (by omega) (fun c_9 => ?_) (fun c_9 => ?_)
  · refine g_iconst dX10_indexOfLot_50 ?_
    exact g_iret dX10_indexOfLot_51 rfl (by decide) (by decide) (g_pu_i (by rw [sIx_stop (by omega)]) _ _ _ _ _ _)
  · refine g_aload_n dX10_indexOfLot_12 rfl rfl ?_
    refine g_get_State_lots dX10_indexOfLot_13 mw_209 (by assumption) (by assumption) ?_
    refine g_iload dX10_indexOfLot_16 rfl ?_
    obtain ⟨zla, zlb, zlc⟩ := zl5 i (by omega) (by omega)
    refine g_aald_Lot dX10_indexOfLot_18 (by assumption) (by omega) (by omega) (by assumption) ?_
    refine g_iload_n dX10_indexOfLot_19 rfl rfl ?_
    refine g_iload_n dX10_indexOfLot_20 rfl rfl ?_
    refine g_callVp (i := 4) rfl (gK0 (by assumption)) (g_at4 (by assumption)) (k_L_isOf Y zlb g r hg hr (by rw [ar_80 hag (i := i) (by omega) (by omega) (by omega)]; have := nL i (by omega) (by omega); omega) (by rw [ar_82 hag (i := i) (by omega) (by omega) (by omega)]; have := nL i (by omega) (by omega); omega)) u_X6_isOf mw_642 dX10_indexOfLot_21 rfl rfl ⟨Nat.le_of_ble_eq_true rfl, Nat.le_of_ble_eq_true rfl⟩ ⟨Nat.le_of_ble_eq_true rfl, Nat.le_of_ble_eq_true rfl⟩ (Nat.le_of_ble_eq_true rfl) ?_
    rw [ar_80 hag (i := i) (by omega) (by omega) (by omega), ar_82 hag (i := i) (by omega) (by omega) (by omega)]
    have b21 := ifd (W (410 + i) = g ∧ W (730 + i) = r)
    generalize (if W (410 + i) = g ∧ W (730 + i) = r then (1 : Int) else 0) = z21 at b21 ⊢
    refine g_if_eq (tgt := 44) dX10_indexOfLot_24 (by decide) (by omega) (fun c_24 => ?_) (fun c_24 => ?_)
    · refine g_iinc dX10_indexOfLot_44 rfl (by decide) ?_
      refine g_goto (tgt := 3) dX10_indexOfLot_47 (by decide) ?_
      rw [sIx_miss (by omega) (by simp [sFindP]; omega)]
      exact g_locs (by exact ⟨rfl, rfl, rfl, rfl, rfl, trivial⟩) (ih (m - 1) (i + 1) (by omega) (by omega) (by omega))
    · refine g_aload_n dX10_indexOfLot_27 rfl rfl ?_
      refine g_get_State_lots dX10_indexOfLot_28 mw_209 (by assumption) (by assumption) ?_
      refine g_iload dX10_indexOfLot_31 rfl ?_
      obtain ⟨zla, zlb, zlc⟩ := zl5 i (by omega) (by omega)
      refine g_aald_Lot dX10_indexOfLot_33 (by assumption) (by omega) (by omega) (by assumption) ?_
      refine g_get_Lot_shade dX10_indexOfLot_34 mw_157 (by assumption) ?_
      rw [ar_81 hag (i := i) (by omega) (by omega) (by omega)]
      have nLi := nL i (by omega) (by omega)
      refine g_iload_n dX10_indexOfLot_37 rfl rfl ?_
      refine g_icmp_ne (tgt := 44) dX10_indexOfLot_38 (by decide) (by omega) (by omega) (fun c_38 => ?_) (fun c_38 => ?_)
      · refine g_iinc dX10_indexOfLot_44 rfl (by decide) ?_
        refine g_goto (tgt := 3) dX10_indexOfLot_47 (by decide) ?_
        rw [sIx_miss (by omega) (by simp [sFindP]; omega)]
        exact g_locs (by exact ⟨rfl, rfl, rfl, rfl, rfl, trivial⟩) (ih (m - 1) (i + 1) (by omega) (by omega) (by omega))
      · refine g_iload dX10_indexOfLot_41 rfl ?_
        exact g_iret dX10_indexOfLot_43 rfl (by decide) (by decide) (g_pu_i (by rw [sIx_hit (by omega) (by simp [sFindP]; omega)]) _ _ _ _ _ _)
set_option maxHeartbeats 1000000 in
set_option maxRecDepth 100000 in
theorem k_S_indexOfLot (Y : gEnv) {K N : Nat → Nat} {I : Nat → Nat → Int} {A : Nat → Int → Int} {R : Nat → Nat → Option Nat} {Q : Nat → Int → Option Nat} {s : Nat} {G : Nat → Nat × Int} {W : Int → Int} (hsh : cSh K N R Q G s) (hag : ag (cV I R Q s) W) (hL : iL W) (g t r : Int) (hg : (-2147483648 ≤ g ∧ g ≤ 2147483647)) (ht : (-2147483648 ≤ t ∧ t ≤ 2147483647)) (hr : (-2147483648 ≤ r ∧ r ≤ 2147483647)) : gC Y yX10_indexOfLot cX10_indexOfLot 5 (some .int) ({ frames := 1, cells := 0, slots := 0, locals := 22 } : Room) [.ref s, vi g, vi t, vi r] K N I A R Q (g_pu (some (vi (sFind W g t r))) K N I A R Q) gno := by
  refine gC_of (by decide) (Nat.le_of_ble_eq_true rfl) (fun X => ?_)
  have h14 := hL.1
  refine g_iconst dX10_indexOfLot_0 ?_
  refine g_istore dX10_indexOfLot_1 (by decide) ?_
  exact g_locs (by exact ⟨rfl, rfl, rfl, rfl, rfl, trivial⟩) (lp_S_indexOfLot hsh hag hL g t r hg ht hr _ _ 0 (Nat.lt_succ_self _) (by omega) (by omega))
set_option maxHeartbeats 1000000 in
set_option maxRecDepth 100000 in
theorem lp_S_boxesInLots {Y : gEnv} {X : gCtx} {K N : Nat → Nat} {I : Nat → Nat → Int} {A : Nat → Int → Int} {R : Nat → Nat → Option Nat} {Q : Nat → Int → Option Nat} {s : Nat} {G : Nat → Nat × Int} {W : Int → Int} (hsh : cSh K N R Q G s) (hag : ag (cV I R Q s) W) (h0 : iN W) : ∀ (f m : Nat) (i t : Int), m < f → 0 ≤ i → i + m = W 1614 → gJ Y X yX10_boxesInLots cX10_boxesInLots 3 (some .int) ({ frames := 0, cells := 0, slots := 0, locals := 0 } : Room) (g_pu (some (vi (t + sSum (fun l => W (1050 + l)) m i))) K N I A R Q) gno 0 0 4 [(0, .ref s), (1, vi t), (2, vi i)] [] K N I A R Q := by
  obtain ⟨hKs, hGs, ⟨zg1, zg2, zg3, zg4, zg5⟩, ⟨zq1, zq2, zq3, zq4, zq5⟩, ⟨zp1, zp2, zp3, zp4, zp5⟩, ⟨zl1, zl2, zl3, zl4, zl5⟩, ⟨zd1, zd2, zd3, zd4, zd5⟩⟩ := id hsh
  have c88 : I 166 s = W 88 := ar_166 hag
  have c89 : I 167 s = W 89 := ar_167 hag
  have c10 : I 171 s = W 1610 := ar_171 hag
  have c11 : I 172 s = W 1611 := ar_172 hag
  have c12 : I 173 s = W 1612 := ar_173 hag
  have c13 : I 168 s = W 1613 := ar_168 hag
  have c14 : I 169 s = W 1614 := ar_169 hag
  have c15 : I 170 s = W 1615 := ar_170 hag
  have hP := h0.2.2.2.1
  have hL := h0.2.2.2.2.1
  have n15 : 0 ≤ W 1615 ∧ W 1615 ≤ 40 := ⟨h0.2.2.2.2.2.1.1, h0.2.2.2.2.2.1.2.1⟩
  have nD := h0.2.2.2.2.2.1.2.2
  have nG := h0.1
  have nO := h0.2.1
  have nB := h0.2.2.1
  obtain ⟨s1, s2, s3, s4, s5, s6, s7, s8, s9, s10⟩ := h0.2.2.2.2.2.2.1
  have hsu := h0.sums
  have n13 : 0 ≤ W 1613 ∧ W 1613 ≤ 80 := ⟨hP.1, hP.2.1⟩
  have nP := hP.2.2.1
  have n14 : 0 ≤ W 1614 ∧ W 1614 ≤ 160 := ⟨hL.1, hL.2.1⟩
  have nL := hL.2.2.1

  intro f
  induction f with
  | zero => intro m i t h; omega
  | succ f ih =>
  intro m i t hf hi hm
  refine g_iload_n dX10_boxesInLots_4 rfl rfl ?_
  refine g_aload_n dX10_boxesInLots_5 rfl rfl ?_
  refine g_get_State_lotCount dX10_boxesInLots_6 mw_220 (by assumption) ?_
  refine g_icmp_ge (tgt := 30) dX10_boxesInLots_9 (by decide) (by omega) (by omega) (fun c_9 => ?_) (fun c_9 => ?_)
  · refine g_iload_n dX10_boxesInLots_30 rfl rfl ?_
    exact g_iret dX10_boxesInLots_31 rfl (by decide) (by decide) (g_pu_i (by rw [sSum_stop (by omega), Int.add_zero]) _ _ _ _ _ _)
  · refine g_iload_n dX10_boxesInLots_12 rfl rfl ?_
    refine g_aload_n dX10_boxesInLots_13 rfl rfl ?_
    refine g_get_State_lots dX10_boxesInLots_14 mw_209 (by assumption) (by assumption) ?_
    refine g_iload_n dX10_boxesInLots_17 rfl rfl ?_
    obtain ⟨zla, zlb, zlc⟩ := zl5 i (by omega) (by omega)
    refine g_aald_Lot dX10_boxesInLots_18 (by assumption) (by omega) (by omega) (by assumption) ?_
    refine g_get_Lot_boxes dX10_boxesInLots_19 mw_162 (by assumption) ?_
    rw [ar_84 hag (i := i) (by omega) (by omega) (by omega)]
    refine g_iadd dX10_boxesInLots_22 ?_
    refine g_istore_n dX10_boxesInLots_23 rfl (by decide) ?_
    refine g_iinc dX10_boxesInLots_24 rfl (by decide) ?_
    refine g_goto (tgt := 4) dX10_boxesInLots_27 (by decide) ?_
    rw [sSum_step (by omega), ← Int.add_assoc]
    exact g_locs (by exact ⟨rfl, rfl, rfl, trivial⟩) (ih (m - 1) (i + 1) _ (by omega) (by omega) (by omega))
set_option maxHeartbeats 1000000 in
set_option maxRecDepth 100000 in
theorem k_S_boxesInLots (Y : gEnv) {K N : Nat → Nat} {I : Nat → Nat → Int} {A : Nat → Int → Int} {R : Nat → Nat → Option Nat} {Q : Nat → Int → Option Nat} {s : Nat} {G : Nat → Nat × Int} {W : Int → Int} (hsh : cSh K N R Q G s) (hag : ag (cV I R Q s) W) (h0 : iN W) : gC Y yX10_boxesInLots cX10_boxesInLots 3 (some .int) ({ frames := 0, cells := 0, slots := 0, locals := 0 } : Room) [.ref s] K N I A R Q (g_pu (some (vi (sSum (fun l => W (1050 + l)) (W 1614).toNat 0))) K N I A R Q) gno := by
  refine gC_of (by decide) (Nat.le_of_ble_eq_true rfl) (fun X => ?_)
  have n13 := h0.2.2.2.1.1
  have n14 := h0.2.2.2.2.1.1
  have n15 := h0.2.2.2.2.2.1.1
  have hl := lp_S_boxesInLots (Y := Y) (X := X) (A := A) hsh hag h0  _ (W 1614).toNat 0 0 (Nat.lt_succ_self _) (by omega) (by omega)
  rw [Int.zero_add] at hl
  refine g_iconst dX10_boxesInLots_0 ?_
  refine g_istore_n dX10_boxesInLots_1 rfl (by decide) ?_
  refine g_iconst dX10_boxesInLots_2 ?_
  refine g_istore_n dX10_boxesInLots_3 rfl (by decide) ?_
  exact g_locs (by exact ⟨rfl, rfl, rfl, trivial⟩) hl
set_option maxHeartbeats 1000000 in
set_option maxRecDepth 100000 in
theorem lp_S_looseTiles {Y : gEnv} {X : gCtx} {K N : Nat → Nat} {I : Nat → Nat → Int} {A : Nat → Int → Int} {R : Nat → Nat → Option Nat} {Q : Nat → Int → Option Nat} {s : Nat} {G : Nat → Nat × Int} {W : Int → Int} (hsh : cSh K N R Q G s) (hag : ag (cV I R Q s) W) (h0 : iN W) : ∀ (f m : Nat) (i t : Int), m < f → 0 ≤ i → i + m = W 1614 → gJ Y X yX10_looseTiles cX10_looseTiles 3 (some .int) ({ frames := 0, cells := 0, slots := 0, locals := 0 } : Room) (g_pu (some (vi (t + sSum (fun l => W (890 + l)) m i))) K N I A R Q) gno 0 0 4 [(0, .ref s), (1, vi t), (2, vi i)] [] K N I A R Q := by
  obtain ⟨hKs, hGs, ⟨zg1, zg2, zg3, zg4, zg5⟩, ⟨zq1, zq2, zq3, zq4, zq5⟩, ⟨zp1, zp2, zp3, zp4, zp5⟩, ⟨zl1, zl2, zl3, zl4, zl5⟩, ⟨zd1, zd2, zd3, zd4, zd5⟩⟩ := id hsh
  have c88 : I 166 s = W 88 := ar_166 hag
  have c89 : I 167 s = W 89 := ar_167 hag
  have c10 : I 171 s = W 1610 := ar_171 hag
  have c11 : I 172 s = W 1611 := ar_172 hag
  have c12 : I 173 s = W 1612 := ar_173 hag
  have c13 : I 168 s = W 1613 := ar_168 hag
  have c14 : I 169 s = W 1614 := ar_169 hag
  have c15 : I 170 s = W 1615 := ar_170 hag
  have hP := h0.2.2.2.1
  have hL := h0.2.2.2.2.1
  have n15 : 0 ≤ W 1615 ∧ W 1615 ≤ 40 := ⟨h0.2.2.2.2.2.1.1, h0.2.2.2.2.2.1.2.1⟩
  have nD := h0.2.2.2.2.2.1.2.2
  have nG := h0.1
  have nO := h0.2.1
  have nB := h0.2.2.1
  obtain ⟨s1, s2, s3, s4, s5, s6, s7, s8, s9, s10⟩ := h0.2.2.2.2.2.2.1
  have hsu := h0.sums
  have n13 : 0 ≤ W 1613 ∧ W 1613 ≤ 80 := ⟨hP.1, hP.2.1⟩
  have nP := hP.2.2.1
  have n14 : 0 ≤ W 1614 ∧ W 1614 ≤ 160 := ⟨hL.1, hL.2.1⟩
  have nL := hL.2.2.1

  intro f
  induction f with
  | zero => intro m i t h; omega
  | succ f ih =>
  intro m i t hf hi hm
  refine g_iload_n dX10_looseTiles_4 rfl rfl ?_
  refine g_aload_n dX10_looseTiles_5 rfl rfl ?_
  refine g_get_State_lotCount dX10_looseTiles_6 mw_220 (by assumption) ?_
  refine g_icmp_ge (tgt := 30) dX10_looseTiles_9 (by decide) (by omega) (by omega) (fun c_9 => ?_) (fun c_9 => ?_)
  · refine g_iload_n dX10_looseTiles_30 rfl rfl ?_
    exact g_iret dX10_looseTiles_31 rfl (by decide) (by decide) (g_pu_i (by rw [sSum_stop (by omega), Int.add_zero]) _ _ _ _ _ _)
  · refine g_iload_n dX10_looseTiles_12 rfl rfl ?_
    refine g_aload_n dX10_looseTiles_13 rfl rfl ?_
    refine g_get_State_lots dX10_looseTiles_14 mw_209 (by assumption) (by assumption) ?_
    refine g_iload_n dX10_looseTiles_17 rfl rfl ?_
    obtain ⟨zla, zlb, zlc⟩ := zl5 i (by omega) (by omega)
    refine g_aald_Lot dX10_looseTiles_18 (by assumption) (by omega) (by omega) (by assumption) ?_
    refine g_get_Lot_loose dX10_looseTiles_19 mw_160 (by assumption) ?_
    rw [ar_83 hag (i := i) (by omega) (by omega) (by omega)]
    refine g_iadd dX10_looseTiles_22 ?_
    refine g_istore_n dX10_looseTiles_23 rfl (by decide) ?_
    refine g_iinc dX10_looseTiles_24 rfl (by decide) ?_
    refine g_goto (tgt := 4) dX10_looseTiles_27 (by decide) ?_
    rw [sSum_step (by omega), ← Int.add_assoc]
    exact g_locs (by exact ⟨rfl, rfl, rfl, trivial⟩) (ih (m - 1) (i + 1) _ (by omega) (by omega) (by omega))
set_option maxHeartbeats 1000000 in
set_option maxRecDepth 100000 in
theorem k_S_looseTiles (Y : gEnv) {K N : Nat → Nat} {I : Nat → Nat → Int} {A : Nat → Int → Int} {R : Nat → Nat → Option Nat} {Q : Nat → Int → Option Nat} {s : Nat} {G : Nat → Nat × Int} {W : Int → Int} (hsh : cSh K N R Q G s) (hag : ag (cV I R Q s) W) (h0 : iN W) : gC Y yX10_looseTiles cX10_looseTiles 3 (some .int) ({ frames := 0, cells := 0, slots := 0, locals := 0 } : Room) [.ref s] K N I A R Q (g_pu (some (vi (sSum (fun l => W (890 + l)) (W 1614).toNat 0))) K N I A R Q) gno := by
  refine gC_of (by decide) (Nat.le_of_ble_eq_true rfl) (fun X => ?_)
  have n13 := h0.2.2.2.1.1
  have n14 := h0.2.2.2.2.1.1
  have n15 := h0.2.2.2.2.2.1.1
  have hl := lp_S_looseTiles (Y := Y) (X := X) (A := A) hsh hag h0  _ (W 1614).toNat 0 0 (Nat.lt_succ_self _) (by omega) (by omega)
  rw [Int.zero_add] at hl
  refine g_iconst dX10_looseTiles_0 ?_
  refine g_istore_n dX10_looseTiles_1 rfl (by decide) ?_
  refine g_iconst dX10_looseTiles_2 ?_
  refine g_istore_n dX10_looseTiles_3 rfl (by decide) ?_
  exact g_locs (by exact ⟨rfl, rfl, rfl, trivial⟩) hl
set_option maxHeartbeats 1000000 in
set_option maxRecDepth 100000 in
theorem lp_S_tilesOnBench {Y : gEnv} {X : gCtx} {K N : Nat → Nat} {I : Nat → Nat → Int} {A : Nat → Int → Int} {R : Nat → Nat → Option Nat} {Q : Nat → Int → Option Nat} {s : Nat} {G : Nat → Nat × Int} {W : Int → Int} (hsh : cSh K N R Q G s) (hag : ag (cV I R Q s) W) (h0 : iN W) : ∀ (f m : Nat) (i t : Int), m < f → 0 ≤ i → i + m = W 1613 → gJ Y X yX10_tilesOnBench cX10_tilesOnBench 3 (some .int) ({ frames := 0, cells := 0, slots := 0, locals := 0 } : Room) (g_pu (some (vi (t + sSum (fun l => W (250 + l)) m i))) K N I A R Q) gno 0 0 4 [(0, .ref s), (1, vi t), (2, vi i)] [] K N I A R Q := by
  obtain ⟨hKs, hGs, ⟨zg1, zg2, zg3, zg4, zg5⟩, ⟨zq1, zq2, zq3, zq4, zq5⟩, ⟨zp1, zp2, zp3, zp4, zp5⟩, ⟨zl1, zl2, zl3, zl4, zl5⟩, ⟨zd1, zd2, zd3, zd4, zd5⟩⟩ := id hsh
  have c88 : I 166 s = W 88 := ar_166 hag
  have c89 : I 167 s = W 89 := ar_167 hag
  have c10 : I 171 s = W 1610 := ar_171 hag
  have c11 : I 172 s = W 1611 := ar_172 hag
  have c12 : I 173 s = W 1612 := ar_173 hag
  have c13 : I 168 s = W 1613 := ar_168 hag
  have c14 : I 169 s = W 1614 := ar_169 hag
  have c15 : I 170 s = W 1615 := ar_170 hag
  have hP := h0.2.2.2.1
  have hL := h0.2.2.2.2.1
  have n15 : 0 ≤ W 1615 ∧ W 1615 ≤ 40 := ⟨h0.2.2.2.2.2.1.1, h0.2.2.2.2.2.1.2.1⟩
  have nD := h0.2.2.2.2.2.1.2.2
  have nG := h0.1
  have nO := h0.2.1
  have nB := h0.2.2.1
  obtain ⟨s1, s2, s3, s4, s5, s6, s7, s8, s9, s10⟩ := h0.2.2.2.2.2.2.1
  have hsu := h0.sums
  have n13 : 0 ≤ W 1613 ∧ W 1613 ≤ 80 := ⟨hP.1, hP.2.1⟩
  have nP := hP.2.2.1
  have n14 : 0 ≤ W 1614 ∧ W 1614 ≤ 160 := ⟨hL.1, hL.2.1⟩
  have nL := hL.2.2.1

  intro f
  induction f with
  | zero => intro m i t h; omega
  | succ f ih =>
  intro m i t hf hi hm
  refine g_iload_n dX10_tilesOnBench_4 rfl rfl ?_
  refine g_aload_n dX10_tilesOnBench_5 rfl rfl ?_
  refine g_get_State_pileCount dX10_tilesOnBench_6 mw_219 (by assumption) ?_
  refine g_icmp_ge (tgt := 30) dX10_tilesOnBench_9 (by decide) (by omega) (by omega) (fun c_9 => ?_) (fun c_9 => ?_)
  · refine g_iload_n dX10_tilesOnBench_30 rfl rfl ?_
    exact g_iret dX10_tilesOnBench_31 rfl (by decide) (by decide) (g_pu_i (by rw [sSum_stop (by omega), Int.add_zero]) _ _ _ _ _ _)
  · refine g_iload_n dX10_tilesOnBench_12 rfl rfl ?_
    refine g_aload_n dX10_tilesOnBench_13 rfl rfl ?_
    refine g_get_State_piles dX10_tilesOnBench_14 mw_208 (by assumption) (by assumption) ?_
    refine g_iload_n dX10_tilesOnBench_17 rfl rfl ?_
    obtain ⟨zpa, zpb, zpc⟩ := zp5 i (by omega) (by omega)
    refine g_aald_Pile dX10_tilesOnBench_18 (by assumption) (by omega) (by omega) (by assumption) ?_
    refine g_get_Pile_tiles dX10_tilesOnBench_19 mw_138 (by assumption) ?_
    rw [ar_102 hag (i := i) (by omega) (by omega) (by omega)]
    refine g_iadd dX10_tilesOnBench_22 ?_
    refine g_istore_n dX10_tilesOnBench_23 rfl (by decide) ?_
    refine g_iinc dX10_tilesOnBench_24 rfl (by decide) ?_
    refine g_goto (tgt := 4) dX10_tilesOnBench_27 (by decide) ?_
    rw [sSum_step (by omega), ← Int.add_assoc]
    exact g_locs (by exact ⟨rfl, rfl, rfl, trivial⟩) (ih (m - 1) (i + 1) _ (by omega) (by omega) (by omega))
set_option maxHeartbeats 1000000 in
set_option maxRecDepth 100000 in
theorem k_S_tilesOnBench (Y : gEnv) {K N : Nat → Nat} {I : Nat → Nat → Int} {A : Nat → Int → Int} {R : Nat → Nat → Option Nat} {Q : Nat → Int → Option Nat} {s : Nat} {G : Nat → Nat × Int} {W : Int → Int} (hsh : cSh K N R Q G s) (hag : ag (cV I R Q s) W) (h0 : iN W) : gC Y yX10_tilesOnBench cX10_tilesOnBench 3 (some .int) ({ frames := 0, cells := 0, slots := 0, locals := 0 } : Room) [.ref s] K N I A R Q (g_pu (some (vi (sSum (fun l => W (250 + l)) (W 1613).toNat 0))) K N I A R Q) gno := by
  refine gC_of (by decide) (Nat.le_of_ble_eq_true rfl) (fun X => ?_)
  have n13 := h0.2.2.2.1.1
  have n14 := h0.2.2.2.2.1.1
  have n15 := h0.2.2.2.2.2.1.1
  have hl := lp_S_tilesOnBench (Y := Y) (X := X) (A := A) hsh hag h0  _ (W 1613).toNat 0 0 (Nat.lt_succ_self _) (by omega) (by omega)
  rw [Int.zero_add] at hl
  refine g_iconst dX10_tilesOnBench_0 ?_
  refine g_istore_n dX10_tilesOnBench_1 rfl (by decide) ?_
  refine g_iconst dX10_tilesOnBench_2 ?_
  refine g_istore_n dX10_tilesOnBench_3 rfl (by decide) ?_
  exact g_locs (by exact ⟨rfl, rfl, rfl, trivial⟩) hl
set_option maxHeartbeats 1000000 in
set_option maxRecDepth 100000 in
theorem lp_S_boxesOut {Y : gEnv} {X : gCtx} {K N : Nat → Nat} {I : Nat → Nat → Int} {A : Nat → Int → Int} {R : Nat → Nat → Option Nat} {Q : Nat → Int → Option Nat} {s : Nat} {G : Nat → Nat × Int} {W : Int → Int} (hsh : cSh K N R Q G s) (hag : ag (cV I R Q s) W) (h0 : iN W) : ∀ (f m : Nat) (i t : Int), m < f → 0 ≤ i → i + m = W 1615 → gJ Y X yX10_boxesOut cX10_boxesOut 3 (some .int) ({ frames := 0, cells := 0, slots := 0, locals := 0 } : Room) (g_pu (some (vi (t + sSum (fun l => W (1450 + l)) m i))) K N I A R Q) gno 0 0 4 [(0, .ref s), (1, vi t), (2, vi i)] [] K N I A R Q := by
  obtain ⟨hKs, hGs, ⟨zg1, zg2, zg3, zg4, zg5⟩, ⟨zq1, zq2, zq3, zq4, zq5⟩, ⟨zp1, zp2, zp3, zp4, zp5⟩, ⟨zl1, zl2, zl3, zl4, zl5⟩, ⟨zd1, zd2, zd3, zd4, zd5⟩⟩ := id hsh
  have c88 : I 166 s = W 88 := ar_166 hag
  have c89 : I 167 s = W 89 := ar_167 hag
  have c10 : I 171 s = W 1610 := ar_171 hag
  have c11 : I 172 s = W 1611 := ar_172 hag
  have c12 : I 173 s = W 1612 := ar_173 hag
  have c13 : I 168 s = W 1613 := ar_168 hag
  have c14 : I 169 s = W 1614 := ar_169 hag
  have c15 : I 170 s = W 1615 := ar_170 hag
  have hP := h0.2.2.2.1
  have hL := h0.2.2.2.2.1
  have n15 : 0 ≤ W 1615 ∧ W 1615 ≤ 40 := ⟨h0.2.2.2.2.2.1.1, h0.2.2.2.2.2.1.2.1⟩
  have nD := h0.2.2.2.2.2.1.2.2
  have nG := h0.1
  have nO := h0.2.1
  have nB := h0.2.2.1
  obtain ⟨s1, s2, s3, s4, s5, s6, s7, s8, s9, s10⟩ := h0.2.2.2.2.2.2.1
  have hsu := h0.sums
  have n13 : 0 ≤ W 1613 ∧ W 1613 ≤ 80 := ⟨hP.1, hP.2.1⟩
  have nP := hP.2.2.1
  have n14 : 0 ≤ W 1614 ∧ W 1614 ≤ 160 := ⟨hL.1, hL.2.1⟩
  have nL := hL.2.2.1

  intro f
  induction f with
  | zero => intro m i t h; omega
  | succ f ih =>
  intro m i t hf hi hm
  refine g_iload_n dX10_boxesOut_4 rfl rfl ?_
  refine g_aload_n dX10_boxesOut_5 rfl rfl ?_
  refine g_get_State_deliveryCount dX10_boxesOut_6 mw_221 (by assumption) ?_
  refine g_icmp_ge (tgt := 30) dX10_boxesOut_9 (by decide) (by omega) (by omega) (fun c_9 => ?_) (fun c_9 => ?_)
  · refine g_iload_n dX10_boxesOut_30 rfl rfl ?_
    exact g_iret dX10_boxesOut_31 rfl (by decide) (by decide) (g_pu_i (by rw [sSum_stop (by omega), Int.add_zero]) _ _ _ _ _ _)
  · refine g_iload_n dX10_boxesOut_12 rfl rfl ?_
    refine g_aload_n dX10_boxesOut_13 rfl rfl ?_
    refine g_get_State_deliveries dX10_boxesOut_14 mw_211 (by assumption) (by assumption) ?_
    refine g_iload_n dX10_boxesOut_17 rfl rfl ?_
    obtain ⟨zda, zdb, zdc⟩ := zd5 i (by omega) (by omega)
    refine g_aald_Delivery dX10_boxesOut_18 (by assumption) (by omega) (by omega) (by assumption) ?_
    refine g_get_Delivery_out dX10_boxesOut_19 mw_188 (by assumption) ?_
    rw [ar_2 hag (i := i) (by omega) (by omega) (by omega)]
    refine g_iadd dX10_boxesOut_22 ?_
    refine g_istore_n dX10_boxesOut_23 rfl (by decide) ?_
    refine g_iinc dX10_boxesOut_24 rfl (by decide) ?_
    refine g_goto (tgt := 4) dX10_boxesOut_27 (by decide) ?_
    rw [sSum_step (by omega), ← Int.add_assoc]
    exact g_locs (by exact ⟨rfl, rfl, rfl, trivial⟩) (ih (m - 1) (i + 1) _ (by omega) (by omega) (by omega))
set_option maxHeartbeats 1000000 in
set_option maxRecDepth 100000 in
theorem k_S_boxesOut (Y : gEnv) {K N : Nat → Nat} {I : Nat → Nat → Int} {A : Nat → Int → Int} {R : Nat → Nat → Option Nat} {Q : Nat → Int → Option Nat} {s : Nat} {G : Nat → Nat × Int} {W : Int → Int} (hsh : cSh K N R Q G s) (hag : ag (cV I R Q s) W) (h0 : iN W) : gC Y yX10_boxesOut cX10_boxesOut 3 (some .int) ({ frames := 0, cells := 0, slots := 0, locals := 0 } : Room) [.ref s] K N I A R Q (g_pu (some (vi (sSum (fun l => W (1450 + l)) (W 1615).toNat 0))) K N I A R Q) gno := by
  refine gC_of (by decide) (Nat.le_of_ble_eq_true rfl) (fun X => ?_)
  have n13 := h0.2.2.2.1.1
  have n14 := h0.2.2.2.2.1.1
  have n15 := h0.2.2.2.2.2.1.1
  have hl := lp_S_boxesOut (Y := Y) (X := X) (A := A) hsh hag h0  _ (W 1615).toNat 0 0 (Nat.lt_succ_self _) (by omega) (by omega)
  rw [Int.zero_add] at hl
  refine g_iconst dX10_boxesOut_0 ?_
  refine g_istore_n dX10_boxesOut_1 rfl (by decide) ?_
  refine g_iconst dX10_boxesOut_2 ?_
  refine g_istore_n dX10_boxesOut_3 rfl (by decide) ?_
  exact g_locs (by exact ⟨rfl, rfl, rfl, trivial⟩) hl
set_option maxHeartbeats 1000000 in
set_option maxRecDepth 100000 in
theorem lp_S_deliveredValue {Y : gEnv} {X : gCtx} {K N : Nat → Nat} {I : Nat → Nat → Int} {A : Nat → Int → Int} {R : Nat → Nat → Option Nat} {Q : Nat → Int → Option Nat} {s : Nat} {G : Nat → Nat × Int} {W : Int → Int} (hsh : cSh K N R Q G s) (hag : ag (cV I R Q s) W) (h0 : iN W) : ∀ (f m : Nat) (i t : Int), m < f → 0 ≤ i → i + m = W 1615 → gJ Y X yX10_deliveredValue cX10_deliveredValue 4 (some .long) ({ frames := 0, cells := 0, slots := 0, locals := 0 } : Room) (g_pu (some (vl (t + sSum (fun l => W (1530 + l)) m i))) K N I A R Q) gno 0 0 4 [(0, .ref s), (1, vl t), (3, vi i)] [] K N I A R Q := by
  obtain ⟨hKs, hGs, ⟨zg1, zg2, zg3, zg4, zg5⟩, ⟨zq1, zq2, zq3, zq4, zq5⟩, ⟨zp1, zp2, zp3, zp4, zp5⟩, ⟨zl1, zl2, zl3, zl4, zl5⟩, ⟨zd1, zd2, zd3, zd4, zd5⟩⟩ := id hsh
  have c88 : I 166 s = W 88 := ar_166 hag
  have c89 : I 167 s = W 89 := ar_167 hag
  have c10 : I 171 s = W 1610 := ar_171 hag
  have c11 : I 172 s = W 1611 := ar_172 hag
  have c12 : I 173 s = W 1612 := ar_173 hag
  have c13 : I 168 s = W 1613 := ar_168 hag
  have c14 : I 169 s = W 1614 := ar_169 hag
  have c15 : I 170 s = W 1615 := ar_170 hag
  have hP := h0.2.2.2.1
  have hL := h0.2.2.2.2.1
  have n15 : 0 ≤ W 1615 ∧ W 1615 ≤ 40 := ⟨h0.2.2.2.2.2.1.1, h0.2.2.2.2.2.1.2.1⟩
  have nD := h0.2.2.2.2.2.1.2.2
  have nG := h0.1
  have nO := h0.2.1
  have nB := h0.2.2.1
  obtain ⟨s1, s2, s3, s4, s5, s6, s7, s8, s9, s10⟩ := h0.2.2.2.2.2.2.1
  have hsu := h0.sums
  have n13 : 0 ≤ W 1613 ∧ W 1613 ≤ 80 := ⟨hP.1, hP.2.1⟩
  have nP := hP.2.2.1
  have n14 : 0 ≤ W 1614 ∧ W 1614 ≤ 160 := ⟨hL.1, hL.2.1⟩
  have nL := hL.2.2.1

  intro f
  induction f with
  | zero => intro m i t h; omega
  | succ f ih =>
  intro m i t hf hi hm
  refine g_iload_n dX10_deliveredValue_4 rfl rfl ?_
  refine g_aload_n dX10_deliveredValue_5 rfl rfl ?_
  refine g_get_State_deliveryCount dX10_deliveredValue_6 mw_221 (by assumption) ?_
  refine g_icmp_ge (tgt := 30) dX10_deliveredValue_9 (by decide) (by omega) (by omega) (fun c_9 => ?_) (fun c_9 => ?_)
  · refine g_lload_n dX10_deliveredValue_30 rfl rfl ?_
    exact g_lret dX10_deliveredValue_31 rfl (by decide) (by decide) (g_pu_l (by rw [sSum_stop (by omega), Int.add_zero]) _ _ _ _ _ _)
  · refine g_lload_n dX10_deliveredValue_12 rfl rfl ?_
    refine g_aload_n dX10_deliveredValue_13 rfl rfl ?_
    refine g_get_State_deliveries dX10_deliveredValue_14 mw_211 (by assumption) (by assumption) ?_
    refine g_iload_n dX10_deliveredValue_17 rfl rfl ?_
    obtain ⟨zda, zdb, zdc⟩ := zd5 i (by omega) (by omega)
    refine g_aald_Delivery dX10_deliveredValue_18 (by assumption) (by omega) (by omega) (by assumption) ?_
    refine g_get_Delivery_value dX10_deliveredValue_19 mw_192 (by assumption) ?_
    rw [ar_4 hag (i := i) (by omega) (by omega) (by omega)]
    refine g_ladd dX10_deliveredValue_22 ?_
    refine g_lstore_n dX10_deliveredValue_23 rfl (by decide) ?_
    refine g_iinc dX10_deliveredValue_24 rfl (by decide) ?_
    refine g_goto (tgt := 4) dX10_deliveredValue_27 (by decide) ?_
    rw [sSum_step (by omega), ← Int.add_assoc]
    exact g_locs (by exact ⟨rfl, rfl, rfl, trivial⟩) (ih (m - 1) (i + 1) _ (by omega) (by omega) (by omega))
set_option maxHeartbeats 1000000 in
set_option maxRecDepth 100000 in
theorem k_S_deliveredValue (Y : gEnv) {K N : Nat → Nat} {I : Nat → Nat → Int} {A : Nat → Int → Int} {R : Nat → Nat → Option Nat} {Q : Nat → Int → Option Nat} {s : Nat} {G : Nat → Nat × Int} {W : Int → Int} (hsh : cSh K N R Q G s) (hag : ag (cV I R Q s) W) (h0 : iN W) : gC Y yX10_deliveredValue cX10_deliveredValue 4 (some .long) ({ frames := 0, cells := 0, slots := 0, locals := 0 } : Room) [.ref s] K N I A R Q (g_pu (some (vl (sSum (fun l => W (1530 + l)) (W 1615).toNat 0))) K N I A R Q) gno := by
  refine gC_of (by decide) (Nat.le_of_ble_eq_true rfl) (fun X => ?_)
  have n13 := h0.2.2.2.1.1
  have n14 := h0.2.2.2.2.1.1
  have n15 := h0.2.2.2.2.2.1.1
  have hl := lp_S_deliveredValue (Y := Y) (X := X) (A := A) hsh hag h0  _ (W 1615).toNat 0 0 (Nat.lt_succ_self _) (by omega) (by omega)
  rw [Int.zero_add] at hl
  refine g_lconst (c := 0) dX10_deliveredValue_0 (by decide) ?_
  refine g_lstore_n dX10_deliveredValue_1 rfl (by decide) ?_
  refine g_iconst dX10_deliveredValue_2 ?_
  refine g_istore_n dX10_deliveredValue_3 rfl (by decide) ?_
  exact g_locs (by exact ⟨rfl, rfl, rfl, trivial⟩) hl
set_option maxHeartbeats 1000000 in
set_option maxRecDepth 100000 in
theorem lp_S_contentOf {Y : gEnv} {X : gCtx} {K N : Nat → Nat} {I : Nat → Nat → Int} {A : Nat → Int → Int} {R : Nat → Nat → Option Nat} {Q : Nat → Int → Option Nat} {s : Nat} {G : Nat → Nat × Int} {W : Int → Int} (hsh : cSh K N R Q G s) (hag : ag (cV I R Q s) W) (h0 : iN W) (g r : Int) (hg : (-2147483648 ≤ g ∧ g ≤ 2147483647)) (hr : (-2147483648 ≤ r ∧ r ≤ 2147483647)) : ∀ (f m : Nat) (i t : Int), m < f → 0 ≤ i → i + m = W 1614 → gJ Y X yX10_contentOf cX10_contentOf 5 (some .int) ({ frames := 1, cells := 0, slots := 0, locals := 22 } : Room) (g_pu (some (vi (t + sSum (fun l => if W (410 + l) = g ∧ W (730 + l) = r then sContent W l else 0) m i))) K N I A R Q) gno 0 0 5 [(0, .ref s), (1, vi g), (2, vi r), (3, vi t), (4, vi i)] [] K N I A R Q := by
  obtain ⟨hKs, hGs, ⟨zg1, zg2, zg3, zg4, zg5⟩, ⟨zq1, zq2, zq3, zq4, zq5⟩, ⟨zp1, zp2, zp3, zp4, zp5⟩, ⟨zl1, zl2, zl3, zl4, zl5⟩, ⟨zd1, zd2, zd3, zd4, zd5⟩⟩ := id hsh
  have c88 : I 166 s = W 88 := ar_166 hag
  have c89 : I 167 s = W 89 := ar_167 hag
  have c10 : I 171 s = W 1610 := ar_171 hag
  have c11 : I 172 s = W 1611 := ar_172 hag
  have c12 : I 173 s = W 1612 := ar_173 hag
  have c13 : I 168 s = W 1613 := ar_168 hag
  have c14 : I 169 s = W 1614 := ar_169 hag
  have c15 : I 170 s = W 1615 := ar_170 hag
  have hP := h0.2.2.2.1
  have hL := h0.2.2.2.2.1
  have n15 : 0 ≤ W 1615 ∧ W 1615 ≤ 40 := ⟨h0.2.2.2.2.2.1.1, h0.2.2.2.2.2.1.2.1⟩
  have nD := h0.2.2.2.2.2.1.2.2
  have nG := h0.1
  have nO := h0.2.1
  have nB := h0.2.2.1
  obtain ⟨s1, s2, s3, s4, s5, s6, s7, s8, s9, s10⟩ := h0.2.2.2.2.2.2.1
  have hsu := h0.sums
  have n13 : 0 ≤ W 1613 ∧ W 1613 ≤ 80 := ⟨hP.1, hP.2.1⟩
  have nP := hP.2.2.1
  have n14 : 0 ≤ W 1614 ∧ W 1614 ≤ 160 := ⟨hL.1, hL.2.1⟩
  have nL := hL.2.2.1

  intro f
  induction f with
  | zero => intro m i t h; omega
  | succ f ih =>
  intro m i t hf hi hm
  refine g_iload dX10_contentOf_5 rfl ?_
  refine g_aload_n dX10_contentOf_7 rfl rfl ?_
  refine g_get_State_lotCount dX10_contentOf_8 mw_220 (by assumption) ?_
  refine g_icmp_ge (tgt := 52) dX10_contentOf_11 (by decide) (by omega) (by omega) (fun c_11 => ?_) (fun c_11 => ?_)
  · refine g_iload_n dX10_contentOf_52 rfl rfl ?_
    exact g_iret dX10_contentOf_53 rfl (by decide) (by decide) (g_pu_i (by rw [sSum_stop (by omega), Int.add_zero]) _ _ _ _ _ _)
  · refine g_aload_n dX10_contentOf_14 rfl rfl ?_
    refine g_get_State_lots dX10_contentOf_15 mw_209 (by assumption) (by assumption) ?_
    refine g_iload dX10_contentOf_18 rfl ?_
    obtain ⟨zla, zlb, zlc⟩ := zl5 i (by omega) (by omega)
    refine g_aald_Lot dX10_contentOf_20 (by assumption) (by omega) (by omega) (by assumption) ?_
    refine g_iload_n dX10_contentOf_21 rfl rfl ?_
    refine g_iload_n dX10_contentOf_22 rfl rfl ?_
    refine g_callVp (i := 4) rfl (gK0 (by assumption)) (g_at4 (by assumption)) (k_L_isOf Y zlb g r hg hr (by rw [ar_80 hag (i := i) (by omega) (by omega) (by omega)]; have := nL i (by omega) (by omega); omega) (by rw [ar_82 hag (i := i) (by omega) (by omega) (by omega)]; have := nL i (by omega) (by omega); omega)) u_X6_isOf mw_642 dX10_contentOf_23 rfl rfl ⟨Nat.le_of_ble_eq_true rfl, Nat.le_of_ble_eq_true rfl⟩ ⟨Nat.le_of_ble_eq_true rfl, Nat.le_of_ble_eq_true rfl⟩ (Nat.le_of_ble_eq_true rfl) ?_
    rw [ar_80 hag (i := i) (by omega) (by omega) (by omega), ar_82 hag (i := i) (by omega) (by omega) (by omega)]
    have b23 := ifd (W (410 + i) = g ∧ W (730 + i) = r)
    generalize (if W (410 + i) = g ∧ W (730 + i) = r then (1 : Int) else 0) = z23 at b23 ⊢
    refine g_if_eq (tgt := 46) dX10_contentOf_26 (by decide) (by omega) (fun c_26 => ?_) (fun c_26 => ?_)
    · refine g_iinc dX10_contentOf_46 rfl (by decide) ?_
      refine g_goto (tgt := 5) dX10_contentOf_49 (by decide) ?_
      rw [sSum_step (by omega), ← Int.add_assoc]
      first | rw [if_pos (by omega)] | rw [if_neg (by omega), Int.add_zero]
      exact g_locs (by exact ⟨rfl, rfl, rfl, rfl, rfl, trivial⟩) (ih (m - 1) (i + 1) _ (by omega) (by omega) (by omega))
    · refine g_iload_n dX10_contentOf_29 rfl rfl ?_
      refine g_aload_n dX10_contentOf_30 rfl rfl ?_
      refine g_get_State_lots dX10_contentOf_31 mw_209 (by assumption) (by assumption) ?_
      refine g_iload dX10_contentOf_34 rfl ?_
      obtain ⟨zla, zlb, zlc⟩ := zl5 i (by omega) (by omega)
      refine g_aald_Lot dX10_contentOf_36 (by assumption) (by omega) (by omega) (by assumption) ?_
      refine g_aload_n dX10_contentOf_37 rfl rfl ?_
      refine g_get_State_boxSize dX10_contentOf_38 mw_217 (by assumption) ?_
      refine g_callVp (i := 4) rfl (gK0 (by assumption)) (g_at4 (by assumption)) (k_L_content Y (by assumption) _) u_X6_content mw_1003 dX10_contentOf_41 rfl rfl ⟨Nat.le_of_ble_eq_true rfl, Nat.le_of_ble_eq_true rfl⟩ ⟨Nat.le_of_ble_eq_true rfl, Nat.le_of_ble_eq_true rfl⟩ (Nat.le_of_ble_eq_true rfl) ?_
      rw [ar_83 hag (i := i) (by omega) (by omega) (by omega), ar_84 hag (i := i) (by omega) (by omega) (by omega), c89]
      rw [show W (890 + i) + W (1050 + i) * W 89 = sContent W i from rfl]
      refine g_iadd dX10_contentOf_44 ?_
      refine g_istore_n dX10_contentOf_45 rfl (by decide) ?_
      refine g_iinc dX10_contentOf_46 rfl (by decide) ?_
      refine g_goto (tgt := 5) dX10_contentOf_49 (by decide) ?_
      rw [sSum_step (by omega), ← Int.add_assoc]
      first | rw [if_pos (by omega)] | rw [if_neg (by omega), Int.add_zero]
      exact g_locs (by exact ⟨rfl, rfl, rfl, rfl, rfl, trivial⟩) (ih (m - 1) (i + 1) _ (by omega) (by omega) (by omega))
set_option maxHeartbeats 1000000 in
set_option maxRecDepth 100000 in
theorem k_S_contentOf (Y : gEnv) {K N : Nat → Nat} {I : Nat → Nat → Int} {A : Nat → Int → Int} {R : Nat → Nat → Option Nat} {Q : Nat → Int → Option Nat} {s : Nat} {G : Nat → Nat × Int} {W : Int → Int} (hsh : cSh K N R Q G s) (hag : ag (cV I R Q s) W) (h0 : iN W) (g r : Int) (hg : (-2147483648 ≤ g ∧ g ≤ 2147483647)) (hr : (-2147483648 ≤ r ∧ r ≤ 2147483647)) : gC Y yX10_contentOf cX10_contentOf 5 (some .int) ({ frames := 1, cells := 0, slots := 0, locals := 22 } : Room) [.ref s, vi g, vi r] K N I A R Q (g_pu (some (vi (sSum (fun l => if W (410 + l) = g ∧ W (730 + l) = r then sContent W l else 0) (W 1614).toNat 0))) K N I A R Q) gno := by
  refine gC_of (by decide) (Nat.le_of_ble_eq_true rfl) (fun X => ?_)
  have n13 := h0.2.2.2.1.1
  have n14 := h0.2.2.2.2.1.1
  have n15 := h0.2.2.2.2.2.1.1
  have hl := lp_S_contentOf (Y := Y) (X := X) (A := A) hsh hag h0 g r hg hr _ (W 1614).toNat 0 0 (Nat.lt_succ_self _) (by omega) (by omega)
  rw [Int.zero_add] at hl
  refine g_iconst dX10_contentOf_0 ?_
  refine g_istore_n dX10_contentOf_1 rfl (by decide) ?_
  refine g_iconst dX10_contentOf_2 ?_
  refine g_istore dX10_contentOf_3 (by decide) ?_
  exact g_locs (by exact ⟨rfl, rfl, rfl, rfl, rfl, trivial⟩) hl
set_option maxHeartbeats 1000000 in
set_option maxRecDepth 100000 in
theorem k_S_isBetter (Y : gEnv) {K N : Nat → Nat} {I : Nat → Nat → Int} {A : Nat → Int → Int} {R : Nat → Nat → Option Nat} {Q : Nat → Int → Option Nat} {a b : Nat} (ha : K a = 5) (hb : K b = 5) (h1 : (-2147483648 ≤ I 84 a ∧ I 84 a ≤ 2147483647)) (h2 : (-2147483648 ≤ I 84 b ∧ I 84 b ≤ 2147483647)) (h3 : (-2147483648 ≤ I 81 a ∧ I 81 a ≤ 2147483647)) (h4 : (-2147483648 ≤ I 81 b ∧ I 81 b ≤ 2147483647)) : gC Y yX10_isBetter cX10_isBetter 2 (some .boolean) ({ frames := 0, cells := 0, slots := 0, locals := 0 } : Room) [.ref a, .ref b] K N I A R Q (g_pu (some (vi (if I 84 a < I 84 b ∨ (I 84 a = I 84 b ∧ I 81 a < I 81 b) then 1 else 0))) K N I A R Q) gno := by
  refine gC_of (by decide) (Nat.le_of_ble_eq_true rfl) (fun X => ?_)
  refine g_aload_n dX10_isBetter_0 rfl rfl ?_
  refine g_get_Lot_boxes dX10_isBetter_1 mw_162 (by assumption) ?_
  refine g_aload_n dX10_isBetter_4 rfl rfl ?_
  refine g_get_Lot_boxes dX10_isBetter_5 mw_162 (by assumption) ?_
  refine g_icmp_lt (tgt := 33) dX10_isBetter_8 (by decide) (by omega) (by omega) (fun c_8 => ?_) (fun c_8 => ?_)
  · refine g_iconst dX10_isBetter_33 ?_
    refine g_goto (tgt := 38) dX10_isBetter_34 (by decide) ?_
    exact g_zret dX10_isBetter_38 rfl (by omega) (by decide) (by decide) (g_pu_i (by first | rw [if_pos (by omega)] | rw [if_neg (by omega)]) _ _ _ _ _ _)
  · refine g_aload_n dX10_isBetter_11 rfl rfl ?_
    refine g_get_Lot_boxes dX10_isBetter_12 mw_162 (by assumption) ?_
    refine g_aload_n dX10_isBetter_15 rfl rfl ?_
    refine g_get_Lot_boxes dX10_isBetter_16 mw_162 (by assumption) ?_
    refine g_icmp_ne (tgt := 37) dX10_isBetter_19 (by decide) (by omega) (by omega) (fun c_19 => ?_) (fun c_19 => ?_)
    · refine g_iconst dX10_isBetter_37 ?_
      exact g_zret dX10_isBetter_38 rfl (by omega) (by decide) (by decide) (g_pu_i (by first | rw [if_pos (by omega)] | rw [if_neg (by omega)]) _ _ _ _ _ _)
    · refine g_aload_n dX10_isBetter_22 rfl rfl ?_
      refine g_get_Lot_shade dX10_isBetter_23 mw_157 (by assumption) ?_
      refine g_aload_n dX10_isBetter_26 rfl rfl ?_
      refine g_get_Lot_shade dX10_isBetter_27 mw_157 (by assumption) ?_
      refine g_icmp_ge (tgt := 37) dX10_isBetter_30 (by decide) (by omega) (by omega) (fun c_30 => ?_) (fun c_30 => ?_)
      · refine g_iconst dX10_isBetter_37 ?_
        exact g_zret dX10_isBetter_38 rfl (by omega) (by decide) (by decide) (g_pu_i (by first | rw [if_pos (by omega)] | rw [if_neg (by omega)]) _ _ _ _ _ _)
      · refine g_iconst dX10_isBetter_33 ?_
        refine g_goto (tgt := 38) dX10_isBetter_34 (by decide) ?_
        exact g_zret dX10_isBetter_38 rfl (by omega) (by decide) (by decide) (g_pu_i (by first | rw [if_pos (by omega)] | rw [if_neg (by omega)]) _ _ _ _ _ _)
set_option maxHeartbeats 1000000 in
set_option maxRecDepth 100000 in
theorem lp_S_lotToDeliver {Y : gEnv} {X : gCtx} {K N : Nat → Nat} {I : Nat → Nat → Int} {A : Nat → Int → Int} {R : Nat → Nat → Option Nat} {Q : Nat → Int → Option Nat} {s : Nat} {G : Nat → Nat × Int} {W : Int → Int} (hsh : cSh K N R Q G s) (hag : ag (cV I R Q s) W) (h0 : iN W) (g r b : Int) (hg : (-2147483648 ≤ g ∧ g ≤ 2147483647)) (hr : (-2147483648 ≤ r ∧ r ≤ 2147483647)) (hb : (-2147483648 ≤ b ∧ b ≤ 2147483647)) : ∀ (f m : Nat) (i e : Int), m < f → 0 ≤ i → i + m = W 1614 → (-1 ≤ e ∧ e < i) → gJ Y X yX10_lotToDeliver cX10_lotToDeliver 8 (some .int) ({ frames := 1, cells := 0, slots := 0, locals := 22 } : Room) (g_pu (some (vi (sLotL W g r b m i e))) K N I A R Q) gno 0 0 6 [(0, .ref s), (1, vi g), (2, vi r), (3, vi b), (4, vi e), (5, vi i)] [] K N I A R Q := by
  obtain ⟨hKs, hGs, ⟨zg1, zg2, zg3, zg4, zg5⟩, ⟨zq1, zq2, zq3, zq4, zq5⟩, ⟨zp1, zp2, zp3, zp4, zp5⟩, ⟨zl1, zl2, zl3, zl4, zl5⟩, ⟨zd1, zd2, zd3, zd4, zd5⟩⟩ := id hsh
  have c88 : I 166 s = W 88 := ar_166 hag
  have c89 : I 167 s = W 89 := ar_167 hag
  have c10 : I 171 s = W 1610 := ar_171 hag
  have c11 : I 172 s = W 1611 := ar_172 hag
  have c12 : I 173 s = W 1612 := ar_173 hag
  have c13 : I 168 s = W 1613 := ar_168 hag
  have c14 : I 169 s = W 1614 := ar_169 hag
  have c15 : I 170 s = W 1615 := ar_170 hag
  have hP := h0.2.2.2.1
  have hL := h0.2.2.2.2.1
  have n15 : 0 ≤ W 1615 ∧ W 1615 ≤ 40 := ⟨h0.2.2.2.2.2.1.1, h0.2.2.2.2.2.1.2.1⟩
  have nD := h0.2.2.2.2.2.1.2.2
  have nG := h0.1
  have nO := h0.2.1
  have nB := h0.2.2.1
  obtain ⟨s1, s2, s3, s4, s5, s6, s7, s8, s9, s10⟩ := h0.2.2.2.2.2.2.1
  have hsu := h0.sums
  have n13 : 0 ≤ W 1613 ∧ W 1613 ≤ 80 := ⟨hP.1, hP.2.1⟩
  have nP := hP.2.2.1
  have n14 : 0 ≤ W 1614 ∧ W 1614 ≤ 160 := ⟨hL.1, hL.2.1⟩
  have nL := hL.2.2.1

  intro f
  induction f with
  | zero => intro m i e h; omega
  | succ f ih =>
  intro m i e hf hi hm he
  refine g_iload dX10_lotToDeliver_6 rfl ?_
  refine g_aload_n dX10_lotToDeliver_8 rfl rfl ?_
  refine g_get_State_lotCount dX10_lotToDeliver_9 mw_220 (by assumption) ?_
  refine g_icmp_ge (tgt := 89) dX10_lotToDeliver_12 (by decide) (by omega) (by omega) (fun c_12 => ?_) (fun c_12 => ?_)
  · refine g_iload dX10_lotToDeliver_89 rfl ?_
    exact g_iret dX10_lotToDeliver_91 rfl (by decide) (by decide) (g_pu_i (by rw [sLotL_stop (by omega)]) _ _ _ _ _ _)
  · refine g_aload_n dX10_lotToDeliver_15 rfl rfl ?_
    refine g_get_State_lots dX10_lotToDeliver_16 mw_209 (by assumption) (by assumption) ?_
    refine g_iload dX10_lotToDeliver_19 rfl ?_
    obtain ⟨zla, zlb, zlc⟩ := zl5 i (by omega) (by omega)
    have zlK := zlb
    have nli := nL i (by omega) (by omega)
    have nlo := h0.lot (l := i) (by omega) (by omega)
    refine g_aald_Lot dX10_lotToDeliver_21 (by assumption) (by omega) (by omega) (by assumption) ?_
    refine g_astore dX10_lotToDeliver_22 (by decide) ?_
    refine g_aload dX10_lotToDeliver_24 rfl ?_
    refine g_iload_n dX10_lotToDeliver_26 rfl rfl ?_
    refine g_iload_n dX10_lotToDeliver_27 rfl rfl ?_
    refine g_callVp (i := 4) rfl (gK0 (by assumption)) (g_at4 (by assumption)) (k_L_isOf Y zlb g r hg hr (by rw [ar_80 hag (i := i) (by omega) (by omega) (by omega)]; have := nL i (by omega) (by omega); omega) (by rw [ar_82 hag (i := i) (by omega) (by omega) (by omega)]; have := nL i (by omega) (by omega); omega)) u_X6_isOf mw_642 dX10_lotToDeliver_28 rfl rfl ⟨Nat.le_of_ble_eq_true rfl, Nat.le_of_ble_eq_true rfl⟩ ⟨Nat.le_of_ble_eq_true rfl, Nat.le_of_ble_eq_true rfl⟩ (Nat.le_of_ble_eq_true rfl) ?_
    rw [ar_80 hag (i := i) (by omega) (by omega) (by omega), ar_82 hag (i := i) (by omega) (by omega) (by omega)]
    have b28 := ifd (W (410 + i) = g ∧ W (730 + i) = r)
    generalize (if W (410 + i) = g ∧ W (730 + i) = r then (1 : Int) else 0) = z28 at b28 ⊢
    refine g_if_eq (tgt := 47) dX10_lotToDeliver_31 (by decide) (by omega) (fun c_31 => ?_) (fun c_31 => ?_)
    · refine g_iconst dX10_lotToDeliver_47 ?_
      refine g_istore dX10_lotToDeliver_48 (by decide) ?_
      refine g_iload dX10_lotToDeliver_50 rfl ?_
      refine g_if_eq (tgt := 83) dX10_lotToDeliver_52 (by decide) (by omega) (fun c_52 => ?_) (fun c_52 => ?_)
      · refine g_iinc dX10_lotToDeliver_83 rfl (by decide) ?_
        refine g_goto (tgt := 6) dX10_lotToDeliver_86 (by decide) ?_
        first
        | (rw [sLotL_take (by omega) (by simp [sMay, sBet]; omega)]; exact g_locs (by exact ⟨rfl, rfl, rfl, rfl, rfl, rfl, trivial⟩) (ih (m - 1) (i + 1) i (by omega) (by omega) (by omega) (by omega)))
        | (rw [sLotL_skip (by omega) (by simp [sMay, sBet]; omega)]; exact g_locs (by exact ⟨rfl, rfl, rfl, rfl, rfl, rfl, trivial⟩) (ih (m - 1) (i + 1) e (by omega) (by omega) (by omega) (by omega)))
      · refine g_aload_n dX10_lotToDeliver_55 rfl rfl ?_
        refine g_iload dX10_lotToDeliver_56 rfl ?_
        refine g_callVp (i := 8) rfl (gK0 (by assumption)) (g_at8 (by assumption)) (k_S_hasLot Y hsh hag hL e (by omega)) u_X10_hasLot mw_650 dX10_lotToDeliver_58 rfl rfl ⟨Nat.le_of_ble_eq_true rfl, Nat.le_of_ble_eq_true rfl⟩ ⟨Nat.le_of_ble_eq_true rfl, Nat.le_of_ble_eq_true rfl⟩ (Nat.le_of_ble_eq_true rfl) ?_
        have b61 := ifd (0 ≤ e ∧ e < W 1614)
        generalize (if 0 ≤ e ∧ e < W 1614 then (1 : Int) else 0) = z61 at b61 ⊢
        refine g_if_eq (tgt := 79) dX10_lotToDeliver_61 (by decide) (by omega) (fun c_61 => ?_) (fun c_61 => ?_)
        · refine g_iload dX10_lotToDeliver_79 rfl ?_
          refine g_istore dX10_lotToDeliver_81 (by decide) ?_
          refine g_iinc dX10_lotToDeliver_83 rfl (by decide) ?_
          refine g_goto (tgt := 6) dX10_lotToDeliver_86 (by decide) ?_
          first
          | (rw [sLotL_take (by omega) (by simp [sMay, sBet]; omega)]; exact g_locs (by exact ⟨rfl, rfl, rfl, rfl, rfl, rfl, trivial⟩) (ih (m - 1) (i + 1) i (by omega) (by omega) (by omega) (by omega)))
          | (rw [sLotL_skip (by omega) (by simp [sMay, sBet]; omega)]; exact g_locs (by exact ⟨rfl, rfl, rfl, rfl, rfl, rfl, trivial⟩) (ih (m - 1) (i + 1) e (by omega) (by omega) (by omega) (by omega)))
        · refine g_aload dX10_lotToDeliver_64 rfl ?_
          refine g_aload_n dX10_lotToDeliver_66 rfl rfl ?_
          refine g_get_State_lots dX10_lotToDeliver_67 mw_209 (by assumption) (by assumption) ?_
          refine g_iload dX10_lotToDeliver_70 rfl ?_
          have he0 : 0 ≤ e ∧ e < W 1614 := by omega
          obtain ⟨zea, zeb, zec⟩ := zl5 e (by omega) (by omega)
          have nle := nL e (by omega) (by omega)
          have nloe := h0.lot (l := e) (by omega) (by omega)
          refine g_aald_Lot dX10_lotToDeliver_72 (by assumption) (by omega) (by omega) (by assumption) ?_
          refine g_callSp (k_S_isBetter Y zlK zeb (by rw [ar_84 hag (i := i) (by omega) (by omega) (by omega)]; omega) (by rw [ar_84 hag (i := e) (by omega) (by omega) (by omega)]; omega) (by rw [ar_81 hag (i := i) (by omega) (by omega) (by omega)]; omega) (by rw [ar_81 hag (i := e) (by omega) (by omega) (by omega)]; omega)) u_X10_isBetter mw_688 rfl dX10_lotToDeliver_73 rfl rfl ⟨Nat.le_of_ble_eq_true rfl, Nat.le_of_ble_eq_true rfl⟩ ⟨Nat.le_of_ble_eq_true rfl, Nat.le_of_ble_eq_true rfl⟩ (Nat.le_of_ble_eq_true rfl) ?_
          rw [ar_84 hag (i := i) (by omega) (by omega) (by omega), ar_81 hag (i := i) (by omega) (by omega) (by omega), ar_84 hag (i := e) (by omega) (by omega) (by omega), ar_81 hag (i := e) (by omega) (by omega) (by omega)]
          have b73 := ifd (W (1050 + i) < W (1050 + e) ∨ (W (1050 + i) = W (1050 + e) ∧ W (570 + i) < W (570 + e)))
          generalize (if W (1050 + i) < W (1050 + e) ∨ (W (1050 + i) = W (1050 + e) ∧ W (570 + i) < W (570 + e)) then (1 : Int) else 0) = z73 at b73 ⊢
          refine g_if_eq (tgt := 83) dX10_lotToDeliver_76 (by decide) (by omega) (fun c_76 => ?_) (fun c_76 => ?_)
          · refine g_iinc dX10_lotToDeliver_83 rfl (by decide) ?_
            refine g_goto (tgt := 6) dX10_lotToDeliver_86 (by decide) ?_
            first
            | (rw [sLotL_take (by omega) (by simp [sMay, sBet]; omega)]; exact g_locs (by exact ⟨rfl, rfl, rfl, rfl, rfl, rfl, trivial⟩) (ih (m - 1) (i + 1) i (by omega) (by omega) (by omega) (by omega)))
            | (rw [sLotL_skip (by omega) (by simp [sMay, sBet]; omega)]; exact g_locs (by exact ⟨rfl, rfl, rfl, rfl, rfl, rfl, trivial⟩) (ih (m - 1) (i + 1) e (by omega) (by omega) (by omega) (by omega)))
          · refine g_iload dX10_lotToDeliver_79 rfl ?_
            refine g_istore dX10_lotToDeliver_81 (by decide) ?_
            refine g_iinc dX10_lotToDeliver_83 rfl (by decide) ?_
            refine g_goto (tgt := 6) dX10_lotToDeliver_86 (by decide) ?_
            first
            | (rw [sLotL_take (by omega) (by simp [sMay, sBet]; omega)]; exact g_locs (by exact ⟨rfl, rfl, rfl, rfl, rfl, rfl, trivial⟩) (ih (m - 1) (i + 1) i (by omega) (by omega) (by omega) (by omega)))
            | (rw [sLotL_skip (by omega) (by simp [sMay, sBet]; omega)]; exact g_locs (by exact ⟨rfl, rfl, rfl, rfl, rfl, rfl, trivial⟩) (ih (m - 1) (i + 1) e (by omega) (by omega) (by omega) (by omega)))
    · refine g_aload dX10_lotToDeliver_34 rfl ?_
      refine g_get_Lot_boxes dX10_lotToDeliver_36 mw_162 (by assumption) ?_
      rw [ar_84 hag (i := i) (by omega) (by omega) (by omega)]
      refine g_iload_n dX10_lotToDeliver_39 rfl rfl ?_
      refine g_icmp_lt (tgt := 47) dX10_lotToDeliver_40 (by decide) (by omega) (by omega) (fun c_40 => ?_) (fun c_40 => ?_)
      · refine g_iconst dX10_lotToDeliver_47 ?_
        refine g_istore dX10_lotToDeliver_48 (by decide) ?_
        refine g_iload dX10_lotToDeliver_50 rfl ?_
        refine g_if_eq (tgt := 83) dX10_lotToDeliver_52 (by decide) (by omega) (fun c_52 => ?_) (fun c_52 => ?_)
        · refine g_iinc dX10_lotToDeliver_83 rfl (by decide) ?_
          refine g_goto (tgt := 6) dX10_lotToDeliver_86 (by decide) ?_
          first
          | (rw [sLotL_take (by omega) (by simp [sMay, sBet]; omega)]; exact g_locs (by exact ⟨rfl, rfl, rfl, rfl, rfl, rfl, trivial⟩) (ih (m - 1) (i + 1) i (by omega) (by omega) (by omega) (by omega)))
          | (rw [sLotL_skip (by omega) (by simp [sMay, sBet]; omega)]; exact g_locs (by exact ⟨rfl, rfl, rfl, rfl, rfl, rfl, trivial⟩) (ih (m - 1) (i + 1) e (by omega) (by omega) (by omega) (by omega)))
        · refine g_aload_n dX10_lotToDeliver_55 rfl rfl ?_
          refine g_iload dX10_lotToDeliver_56 rfl ?_
          refine g_callVp (i := 8) rfl (gK0 (by assumption)) (g_at8 (by assumption)) (k_S_hasLot Y hsh hag hL e (by omega)) u_X10_hasLot mw_650 dX10_lotToDeliver_58 rfl rfl ⟨Nat.le_of_ble_eq_true rfl, Nat.le_of_ble_eq_true rfl⟩ ⟨Nat.le_of_ble_eq_true rfl, Nat.le_of_ble_eq_true rfl⟩ (Nat.le_of_ble_eq_true rfl) ?_
          have b61 := ifd (0 ≤ e ∧ e < W 1614)
          generalize (if 0 ≤ e ∧ e < W 1614 then (1 : Int) else 0) = z61 at b61 ⊢
          refine g_if_eq (tgt := 79) dX10_lotToDeliver_61 (by decide) (by omega) (fun c_61 => ?_) (fun c_61 => ?_)
          · refine g_iload dX10_lotToDeliver_79 rfl ?_
            refine g_istore dX10_lotToDeliver_81 (by decide) ?_
            refine g_iinc dX10_lotToDeliver_83 rfl (by decide) ?_
            refine g_goto (tgt := 6) dX10_lotToDeliver_86 (by decide) ?_
            first
            | (rw [sLotL_take (by omega) (by simp [sMay, sBet]; omega)]; exact g_locs (by exact ⟨rfl, rfl, rfl, rfl, rfl, rfl, trivial⟩) (ih (m - 1) (i + 1) i (by omega) (by omega) (by omega) (by omega)))
            | (rw [sLotL_skip (by omega) (by simp [sMay, sBet]; omega)]; exact g_locs (by exact ⟨rfl, rfl, rfl, rfl, rfl, rfl, trivial⟩) (ih (m - 1) (i + 1) e (by omega) (by omega) (by omega) (by omega)))
          · refine g_aload dX10_lotToDeliver_64 rfl ?_
            refine g_aload_n dX10_lotToDeliver_66 rfl rfl ?_
            refine g_get_State_lots dX10_lotToDeliver_67 mw_209 (by assumption) (by assumption) ?_
            refine g_iload dX10_lotToDeliver_70 rfl ?_
            have he0 : 0 ≤ e ∧ e < W 1614 := by omega
            obtain ⟨zea, zeb, zec⟩ := zl5 e (by omega) (by omega)
            have nle := nL e (by omega) (by omega)
            have nloe := h0.lot (l := e) (by omega) (by omega)
            refine g_aald_Lot dX10_lotToDeliver_72 (by assumption) (by omega) (by omega) (by assumption) ?_
            refine g_callSp (k_S_isBetter Y zlK zeb (by rw [ar_84 hag (i := i) (by omega) (by omega) (by omega)]; omega) (by rw [ar_84 hag (i := e) (by omega) (by omega) (by omega)]; omega) (by rw [ar_81 hag (i := i) (by omega) (by omega) (by omega)]; omega) (by rw [ar_81 hag (i := e) (by omega) (by omega) (by omega)]; omega)) u_X10_isBetter mw_688 rfl dX10_lotToDeliver_73 rfl rfl ⟨Nat.le_of_ble_eq_true rfl, Nat.le_of_ble_eq_true rfl⟩ ⟨Nat.le_of_ble_eq_true rfl, Nat.le_of_ble_eq_true rfl⟩ (Nat.le_of_ble_eq_true rfl) ?_
            rw [ar_84 hag (i := i) (by omega) (by omega) (by omega), ar_81 hag (i := i) (by omega) (by omega) (by omega), ar_84 hag (i := e) (by omega) (by omega) (by omega), ar_81 hag (i := e) (by omega) (by omega) (by omega)]
            have b73 := ifd (W (1050 + i) < W (1050 + e) ∨ (W (1050 + i) = W (1050 + e) ∧ W (570 + i) < W (570 + e)))
            generalize (if W (1050 + i) < W (1050 + e) ∨ (W (1050 + i) = W (1050 + e) ∧ W (570 + i) < W (570 + e)) then (1 : Int) else 0) = z73 at b73 ⊢
            refine g_if_eq (tgt := 83) dX10_lotToDeliver_76 (by decide) (by omega) (fun c_76 => ?_) (fun c_76 => ?_)
            · refine g_iinc dX10_lotToDeliver_83 rfl (by decide) ?_
              refine g_goto (tgt := 6) dX10_lotToDeliver_86 (by decide) ?_
              first
              | (rw [sLotL_take (by omega) (by simp [sMay, sBet]; omega)]; exact g_locs (by exact ⟨rfl, rfl, rfl, rfl, rfl, rfl, trivial⟩) (ih (m - 1) (i + 1) i (by omega) (by omega) (by omega) (by omega)))
              | (rw [sLotL_skip (by omega) (by simp [sMay, sBet]; omega)]; exact g_locs (by exact ⟨rfl, rfl, rfl, rfl, rfl, rfl, trivial⟩) (ih (m - 1) (i + 1) e (by omega) (by omega) (by omega) (by omega)))
            · refine g_iload dX10_lotToDeliver_79 rfl ?_
              refine g_istore dX10_lotToDeliver_81 (by decide) ?_
              refine g_iinc dX10_lotToDeliver_83 rfl (by decide) ?_
              refine g_goto (tgt := 6) dX10_lotToDeliver_86 (by decide) ?_
              first
              | (rw [sLotL_take (by omega) (by simp [sMay, sBet]; omega)]; exact g_locs (by exact ⟨rfl, rfl, rfl, rfl, rfl, rfl, trivial⟩) (ih (m - 1) (i + 1) i (by omega) (by omega) (by omega) (by omega)))
              | (rw [sLotL_skip (by omega) (by simp [sMay, sBet]; omega)]; exact g_locs (by exact ⟨rfl, rfl, rfl, rfl, rfl, rfl, trivial⟩) (ih (m - 1) (i + 1) e (by omega) (by omega) (by omega) (by omega)))
      · refine g_iconst dX10_lotToDeliver_43 ?_
        refine g_goto (tgt := 48) dX10_lotToDeliver_44 (by decide) ?_
        refine g_istore dX10_lotToDeliver_48 (by decide) ?_
        refine g_iload dX10_lotToDeliver_50 rfl ?_
        refine g_if_eq (tgt := 83) dX10_lotToDeliver_52 (by decide) (by omega) (fun c_52 => ?_) (fun c_52 => ?_)
        · refine g_iinc dX10_lotToDeliver_83 rfl (by decide) ?_
          refine g_goto (tgt := 6) dX10_lotToDeliver_86 (by decide) ?_
          first
          | (rw [sLotL_take (by omega) (by simp [sMay, sBet]; omega)]; exact g_locs (by exact ⟨rfl, rfl, rfl, rfl, rfl, rfl, trivial⟩) (ih (m - 1) (i + 1) i (by omega) (by omega) (by omega) (by omega)))
          | (rw [sLotL_skip (by omega) (by simp [sMay, sBet]; omega)]; exact g_locs (by exact ⟨rfl, rfl, rfl, rfl, rfl, rfl, trivial⟩) (ih (m - 1) (i + 1) e (by omega) (by omega) (by omega) (by omega)))
        · refine g_aload_n dX10_lotToDeliver_55 rfl rfl ?_
          refine g_iload dX10_lotToDeliver_56 rfl ?_
          refine g_callVp (i := 8) rfl (gK0 (by assumption)) (g_at8 (by assumption)) (k_S_hasLot Y hsh hag hL e (by omega)) u_X10_hasLot mw_650 dX10_lotToDeliver_58 rfl rfl ⟨Nat.le_of_ble_eq_true rfl, Nat.le_of_ble_eq_true rfl⟩ ⟨Nat.le_of_ble_eq_true rfl, Nat.le_of_ble_eq_true rfl⟩ (Nat.le_of_ble_eq_true rfl) ?_
          have b61 := ifd (0 ≤ e ∧ e < W 1614)
          generalize (if 0 ≤ e ∧ e < W 1614 then (1 : Int) else 0) = z61 at b61 ⊢
          refine g_if_eq (tgt := 79) dX10_lotToDeliver_61 (by decide) (by omega) (fun c_61 => ?_) (fun c_61 => ?_)
          · refine g_iload dX10_lotToDeliver_79 rfl ?_
            refine g_istore dX10_lotToDeliver_81 (by decide) ?_
            refine g_iinc dX10_lotToDeliver_83 rfl (by decide) ?_
            refine g_goto (tgt := 6) dX10_lotToDeliver_86 (by decide) ?_
            first
            | (rw [sLotL_take (by omega) (by simp [sMay, sBet]; omega)]; exact g_locs (by exact ⟨rfl, rfl, rfl, rfl, rfl, rfl, trivial⟩) (ih (m - 1) (i + 1) i (by omega) (by omega) (by omega) (by omega)))
            | (rw [sLotL_skip (by omega) (by simp [sMay, sBet]; omega)]; exact g_locs (by exact ⟨rfl, rfl, rfl, rfl, rfl, rfl, trivial⟩) (ih (m - 1) (i + 1) e (by omega) (by omega) (by omega) (by omega)))
          · refine g_aload dX10_lotToDeliver_64 rfl ?_
            refine g_aload_n dX10_lotToDeliver_66 rfl rfl ?_
            refine g_get_State_lots dX10_lotToDeliver_67 mw_209 (by assumption) (by assumption) ?_
            refine g_iload dX10_lotToDeliver_70 rfl ?_
            have he0 : 0 ≤ e ∧ e < W 1614 := by omega
            obtain ⟨zea, zeb, zec⟩ := zl5 e (by omega) (by omega)
            have nle := nL e (by omega) (by omega)
            have nloe := h0.lot (l := e) (by omega) (by omega)
            refine g_aald_Lot dX10_lotToDeliver_72 (by assumption) (by omega) (by omega) (by assumption) ?_
            refine g_callSp (k_S_isBetter Y zlK zeb (by rw [ar_84 hag (i := i) (by omega) (by omega) (by omega)]; omega) (by rw [ar_84 hag (i := e) (by omega) (by omega) (by omega)]; omega) (by rw [ar_81 hag (i := i) (by omega) (by omega) (by omega)]; omega) (by rw [ar_81 hag (i := e) (by omega) (by omega) (by omega)]; omega)) u_X10_isBetter mw_688 rfl dX10_lotToDeliver_73 rfl rfl ⟨Nat.le_of_ble_eq_true rfl, Nat.le_of_ble_eq_true rfl⟩ ⟨Nat.le_of_ble_eq_true rfl, Nat.le_of_ble_eq_true rfl⟩ (Nat.le_of_ble_eq_true rfl) ?_
            rw [ar_84 hag (i := i) (by omega) (by omega) (by omega), ar_81 hag (i := i) (by omega) (by omega) (by omega), ar_84 hag (i := e) (by omega) (by omega) (by omega), ar_81 hag (i := e) (by omega) (by omega) (by omega)]
            have b73 := ifd (W (1050 + i) < W (1050 + e) ∨ (W (1050 + i) = W (1050 + e) ∧ W (570 + i) < W (570 + e)))
            generalize (if W (1050 + i) < W (1050 + e) ∨ (W (1050 + i) = W (1050 + e) ∧ W (570 + i) < W (570 + e)) then (1 : Int) else 0) = z73 at b73 ⊢
            refine g_if_eq (tgt := 83) dX10_lotToDeliver_76 (by decide) (by omega) (fun c_76 => ?_) (fun c_76 => ?_)
            · refine g_iinc dX10_lotToDeliver_83 rfl (by decide) ?_
              refine g_goto (tgt := 6) dX10_lotToDeliver_86 (by decide) ?_
              first
              | (rw [sLotL_take (by omega) (by simp [sMay, sBet]; omega)]; exact g_locs (by exact ⟨rfl, rfl, rfl, rfl, rfl, rfl, trivial⟩) (ih (m - 1) (i + 1) i (by omega) (by omega) (by omega) (by omega)))
              | (rw [sLotL_skip (by omega) (by simp [sMay, sBet]; omega)]; exact g_locs (by exact ⟨rfl, rfl, rfl, rfl, rfl, rfl, trivial⟩) (ih (m - 1) (i + 1) e (by omega) (by omega) (by omega) (by omega)))
            · refine g_iload dX10_lotToDeliver_79 rfl ?_
              refine g_istore dX10_lotToDeliver_81 (by decide) ?_
              refine g_iinc dX10_lotToDeliver_83 rfl (by decide) ?_
              refine g_goto (tgt := 6) dX10_lotToDeliver_86 (by decide) ?_
              first
              | (rw [sLotL_take (by omega) (by simp [sMay, sBet]; omega)]; exact g_locs (by exact ⟨rfl, rfl, rfl, rfl, rfl, rfl, trivial⟩) (ih (m - 1) (i + 1) i (by omega) (by omega) (by omega) (by omega)))
              | (rw [sLotL_skip (by omega) (by simp [sMay, sBet]; omega)]; exact g_locs (by exact ⟨rfl, rfl, rfl, rfl, rfl, rfl, trivial⟩) (ih (m - 1) (i + 1) e (by omega) (by omega) (by omega) (by omega)))
set_option maxHeartbeats 1000000 in
set_option maxRecDepth 100000 in
theorem k_S_lotToDeliver (Y : gEnv) {K N : Nat → Nat} {I : Nat → Nat → Int} {A : Nat → Int → Int} {R : Nat → Nat → Option Nat} {Q : Nat → Int → Option Nat} {s : Nat} {G : Nat → Nat × Int} {W : Int → Int} (hsh : cSh K N R Q G s) (hag : ag (cV I R Q s) W) (h0 : iN W) (g r b : Int) (hg : (-2147483648 ≤ g ∧ g ≤ 2147483647)) (hr : (-2147483648 ≤ r ∧ r ≤ 2147483647)) (hb : (-2147483648 ≤ b ∧ b ≤ 2147483647)) : gC Y yX10_lotToDeliver cX10_lotToDeliver 8 (some .int) ({ frames := 1, cells := 0, slots := 0, locals := 22 } : Room) [.ref s, vi g, vi r, vi b] K N I A R Q (g_pu (some (vi (sLotFor W g r b))) K N I A R Q) gno := by
  refine gC_of (by decide) (Nat.le_of_ble_eq_true rfl) (fun X => ?_)
  have h14 := h0.2.2.2.2.1.1
  refine g_iconst dX10_lotToDeliver_0 ?_
  refine g_istore dX10_lotToDeliver_1 (by decide) ?_
  refine g_iconst dX10_lotToDeliver_3 ?_
  refine g_istore dX10_lotToDeliver_4 (by decide) ?_
  exact g_locs (by exact ⟨rfl, rfl, rfl, rfl, rfl, rfl, trivial⟩) (lp_S_lotToDeliver hsh hag h0 g r b hg hr hb _ _ 0 (-1) (Nat.lt_succ_self _) (by omega) (by omega) (by omega))
set_option maxHeartbeats 1000000 in
set_option maxRecDepth 100000 in
theorem k_S_fFire (Y : gEnv) {K N : Nat → Nat} {I : Nat → Nat → Int} {A : Nat → Int → Int} {R : Nat → Nat → Option Nat} {Q : Nat → Int → Option Nat} {s : Nat} {G : Nat → Nat × Int} {W : Int → Int} (hsh : cSh K N R Q G s) (hag : ag (cV I R Q s) W) (h0 : iN W) (a b c d : Int) (ha : (-2147483648 ≤ a ∧ a ≤ 2147483647)) (hb : (-2147483648 ≤ b ∧ b ≤ 2147483647)) (hc : (-2147483648 ≤ c ∧ c ≤ 2147483647)) (hd : (-2147483648 ≤ d ∧ d ≤ 2147483647)) : gC Y yX10_faultOfFiring cX10_faultOfFiring 5 (some (.object "TileFactory$Fault")) ({ frames := 2, cells := 0, slots := 0, locals := 42 } : Room) [.ref s, vi a, vi b, vi c, vi d] K N I A R Q (g_pu (some (.ref (Y.2.2.1 (20 + (sFireT W a b c d).toNat)))) K N I A R Q) gno := by
  refine gC_of (by decide) (Nat.le_of_ble_eq_true rfl) (fun X => ?_)
  obtain ⟨hKs, hGs, ⟨zg1, zg2, zg3, zg4, zg5⟩, ⟨zq1, zq2, zq3, zq4, zq5⟩, ⟨zp1, zp2, zp3, zp4, zp5⟩, ⟨zl1, zl2, zl3, zl4, zl5⟩, ⟨zd1, zd2, zd3, zd4, zd5⟩⟩ := id hsh
  have c88 : I 166 s = W 88 := ar_166 hag
  have c89 : I 167 s = W 89 := ar_167 hag
  have c10 : I 171 s = W 1610 := ar_171 hag
  have c11 : I 172 s = W 1611 := ar_172 hag
  have c12 : I 173 s = W 1612 := ar_173 hag
  have c13 : I 168 s = W 1613 := ar_168 hag
  have c14 : I 169 s = W 1614 := ar_169 hag
  have c15 : I 170 s = W 1615 := ar_170 hag
  have hP := h0.2.2.2.1
  have hL := h0.2.2.2.2.1
  have n15 : 0 ≤ W 1615 ∧ W 1615 ≤ 40 := ⟨h0.2.2.2.2.2.1.1, h0.2.2.2.2.2.1.2.1⟩
  have nD := h0.2.2.2.2.2.1.2.2
  have nG := h0.1
  have nO := h0.2.1
  have nB := h0.2.2.1
  obtain ⟨s1, s2, s3, s4, s5, s6, s7, s8, s9, s10⟩ := h0.2.2.2.2.2.2.1
  have hsu := h0.sums
  have n13 : 0 ≤ W 1613 ∧ W 1613 ≤ 80 := ⟨hP.1, hP.2.1⟩
  have nP := hP.2.2.1
  have n14 : 0 ≤ W 1614 ∧ W 1614 ≤ 160 := ⟨hL.1, hL.2.1⟩
  have nL := hL.2.2.1
  refine g_iload_n dX10_faultOfFiring_0 rfl rfl ?_
  refine g_callSNp (k_isKiln Y _ (by omega)) u_X12_isKiln mw_545 dX10_faultOfFiring_1 rfl rfl ⟨Nat.le_of_ble_eq_true rfl, Nat.le_of_ble_eq_true rfl⟩ ⟨Nat.le_of_ble_eq_true rfl, Nat.le_of_ble_eq_true rfl⟩ (Nat.le_of_ble_eq_true rfl) ?_
  have b1 := ifd (0 ≤ a ∧ a ≤ 2)
  generalize (if 0 ≤ a ∧ a ≤ 2 then (1 : Int) else 0) = z1 at b1 ⊢
  refine g_if_eq (tgt := 14) dX10_faultOfFiring_4 (by decide) (by omega) (fun c_4 => ?_) (fun c_4 => ?_)
  · refine g_fault (i := 1) dX10_faultOfFiring_14 mw_547 (by decide) rfl ?_
    exact g_aret dX10_faultOfFiring_17 rfl (Or.inl ⟨_, rfl⟩) (by decide) (by decide) (g_pu_a (by rw [show sFireT W a b c d = 1 by (simp only [sFireT]; repeat (first | omega | split))]; rfl) _ _ _ _ _ _)
  · refine g_iload_n dX10_faultOfFiring_7 rfl rfl ?_
    refine g_callSNp (k_isGlaze Y _ (by omega)) u_X12_isGlaze mw_546 dX10_faultOfFiring_8 rfl rfl ⟨Nat.le_of_ble_eq_true rfl, Nat.le_of_ble_eq_true rfl⟩ ⟨Nat.le_of_ble_eq_true rfl, Nat.le_of_ble_eq_true rfl⟩ (Nat.le_of_ble_eq_true rfl) ?_
    have b8 := ifd (0 ≤ b ∧ b ≤ 3)
    generalize (if 0 ≤ b ∧ b ≤ 3 then (1 : Int) else 0) = z8 at b8 ⊢
    refine g_if_ne (tgt := 18) dX10_faultOfFiring_11 (by decide) (by omega) (fun c_11 => ?_) (fun c_11 => ?_)
    · refine g_iload_n dX10_faultOfFiring_18 rfl rfl ?_
      refine g_callSNp (k_isPeak Y _ (by omega)) u_X12_isPeak mw_549 dX10_faultOfFiring_19 rfl rfl ⟨Nat.le_of_ble_eq_true rfl, Nat.le_of_ble_eq_true rfl⟩ ⟨Nat.le_of_ble_eq_true rfl, Nat.le_of_ble_eq_true rfl⟩ (Nat.le_of_ble_eq_true rfl) ?_
      have b19 := ifd (800 ≤ c ∧ c ≤ 1200)
      generalize (if 800 ≤ c ∧ c ≤ 1200 then (1 : Int) else 0) = z19 at b19 ⊢
      refine g_if_eq (tgt := 36) dX10_faultOfFiring_22 (by decide) (by omega) (fun c_22 => ?_) (fun c_22 => ?_)
      · refine g_fault (i := 2) dX10_faultOfFiring_36 mw_553 (by decide) rfl ?_
        exact g_aret dX10_faultOfFiring_39 rfl (Or.inl ⟨_, rfl⟩) (by decide) (by decide) (g_pu_a (by rw [show sFireT W a b c d = 2 by (simp only [sFireT]; repeat (first | omega | split))]; rfl) _ _ _ _ _ _)
      · refine g_iload dX10_faultOfFiring_25 rfl ?_
        refine g_iconst dX10_faultOfFiring_27 ?_
        refine g_bipush dX10_faultOfFiring_28 (by decide) ?_
        refine g_callSNp (k_isWithin Y _ _ _ (by omega) (by omega) (by omega)) u_X12_isWithin mw_552 dX10_faultOfFiring_30 rfl rfl ⟨Nat.le_of_ble_eq_true rfl, Nat.le_of_ble_eq_true rfl⟩ ⟨Nat.le_of_ble_eq_true rfl, Nat.le_of_ble_eq_true rfl⟩ (Nat.le_of_ble_eq_true rfl) ?_
        have b30 := ifd (1 ≤ d ∧ d ≤ 100)
        generalize (if 1 ≤ d ∧ d ≤ 100 then (1 : Int) else 0) = z30 at b30 ⊢
        refine g_if_ne (tgt := 40) dX10_faultOfFiring_33 (by decide) (by omega) (fun c_33 => ?_) (fun c_33 => ?_)
        · refine g_aload_n dX10_faultOfFiring_40 rfl rfl ?_
          refine g_get_State_firings dX10_faultOfFiring_41 mw_222 (by assumption) ?_
          refine g_sipush dX10_faultOfFiring_44 (by decide) ?_
          refine g_icmp_ge (tgt := 56) dX10_faultOfFiring_47 (by decide) (by omega) (by omega) (fun c_47 => ?_) (fun c_47 => ?_)
          · refine g_fault (i := 3) dX10_faultOfFiring_56 mw_557 (by decide) rfl ?_
            exact g_aret dX10_faultOfFiring_59 rfl (Or.inl ⟨_, rfl⟩) (by decide) (by decide) (by first | exact (g_pu_a (by rw [show sFireT W a b c d = 0 by (simp only [sFireT]; repeat (first | omega | split))]; rfl) _ _ _ _ _ _) | exact (g_pu_a (by rw [show sFireT W a b c d = 3 by (simp only [sFireT]; repeat (first | omega | split))]; rfl) _ _ _ _ _ _))
          · refine g_fault (i := 0) dX10_faultOfFiring_50 mw_555 (by decide) rfl ?_
            refine g_goto (tgt := 59) dX10_faultOfFiring_53 (by decide) ?_
            exact g_aret dX10_faultOfFiring_59 rfl (Or.inl ⟨_, rfl⟩) (by decide) (by decide) (by first | exact (g_pu_a (by rw [show sFireT W a b c d = 0 by (simp only [sFireT]; repeat (first | omega | split))]; rfl) _ _ _ _ _ _) | exact (g_pu_a (by rw [show sFireT W a b c d = 3 by (simp only [sFireT]; repeat (first | omega | split))]; rfl) _ _ _ _ _ _))
        · refine g_fault (i := 2) dX10_faultOfFiring_36 mw_553 (by decide) rfl ?_
          exact g_aret dX10_faultOfFiring_39 rfl (Or.inl ⟨_, rfl⟩) (by decide) (by decide) (g_pu_a (by rw [show sFireT W a b c d = 2 by (simp only [sFireT]; repeat (first | omega | split))]; rfl) _ _ _ _ _ _)
    · refine g_fault (i := 1) dX10_faultOfFiring_14 mw_547 (by decide) rfl ?_
      exact g_aret dX10_faultOfFiring_17 rfl (Or.inl ⟨_, rfl⟩) (by decide) (by decide) (g_pu_a (by rw [show sFireT W a b c d = 1 by (simp only [sFireT]; repeat (first | omega | split))]; rfl) _ _ _ _ _ _)
def cGradeF (c : Int) : Int := if c = 0 then 0 else c + 1
set_option maxHeartbeats 1000000 in
set_option maxRecDepth 100000 in
theorem k_S_fGrade (Y : gEnv) {K N : Nat → Nat} {I : Nat → Nat → Int} {A : Nat → Int → Int} {R : Nat → Nat → Option Nat} {Q : Nat → Int → Option Nat} {s : Nat} {G : Nat → Nat × Int} {W : Int → Int} (hsh : cSh K N R Q G s) (hag : ag (cV I R Q s) W) (hP : iPi W) (a : Int) (ha : (-2147483648 ≤ a ∧ a ≤ 2147483647)) : gC Y yX10_faultOfGrading cX10_faultOfGrading 2 (some (.object "TileFactory$Fault")) ({ frames := 1, cells := 0, slots := 0, locals := 22 } : Room) [.ref s, vi a] K N I A R Q (g_pu (some (.ref (Y.2.2.1 (20 + (cGradeF (sGradeT W a)).toNat)))) K N I A R Q) gno := by
  refine gC_of (by decide) (Nat.le_of_ble_eq_true rfl) (fun X => ?_)
  obtain ⟨hKs, hGs, ⟨zg1, zg2, zg3, zg4, zg5⟩, ⟨zq1, zq2, zq3, zq4, zq5⟩, ⟨zp1, zp2, zp3, zp4, zp5⟩, ⟨zl1, zl2, zl3, zl4, zl5⟩, ⟨zd1, zd2, zd3, zd4, zd5⟩⟩ := id hsh
  have c88 : I 166 s = W 88 := ar_166 hag
  have c89 : I 167 s = W 89 := ar_167 hag
  have c10 : I 171 s = W 1610 := ar_171 hag
  have c11 : I 172 s = W 1611 := ar_172 hag
  have c12 : I 173 s = W 1612 := ar_173 hag
  have c13 : I 168 s = W 1613 := ar_168 hag
  have c14 : I 169 s = W 1614 := ar_169 hag
  have c15 : I 170 s = W 1615 := ar_170 hag
  have n13 : 0 ≤ W 1613 ∧ W 1613 ≤ 80 := ⟨hP.1, hP.2.1⟩
  have nP := hP.2.2.1
  refine g_iload_n dX10_faultOfGrading_0 rfl rfl ?_
  refine g_iconst dX10_faultOfGrading_1 ?_
  refine g_bipush dX10_faultOfGrading_2 (by decide) ?_
  refine g_callSNp (k_isWithin Y _ _ _ (by omega) (by omega) (by omega)) u_X12_isWithin mw_552 dX10_faultOfGrading_4 rfl rfl ⟨Nat.le_of_ble_eq_true rfl, Nat.le_of_ble_eq_true rfl⟩ ⟨Nat.le_of_ble_eq_true rfl, Nat.le_of_ble_eq_true rfl⟩ (Nat.le_of_ble_eq_true rfl) ?_
  have b4 := ifd (1 ≤ a ∧ a ≤ 10)
  generalize (if 1 ≤ a ∧ a ≤ 10 then (1 : Int) else 0) = z4 at b4 ⊢
  refine g_if_ne (tgt := 14) dX10_faultOfGrading_7 (by decide) (by omega) (fun c_7 => ?_) (fun c_7 => ?_)
  · refine g_aload_n dX10_faultOfGrading_14 rfl rfl ?_
    refine g_get_State_pileCount dX10_faultOfGrading_15 mw_219 (by assumption) ?_
    refine g_if_le (tgt := 27) dX10_faultOfGrading_18 (by decide) (by omega) (fun c_18 => ?_) (fun c_18 => ?_)
    · refine g_fault (i := 3) dX10_faultOfGrading_27 mw_557 (by decide) rfl ?_
      exact g_aret dX10_faultOfGrading_30 rfl (Or.inl ⟨_, rfl⟩) (by decide) (by decide) (by first | exact (g_pu_a (by rw [show cGradeF (sGradeT W a) = 0 by (simp only [cGradeF, sGradeT]; repeat (first | omega | split))]; rfl) _ _ _ _ _ _) | exact (g_pu_a (by rw [show cGradeF (sGradeT W a) = 3 by (simp only [cGradeF, sGradeT]; repeat (first | omega | split))]; rfl) _ _ _ _ _ _))
    · refine g_fault (i := 0) dX10_faultOfGrading_21 mw_555 (by decide) rfl ?_
      refine g_goto (tgt := 30) dX10_faultOfGrading_24 (by decide) ?_
      exact g_aret dX10_faultOfGrading_30 rfl (Or.inl ⟨_, rfl⟩) (by decide) (by decide) (by first | exact (g_pu_a (by rw [show cGradeF (sGradeT W a) = 0 by (simp only [cGradeF, sGradeT]; repeat (first | omega | split))]; rfl) _ _ _ _ _ _) | exact (g_pu_a (by rw [show cGradeF (sGradeT W a) = 3 by (simp only [cGradeF, sGradeT]; repeat (first | omega | split))]; rfl) _ _ _ _ _ _))
  · refine g_fault (i := 2) dX10_faultOfGrading_10 mw_553 (by decide) rfl ?_
    exact g_aret dX10_faultOfGrading_13 rfl (Or.inl ⟨_, rfl⟩) (by decide) (by decide) (g_pu_a (by rw [show cGradeF (sGradeT W a) = 2 by (simp only [cGradeF, sGradeT]; repeat (first | omega | split))]; rfl) _ _ _ _ _ _)
set_option maxHeartbeats 1000000 in
set_option maxRecDepth 100000 in
theorem k_S_fDeliver (Y : gEnv) {K N : Nat → Nat} {I : Nat → Nat → Int} {A : Nat → Int → Int} {R : Nat → Nat → Option Nat} {Q : Nat → Int → Option Nat} {s : Nat} {G : Nat → Nat × Int} {W : Int → Int} (hsh : cSh K N R Q G s) (hag : ag (cV I R Q s) W) (h0 : iN W) (a b c : Int) (ha : (-2147483648 ≤ a ∧ a ≤ 2147483647)) (hb : (-2147483648 ≤ b ∧ b ≤ 2147483647)) (hc : (-2147483648 ≤ c ∧ c ≤ 2147483647)) : gC Y yX10_faultOfDelivery cX10_faultOfDelivery 5 (some (.object "TileFactory$Fault")) ({ frames := 2, cells := 0, slots := 0, locals := 49 } : Room) [.ref s, vi a, vi b, vi c] K N I A R Q (g_pu (some (.ref (Y.2.2.1 (20 + (sDeliverT W a b c).toNat)))) K N I A R Q) gno := by
  refine gC_of (by decide) (Nat.le_of_ble_eq_true rfl) (fun X => ?_)
  obtain ⟨hKs, hGs, ⟨zg1, zg2, zg3, zg4, zg5⟩, ⟨zq1, zq2, zq3, zq4, zq5⟩, ⟨zp1, zp2, zp3, zp4, zp5⟩, ⟨zl1, zl2, zl3, zl4, zl5⟩, ⟨zd1, zd2, zd3, zd4, zd5⟩⟩ := id hsh
  have c88 : I 166 s = W 88 := ar_166 hag
  have c89 : I 167 s = W 89 := ar_167 hag
  have c10 : I 171 s = W 1610 := ar_171 hag
  have c11 : I 172 s = W 1611 := ar_172 hag
  have c12 : I 173 s = W 1612 := ar_173 hag
  have c13 : I 168 s = W 1613 := ar_168 hag
  have c14 : I 169 s = W 1614 := ar_169 hag
  have c15 : I 170 s = W 1615 := ar_170 hag
  have hP := h0.2.2.2.1
  have hL := h0.2.2.2.2.1
  have n15 : 0 ≤ W 1615 ∧ W 1615 ≤ 40 := ⟨h0.2.2.2.2.2.1.1, h0.2.2.2.2.2.1.2.1⟩
  have nD := h0.2.2.2.2.2.1.2.2
  have nG := h0.1
  have nO := h0.2.1
  have nB := h0.2.2.1
  obtain ⟨s1, s2, s3, s4, s5, s6, s7, s8, s9, s10⟩ := h0.2.2.2.2.2.2.1
  have hsu := h0.sums
  have n13 : 0 ≤ W 1613 ∧ W 1613 ≤ 80 := ⟨hP.1, hP.2.1⟩
  have nP := hP.2.2.1
  have n14 : 0 ≤ W 1614 ∧ W 1614 ≤ 160 := ⟨hL.1, hL.2.1⟩
  have nL := hL.2.2.1
  refine g_iload_n dX10_faultOfDelivery_0 rfl rfl ?_
  refine g_callSNp (k_isGlaze Y _ (by omega)) u_X12_isGlaze mw_546 dX10_faultOfDelivery_1 rfl rfl ⟨Nat.le_of_ble_eq_true rfl, Nat.le_of_ble_eq_true rfl⟩ ⟨Nat.le_of_ble_eq_true rfl, Nat.le_of_ble_eq_true rfl⟩ (Nat.le_of_ble_eq_true rfl) ?_
  have b1 := ifd (0 ≤ a ∧ a ≤ 3)
  generalize (if 0 ≤ a ∧ a ≤ 3 then (1 : Int) else 0) = z1 at b1 ⊢
  refine g_if_ne (tgt := 11) dX10_faultOfDelivery_4 (by decide) (by omega) (fun c_4 => ?_) (fun c_4 => ?_)
  · refine g_iload_n dX10_faultOfDelivery_11 rfl rfl ?_
    refine g_callSNp (k_isGrade Y _ (by omega)) u_X12_isGrade mw_677 dX10_faultOfDelivery_12 rfl rfl ⟨Nat.le_of_ble_eq_true rfl, Nat.le_of_ble_eq_true rfl⟩ ⟨Nat.le_of_ble_eq_true rfl, Nat.le_of_ble_eq_true rfl⟩ (Nat.le_of_ble_eq_true rfl) ?_
    have b12 := ifd (1 ≤ b ∧ b ≤ 2)
    generalize (if 1 ≤ b ∧ b ≤ 2 then (1 : Int) else 0) = z12 at b12 ⊢
    refine g_if_eq (tgt := 25) dX10_faultOfDelivery_15 (by decide) (by omega) (fun c_15 => ?_) (fun c_15 => ?_)
    · refine g_fault (i := 2) dX10_faultOfDelivery_25 mw_553 (by decide) rfl ?_
      exact g_aret dX10_faultOfDelivery_28 rfl (Or.inl ⟨_, rfl⟩) (by decide) (by decide) (g_pu_a (by rw [show sDeliverT W a b c = 2 by (simp only [sDeliverT]; repeat (first | omega | split))]; rfl) _ _ _ _ _ _)
    · refine g_iload_n dX10_faultOfDelivery_18 rfl rfl ?_
      refine g_callSNp (k_isBoxCount Y _ (by omega)) u_X12_isBoxCount mw_680 dX10_faultOfDelivery_19 rfl rfl ⟨Nat.le_of_ble_eq_true rfl, Nat.le_of_ble_eq_true rfl⟩ ⟨Nat.le_of_ble_eq_true rfl, Nat.le_of_ble_eq_true rfl⟩ (Nat.le_of_ble_eq_true rfl) ?_
      have b19 := ifd (1 ≤ c ∧ c ≤ 100000)
      generalize (if 1 ≤ c ∧ c ≤ 100000 then (1 : Int) else 0) = z19 at b19 ⊢
      refine g_if_ne (tgt := 29) dX10_faultOfDelivery_22 (by decide) (by omega) (fun c_22 => ?_) (fun c_22 => ?_)
      · refine g_aload_n dX10_faultOfDelivery_29 rfl rfl ?_
        refine g_get_State_deliveryCount dX10_faultOfDelivery_30 mw_221 (by assumption) ?_
        refine g_bipush dX10_faultOfDelivery_33 (by decide) ?_
        refine g_icmp_ge (tgt := 42) dX10_faultOfDelivery_35 (by decide) (by omega) (by omega) (fun c_35 => ?_) (fun c_35 => ?_)
        · refine g_iconst dX10_faultOfDelivery_42 ?_
          refine g_istore dX10_faultOfDelivery_43 (by decide) ?_
          refine g_iload dX10_faultOfDelivery_45 rfl ?_
          refine g_if_eq (tgt := 67) dX10_faultOfDelivery_47 (by decide) (by omega) (fun c_47 => ?_) (fun c_47 => ?_)
          · refine g_fault (i := 3) dX10_faultOfDelivery_67 mw_557 (by decide) rfl ?_
            exact g_aret dX10_faultOfDelivery_70 rfl (Or.inl ⟨_, rfl⟩) (by decide) (by decide) (by first | exact (g_pu_a (by rw [show sDeliverT W a b c = 0 by (simp only [sDeliverT]; repeat (first | omega | split))]; rfl) _ _ _ _ _ _) | exact (g_pu_a (by rw [show sDeliverT W a b c = 3 by (simp only [sDeliverT]; repeat (first | omega | split))]; rfl) _ _ _ _ _ _))
          · have hlf := sLotFor_range hL.1 a b c
            refine g_aload_n dX10_faultOfDelivery_50 rfl rfl ?_
            refine g_iload_n dX10_faultOfDelivery_51 rfl rfl ?_
            refine g_iload_n dX10_faultOfDelivery_52 rfl rfl ?_
            refine g_iload_n dX10_faultOfDelivery_53 rfl rfl ?_
            refine g_callVp (i := 8) rfl (gK0 (by assumption)) (g_at8 (by assumption)) (k_S_lotToDeliver Y hsh hag h0 a b c ha hb hc) u_X10_lotToDeliver mw_684 dX10_faultOfDelivery_54 rfl rfl ⟨Nat.le_of_ble_eq_true rfl, Nat.le_of_ble_eq_true rfl⟩ ⟨Nat.le_of_ble_eq_true rfl, Nat.le_of_ble_eq_true rfl⟩ (Nat.le_of_ble_eq_true rfl) ?_
            refine g_iconst dX10_faultOfDelivery_57 ?_
            refine g_icmp_eq (tgt := 67) dX10_faultOfDelivery_58 (by decide) (by omega) (by omega) (fun c_58 => ?_) (fun c_58 => ?_)
            · refine g_fault (i := 3) dX10_faultOfDelivery_67 mw_557 (by decide) rfl ?_
              exact g_aret dX10_faultOfDelivery_70 rfl (Or.inl ⟨_, rfl⟩) (by decide) (by decide) (by first | exact (g_pu_a (by rw [show sDeliverT W a b c = 0 by (simp only [sDeliverT]; repeat (first | omega | split))]; rfl) _ _ _ _ _ _) | exact (g_pu_a (by rw [show sDeliverT W a b c = 3 by (simp only [sDeliverT]; repeat (first | omega | split))]; rfl) _ _ _ _ _ _))
            · refine g_fault (i := 0) dX10_faultOfDelivery_61 mw_555 (by decide) rfl ?_
              refine g_goto (tgt := 70) dX10_faultOfDelivery_64 (by decide) ?_
              exact g_aret dX10_faultOfDelivery_70 rfl (Or.inl ⟨_, rfl⟩) (by decide) (by decide) (by first | exact (g_pu_a (by rw [show sDeliverT W a b c = 0 by (simp only [sDeliverT]; repeat (first | omega | split))]; rfl) _ _ _ _ _ _) | exact (g_pu_a (by rw [show sDeliverT W a b c = 3 by (simp only [sDeliverT]; repeat (first | omega | split))]; rfl) _ _ _ _ _ _))
        · refine g_iconst dX10_faultOfDelivery_38 ?_
          refine g_goto (tgt := 43) dX10_faultOfDelivery_39 (by decide) ?_
          refine g_istore dX10_faultOfDelivery_43 (by decide) ?_
          refine g_iload dX10_faultOfDelivery_45 rfl ?_
          refine g_if_eq (tgt := 67) dX10_faultOfDelivery_47 (by decide) (by omega) (fun c_47 => ?_) (fun c_47 => ?_)
          · refine g_fault (i := 3) dX10_faultOfDelivery_67 mw_557 (by decide) rfl ?_
            exact g_aret dX10_faultOfDelivery_70 rfl (Or.inl ⟨_, rfl⟩) (by decide) (by decide) (by first | exact (g_pu_a (by rw [show sDeliverT W a b c = 0 by (simp only [sDeliverT]; repeat (first | omega | split))]; rfl) _ _ _ _ _ _) | exact (g_pu_a (by rw [show sDeliverT W a b c = 3 by (simp only [sDeliverT]; repeat (first | omega | split))]; rfl) _ _ _ _ _ _))
          · have hlf := sLotFor_range hL.1 a b c
            refine g_aload_n dX10_faultOfDelivery_50 rfl rfl ?_
            refine g_iload_n dX10_faultOfDelivery_51 rfl rfl ?_
            refine g_iload_n dX10_faultOfDelivery_52 rfl rfl ?_
            refine g_iload_n dX10_faultOfDelivery_53 rfl rfl ?_
            refine g_callVp (i := 8) rfl (gK0 (by assumption)) (g_at8 (by assumption)) (k_S_lotToDeliver Y hsh hag h0 a b c ha hb hc) u_X10_lotToDeliver mw_684 dX10_faultOfDelivery_54 rfl rfl ⟨Nat.le_of_ble_eq_true rfl, Nat.le_of_ble_eq_true rfl⟩ ⟨Nat.le_of_ble_eq_true rfl, Nat.le_of_ble_eq_true rfl⟩ (Nat.le_of_ble_eq_true rfl) ?_
            refine g_iconst dX10_faultOfDelivery_57 ?_
            refine g_icmp_eq (tgt := 67) dX10_faultOfDelivery_58 (by decide) (by omega) (by omega) (fun c_58 => ?_) (fun c_58 => ?_)
            · refine g_fault (i := 3) dX10_faultOfDelivery_67 mw_557 (by decide) rfl ?_
              exact g_aret dX10_faultOfDelivery_70 rfl (Or.inl ⟨_, rfl⟩) (by decide) (by decide) (by first | exact (g_pu_a (by rw [show sDeliverT W a b c = 0 by (simp only [sDeliverT]; repeat (first | omega | split))]; rfl) _ _ _ _ _ _) | exact (g_pu_a (by rw [show sDeliverT W a b c = 3 by (simp only [sDeliverT]; repeat (first | omega | split))]; rfl) _ _ _ _ _ _))
            · refine g_fault (i := 0) dX10_faultOfDelivery_61 mw_555 (by decide) rfl ?_
              refine g_goto (tgt := 70) dX10_faultOfDelivery_64 (by decide) ?_
              exact g_aret dX10_faultOfDelivery_70 rfl (Or.inl ⟨_, rfl⟩) (by decide) (by decide) (by first | exact (g_pu_a (by rw [show sDeliverT W a b c = 0 by (simp only [sDeliverT]; repeat (first | omega | split))]; rfl) _ _ _ _ _ _) | exact (g_pu_a (by rw [show sDeliverT W a b c = 3 by (simp only [sDeliverT]; repeat (first | omega | split))]; rfl) _ _ _ _ _ _))
      · refine g_fault (i := 2) dX10_faultOfDelivery_25 mw_553 (by decide) rfl ?_
        exact g_aret dX10_faultOfDelivery_28 rfl (Or.inl ⟨_, rfl⟩) (by decide) (by decide) (g_pu_a (by rw [show sDeliverT W a b c = 2 by (simp only [sDeliverT]; repeat (first | omega | split))]; rfl) _ _ _ _ _ _)
  · refine g_fault (i := 1) dX10_faultOfDelivery_7 mw_547 (by decide) rfl ?_
    exact g_aret dX10_faultOfDelivery_10 rfl (Or.inl ⟨_, rfl⟩) (by decide) (by decide) (g_pu_a (by rw [show sDeliverT W a b c = 1 by (simp only [sDeliverT]; repeat (first | omega | split))]; rfl) _ _ _ _ _ _)
set_option maxHeartbeats 1000000 in
set_option maxRecDepth 100000 in
theorem k_S_fDrop (Y : gEnv) {K N : Nat → Nat} {I : Nat → Nat → Int} {A : Nat → Int → Int} {R : Nat → Nat → Option Nat} {Q : Nat → Int → Option Nat} {s : Nat} {G : Nat → Nat × Int} {W : Int → Int} (hsh : cSh K N R Q G s) (hag : ag (cV I R Q s) W) (h0 : iN W) (a b c d : Int) (ha : (-2147483648 ≤ a ∧ a ≤ 2147483647)) (hb : (-2147483648 ≤ b ∧ b ≤ 2147483647)) (hc : (-2147483648 ≤ c ∧ c ≤ 2147483647)) (hd : (-2147483648 ≤ d ∧ d ≤ 2147483647)) : gC Y yX10_faultOfDropping cX10_faultOfDropping 6 (some (.object "TileFactory$Fault")) ({ frames := 2, cells := 0, slots := 0, locals := 46 } : Room) [.ref s, vi a, vi b, vi c, vi d] K N I A R Q (g_pu (some (.ref (Y.2.2.1 (20 + (sDropT W a b c d).toNat)))) K N I A R Q) gno := by
  refine gC_of (by decide) (Nat.le_of_ble_eq_true rfl) (fun X => ?_)
  obtain ⟨hKs, hGs, ⟨zg1, zg2, zg3, zg4, zg5⟩, ⟨zq1, zq2, zq3, zq4, zq5⟩, ⟨zp1, zp2, zp3, zp4, zp5⟩, ⟨zl1, zl2, zl3, zl4, zl5⟩, ⟨zd1, zd2, zd3, zd4, zd5⟩⟩ := id hsh
  have c88 : I 166 s = W 88 := ar_166 hag
  have c89 : I 167 s = W 89 := ar_167 hag
  have c10 : I 171 s = W 1610 := ar_171 hag
  have c11 : I 172 s = W 1611 := ar_172 hag
  have c12 : I 173 s = W 1612 := ar_173 hag
  have c13 : I 168 s = W 1613 := ar_168 hag
  have c14 : I 169 s = W 1614 := ar_169 hag
  have c15 : I 170 s = W 1615 := ar_170 hag
  have hP := h0.2.2.2.1
  have hL := h0.2.2.2.2.1
  have n15 : 0 ≤ W 1615 ∧ W 1615 ≤ 40 := ⟨h0.2.2.2.2.2.1.1, h0.2.2.2.2.2.1.2.1⟩
  have nD := h0.2.2.2.2.2.1.2.2
  have nG := h0.1
  have nO := h0.2.1
  have nB := h0.2.2.1
  obtain ⟨s1, s2, s3, s4, s5, s6, s7, s8, s9, s10⟩ := h0.2.2.2.2.2.2.1
  have hsu := h0.sums
  have n13 : 0 ≤ W 1613 ∧ W 1613 ≤ 80 := ⟨hP.1, hP.2.1⟩
  have nP := hP.2.2.1
  have n14 : 0 ≤ W 1614 ∧ W 1614 ≤ 160 := ⟨hL.1, hL.2.1⟩
  have nL := hL.2.2.1
  refine g_aload_n dX10_faultOfDropping_0 rfl rfl ?_
  refine g_iload_n dX10_faultOfDropping_1 rfl rfl ?_
  refine g_iload_n dX10_faultOfDropping_2 rfl rfl ?_
  refine g_iload_n dX10_faultOfDropping_3 rfl rfl ?_
  refine g_callVp (i := 8) rfl (gK0 (by assumption)) (g_at8 (by assumption)) (k_S_indexOfLot Y hsh hag hL a b c ha hb hc) u_X10_indexOfLot mw_638 dX10_faultOfDropping_4 rfl rfl ⟨Nat.le_of_ble_eq_true rfl, Nat.le_of_ble_eq_true rfl⟩ ⟨Nat.le_of_ble_eq_true rfl, Nat.le_of_ble_eq_true rfl⟩ (Nat.le_of_ble_eq_true rfl) ?_
  have hfr := sFind_range hL.1 a b c
  refine g_istore dX10_faultOfDropping_7 (by decide) ?_
  refine g_aload_n dX10_faultOfDropping_9 rfl rfl ?_
  refine g_iload dX10_faultOfDropping_10 rfl ?_
  refine g_callVp (i := 8) rfl (gK0 (by assumption)) (g_at8 (by assumption)) (k_S_hasLot Y hsh hag hL _ (by omega)) u_X10_hasLot mw_650 dX10_faultOfDropping_12 rfl rfl ⟨Nat.le_of_ble_eq_true rfl, Nat.le_of_ble_eq_true rfl⟩ ⟨Nat.le_of_ble_eq_true rfl, Nat.le_of_ble_eq_true rfl⟩ (Nat.le_of_ble_eq_true rfl) ?_
  have b12 := ifd (0 ≤ sFind W a b c ∧ sFind W a b c < W 1614)
  generalize (if 0 ≤ sFind W a b c ∧ sFind W a b c < W 1614 then (1 : Int) else 0) = z12 at b12 ⊢
  refine g_if_ne (tgt := 22) dX10_faultOfDropping_15 (by decide) (by omega) (fun c_15 => ?_) (fun c_15 => ?_)
  · refine g_iload dX10_faultOfDropping_22 rfl ?_
    refine g_iconst dX10_faultOfDropping_24 ?_
    refine g_aload_n dX10_faultOfDropping_25 rfl rfl ?_
    refine g_get_State_boxSize dX10_faultOfDropping_26 mw_217 (by assumption) ?_
    refine g_callSNp (k_isWithin Y _ _ _ (by omega) (by omega) (by omega)) u_X12_isWithin mw_552 dX10_faultOfDropping_29 rfl rfl ⟨Nat.le_of_ble_eq_true rfl, Nat.le_of_ble_eq_true rfl⟩ ⟨Nat.le_of_ble_eq_true rfl, Nat.le_of_ble_eq_true rfl⟩ (Nat.le_of_ble_eq_true rfl) ?_
    rw [c89]
    have b29 := ifd (0 ≤ d ∧ d ≤ W 89)
    generalize (if 0 ≤ d ∧ d ≤ W 89 then (1 : Int) else 0) = z29 at b29 ⊢
    refine g_if_ne (tgt := 39) dX10_faultOfDropping_32 (by decide) (by omega) (fun c_32 => ?_) (fun c_32 => ?_)
    · refine g_aload_n dX10_faultOfDropping_39 rfl rfl ?_
      refine g_get_State_lots dX10_faultOfDropping_40 mw_209 (by assumption) (by assumption) ?_
      refine g_iload dX10_faultOfDropping_43 rfl ?_
      obtain ⟨zla, zlb, zlc⟩ := zl5 (sFind W a b c) (by omega) (by omega)
      refine g_aald_Lot dX10_faultOfDropping_45 (by assumption) (by omega) (by omega) (by assumption) ?_
      refine g_get_Lot_boxes dX10_faultOfDropping_46 mw_162 (by assumption) ?_
      rw [ar_84 hag (i := (sFind W a b c)) (by omega) (by omega) (by omega)]
      have nlo := h0.lot (l := sFind W a b c) (by omega) (by omega)
      refine g_if_le (tgt := 58) dX10_faultOfDropping_49 (by decide) (by omega) (fun c_49 => ?_) (fun c_49 => ?_)
      · refine g_fault (i := 3) dX10_faultOfDropping_58 mw_557 (by decide) rfl ?_
        exact g_aret dX10_faultOfDropping_61 rfl (Or.inl ⟨_, rfl⟩) (by decide) (by decide) (by first | exact (g_pu_a (by rw [show sDropT W a b c d = 0 by (simp only [sDropT]; repeat (first | omega | split))]; rfl) _ _ _ _ _ _) | exact (g_pu_a (by rw [show sDropT W a b c d = 3 by (simp only [sDropT]; repeat (first | omega | split))]; rfl) _ _ _ _ _ _))
      · refine g_fault (i := 0) dX10_faultOfDropping_52 mw_555 (by decide) rfl ?_
        refine g_goto (tgt := 61) dX10_faultOfDropping_55 (by decide) ?_
        exact g_aret dX10_faultOfDropping_61 rfl (Or.inl ⟨_, rfl⟩) (by decide) (by decide) (by first | exact (g_pu_a (by rw [show sDropT W a b c d = 0 by (simp only [sDropT]; repeat (first | omega | split))]; rfl) _ _ _ _ _ _) | exact (g_pu_a (by rw [show sDropT W a b c d = 3 by (simp only [sDropT]; repeat (first | omega | split))]; rfl) _ _ _ _ _ _))
    · refine g_fault (i := 2) dX10_faultOfDropping_35 mw_553 (by decide) rfl ?_
      exact g_aret dX10_faultOfDropping_38 rfl (Or.inl ⟨_, rfl⟩) (by decide) (by decide) (g_pu_a (by rw [show sDropT W a b c d = 2 by (simp only [sDropT]; repeat (first | omega | split))]; rfl) _ _ _ _ _ _)
  · refine g_fault (i := 1) dX10_faultOfDropping_18 mw_547 (by decide) rfl ?_
    exact g_aret dX10_faultOfDropping_21 rfl (Or.inl ⟨_, rfl⟩) (by decide) (by decide) (g_pu_a (by rw [show sDropT W a b c d = 1 by (simp only [sDropT]; repeat (first | omega | split))]; rfl) _ _ _ _ _ _)
def sTakeT (W : Int → Int) (a b c : Int) : Int := if ¬ (0 ≤ a ∧ a < W 1615) then 1 else if ¬ ((1 ≤ b ∧ b ≤ 100000) ∧ (0 ≤ c ∧ c ≤ b * W 89)) then 2 else if W (1450 + a) < b then 3 else 0
def sReplT (W : Int → Int) (a : Int) : Int := if ¬ (0 ≤ a ∧ a < W 1615) then 1 else if W (1490 + a) = 0 ∨ W (890 + W (1370 + a)) < W (1490 + a) then 2 else 0
def cReplF (c : Int) : Int := if c = 2 then 3 else c
set_option maxHeartbeats 1000000 in
set_option maxRecDepth 100000 in
theorem k_S_fTake (Y : gEnv) {K N : Nat → Nat} {I : Nat → Nat → Int} {A : Nat → Int → Int} {R : Nat → Nat → Option Nat} {Q : Nat → Int → Option Nat} {s : Nat} {G : Nat → Nat × Int} {W : Int → Int} (hsh : cSh K N R Q G s) (hag : ag (cV I R Q s) W) (h0 : iN W) (a b c : Int) (ha : (-2147483648 ≤ a ∧ a ≤ 2147483647)) (hb : (-2147483648 ≤ b ∧ b ≤ 2147483647)) (hc : (-2147483648 ≤ c ∧ c ≤ 2147483647)) : gC Y yX10_faultOfReturn cX10_faultOfReturn 4 (some (.object "TileFactory$Fault")) ({ frames := 2, cells := 0, slots := 0, locals := 42 } : Room) [.ref s, vi a, vi b, vi c] K N I A R Q (g_pu (some (.ref (Y.2.2.1 (20 + (sTakeT W a b c).toNat)))) K N I A R Q) gno := by
  refine gC_of (by decide) (Nat.le_of_ble_eq_true rfl) (fun X => ?_)
  obtain ⟨hKs, hGs, ⟨zg1, zg2, zg3, zg4, zg5⟩, ⟨zq1, zq2, zq3, zq4, zq5⟩, ⟨zp1, zp2, zp3, zp4, zp5⟩, ⟨zl1, zl2, zl3, zl4, zl5⟩, ⟨zd1, zd2, zd3, zd4, zd5⟩⟩ := id hsh
  have c88 : I 166 s = W 88 := ar_166 hag
  have c89 : I 167 s = W 89 := ar_167 hag
  have c10 : I 171 s = W 1610 := ar_171 hag
  have c11 : I 172 s = W 1611 := ar_172 hag
  have c12 : I 173 s = W 1612 := ar_173 hag
  have c13 : I 168 s = W 1613 := ar_168 hag
  have c14 : I 169 s = W 1614 := ar_169 hag
  have c15 : I 170 s = W 1615 := ar_170 hag
  have hP := h0.2.2.2.1
  have hL := h0.2.2.2.2.1
  have n15 : 0 ≤ W 1615 ∧ W 1615 ≤ 40 := ⟨h0.2.2.2.2.2.1.1, h0.2.2.2.2.2.1.2.1⟩
  have nD := h0.2.2.2.2.2.1.2.2
  have nG := h0.1
  have nO := h0.2.1
  have nB := h0.2.2.1
  obtain ⟨s1, s2, s3, s4, s5, s6, s7, s8, s9, s10⟩ := h0.2.2.2.2.2.2.1
  have hsu := h0.sums
  have n13 : 0 ≤ W 1613 ∧ W 1613 ≤ 80 := ⟨hP.1, hP.2.1⟩
  have nP := hP.2.2.1
  have n14 : 0 ≤ W 1614 ∧ W 1614 ≤ 160 := ⟨hL.1, hL.2.1⟩
  have nL := hL.2.2.1
  refine g_aload_n dX10_faultOfReturn_0 rfl rfl ?_
  refine g_iload_n dX10_faultOfReturn_1 rfl rfl ?_
  refine g_callVp (i := 8) rfl (gK0 (by assumption)) (g_at8 (by assumption)) (k_S_hasDelivery Y hsh hag n15 a ha) u_X10_hasDelivery mw_755 dX10_faultOfReturn_2 rfl rfl ⟨Nat.le_of_ble_eq_true rfl, Nat.le_of_ble_eq_true rfl⟩ ⟨Nat.le_of_ble_eq_true rfl, Nat.le_of_ble_eq_true rfl⟩ (Nat.le_of_ble_eq_true rfl) ?_
  have b2 := ifd (0 ≤ a ∧ a < W 1615)
  generalize (if 0 ≤ a ∧ a < W 1615 then (1 : Int) else 0) = z2 at b2 ⊢
  refine g_if_ne (tgt := 12) dX10_faultOfReturn_5 (by decide) (by omega) (fun c_5 => ?_) (fun c_5 => ?_)
  · refine g_iload_n dX10_faultOfReturn_12 rfl rfl ?_
    refine g_callSNp (k_isBoxCount Y _ (by omega)) u_X12_isBoxCount mw_680 dX10_faultOfReturn_13 rfl rfl ⟨Nat.le_of_ble_eq_true rfl, Nat.le_of_ble_eq_true rfl⟩ ⟨Nat.le_of_ble_eq_true rfl, Nat.le_of_ble_eq_true rfl⟩ (Nat.le_of_ble_eq_true rfl) ?_
    have b13 := ifd (1 ≤ b ∧ b ≤ 100000)
    generalize (if 1 ≤ b ∧ b ≤ 100000 then (1 : Int) else 0) = z13 at b13 ⊢
    refine g_if_eq (tgt := 33) dX10_faultOfReturn_16 (by decide) (by omega) (fun c_16 => ?_) (fun c_16 => ?_)
    · refine g_fault (i := 2) dX10_faultOfReturn_33 mw_553 (by decide) rfl ?_
      exact g_aret dX10_faultOfReturn_36 rfl (Or.inl ⟨_, rfl⟩) (by decide) (by decide) (g_pu_a (by rw [show sTakeT W a b c = 2 by (simp only [sTakeT]; repeat (first | omega | split))]; rfl) _ _ _ _ _ _)
    · refine g_iload_n dX10_faultOfReturn_19 rfl rfl ?_
      refine g_iconst dX10_faultOfReturn_20 ?_
      refine g_iload_n dX10_faultOfReturn_21 rfl rfl ?_
      refine g_aload_n dX10_faultOfReturn_22 rfl rfl ?_
      skip
      refine g_get_State_boxSize dX10_faultOfReturn_23 mw_217 (by assumption) ?_
      rw [c89]
      have hb1 : 0 ≤ b * W 89 := Int.mul_nonneg (by omega) (by omega)
      have hb2 : b * W 89 ≤ 100000 * 50 := Int.mul_le_mul (by omega) s4 (by omega) (by omega)
      refine g_imul dX10_faultOfReturn_26 ?_
      refine g_callSNp (k_isWithin Y _ _ _ (by omega) (by omega) (by omega)) u_X12_isWithin mw_552 dX10_faultOfReturn_27 rfl rfl ⟨Nat.le_of_ble_eq_true rfl, Nat.le_of_ble_eq_true rfl⟩ ⟨Nat.le_of_ble_eq_true rfl, Nat.le_of_ble_eq_true rfl⟩ (Nat.le_of_ble_eq_true rfl) ?_
      have b27 := ifd (0 ≤ c ∧ c ≤ b * W 89)
      generalize (if 0 ≤ c ∧ c ≤ b * W 89 then (1 : Int) else 0) = z27 at b27 ⊢
      refine g_if_ne (tgt := 37) dX10_faultOfReturn_30 (by decide) (by omega) (fun c_30 => ?_) (fun c_30 => ?_)
      · refine g_iload_n dX10_faultOfReturn_37 rfl rfl ?_
        refine g_aload_n dX10_faultOfReturn_38 rfl rfl ?_
        refine g_get_State_deliveries dX10_faultOfReturn_39 mw_211 (by assumption) (by assumption) ?_
        refine g_iload_n dX10_faultOfReturn_42 rfl rfl ?_
        obtain ⟨zda, zdb, zdc⟩ := zd5 a (by omega) (by omega)
        refine g_aald_Delivery dX10_faultOfReturn_43 (by assumption) (by omega) (by omega) (by assumption) ?_
        refine g_get_Delivery_out dX10_faultOfReturn_44 mw_188 (by assumption) ?_
        rw [ar_2 hag (i := a) (by omega) (by omega) (by omega)]
        have ndo := h0.out (d := a) (by omega) (by omega)
        refine g_icmp_gt (tgt := 56) dX10_faultOfReturn_47 (by decide) (by omega) (by omega) (fun c_47 => ?_) (fun c_47 => ?_)
        · refine g_fault (i := 3) dX10_faultOfReturn_56 mw_557 (by decide) rfl ?_
          exact g_aret dX10_faultOfReturn_59 rfl (Or.inl ⟨_, rfl⟩) (by decide) (by decide) (by first | exact (g_pu_a (by rw [show sTakeT W a b c = 0 by (simp only [sTakeT]; repeat (first | omega | split))]; rfl) _ _ _ _ _ _) | exact (g_pu_a (by rw [show sTakeT W a b c = 3 by (simp only [sTakeT]; repeat (first | omega | split))]; rfl) _ _ _ _ _ _))
        · refine g_fault (i := 0) dX10_faultOfReturn_50 mw_555 (by decide) rfl ?_
          refine g_goto (tgt := 59) dX10_faultOfReturn_53 (by decide) ?_
          exact g_aret dX10_faultOfReturn_59 rfl (Or.inl ⟨_, rfl⟩) (by decide) (by decide) (by first | exact (g_pu_a (by rw [show sTakeT W a b c = 0 by (simp only [sTakeT]; repeat (first | omega | split))]; rfl) _ _ _ _ _ _) | exact (g_pu_a (by rw [show sTakeT W a b c = 3 by (simp only [sTakeT]; repeat (first | omega | split))]; rfl) _ _ _ _ _ _))
      · refine g_fault (i := 2) dX10_faultOfReturn_33 mw_553 (by decide) rfl ?_
        exact g_aret dX10_faultOfReturn_36 rfl (Or.inl ⟨_, rfl⟩) (by decide) (by decide) (g_pu_a (by rw [show sTakeT W a b c = 2 by (simp only [sTakeT]; repeat (first | omega | split))]; rfl) _ _ _ _ _ _)
  · refine g_fault (i := 1) dX10_faultOfReturn_8 mw_547 (by decide) rfl ?_
    exact g_aret dX10_faultOfReturn_11 rfl (Or.inl ⟨_, rfl⟩) (by decide) (by decide) (g_pu_a (by rw [show sTakeT W a b c = 1 by (simp only [sTakeT]; repeat (first | omega | split))]; rfl) _ _ _ _ _ _)
set_option maxHeartbeats 1000000 in
set_option maxRecDepth 100000 in
theorem k_S_fRepl (Y : gEnv) {K N : Nat → Nat} {I : Nat → Nat → Int} {A : Nat → Int → Int} {R : Nat → Nat → Option Nat} {Q : Nat → Int → Option Nat} {s : Nat} {G : Nat → Nat × Int} {W : Int → Int} (hsh : cSh K N R Q G s) (hag : ag (cV I R Q s) W) (h0 : iN W) (a : Int) (ha : (-2147483648 ≤ a ∧ a ≤ 2147483647)) : gC Y yX10_faultOfReplacing cX10_faultOfReplacing 4 (some (.object "TileFactory$Fault")) ({ frames := 1, cells := 0, slots := 0, locals := 21 } : Room) [.ref s, vi a] K N I A R Q (g_pu (some (.ref (Y.2.2.1 (20 + (cReplF (sReplT W a)).toNat)))) K N I A R Q) gno := by
  refine gC_of (by decide) (Nat.le_of_ble_eq_true rfl) (fun X => ?_)
  obtain ⟨hKs, hGs, ⟨zg1, zg2, zg3, zg4, zg5⟩, ⟨zq1, zq2, zq3, zq4, zq5⟩, ⟨zp1, zp2, zp3, zp4, zp5⟩, ⟨zl1, zl2, zl3, zl4, zl5⟩, ⟨zd1, zd2, zd3, zd4, zd5⟩⟩ := id hsh
  have c88 : I 166 s = W 88 := ar_166 hag
  have c89 : I 167 s = W 89 := ar_167 hag
  have c10 : I 171 s = W 1610 := ar_171 hag
  have c11 : I 172 s = W 1611 := ar_172 hag
  have c12 : I 173 s = W 1612 := ar_173 hag
  have c13 : I 168 s = W 1613 := ar_168 hag
  have c14 : I 169 s = W 1614 := ar_169 hag
  have c15 : I 170 s = W 1615 := ar_170 hag
  have hP := h0.2.2.2.1
  have hL := h0.2.2.2.2.1
  have n15 : 0 ≤ W 1615 ∧ W 1615 ≤ 40 := ⟨h0.2.2.2.2.2.1.1, h0.2.2.2.2.2.1.2.1⟩
  have nD := h0.2.2.2.2.2.1.2.2
  have nG := h0.1
  have nO := h0.2.1
  have nB := h0.2.2.1
  obtain ⟨s1, s2, s3, s4, s5, s6, s7, s8, s9, s10⟩ := h0.2.2.2.2.2.2.1
  have hsu := h0.sums
  have n13 : 0 ≤ W 1613 ∧ W 1613 ≤ 80 := ⟨hP.1, hP.2.1⟩
  have nP := hP.2.2.1
  have n14 : 0 ≤ W 1614 ∧ W 1614 ≤ 160 := ⟨hL.1, hL.2.1⟩
  have nL := hL.2.2.1
  refine g_aload_n dX10_faultOfReplacing_0 rfl rfl ?_
  refine g_iload_n dX10_faultOfReplacing_1 rfl rfl ?_
  refine g_callVp (i := 8) rfl (gK0 (by assumption)) (g_at8 (by assumption)) (k_S_hasDelivery Y hsh hag n15 a ha) u_X10_hasDelivery mw_755 dX10_faultOfReplacing_2 rfl rfl ⟨Nat.le_of_ble_eq_true rfl, Nat.le_of_ble_eq_true rfl⟩ ⟨Nat.le_of_ble_eq_true rfl, Nat.le_of_ble_eq_true rfl⟩ (Nat.le_of_ble_eq_true rfl) ?_
  have b2 := ifd (0 ≤ a ∧ a < W 1615)
  generalize (if 0 ≤ a ∧ a < W 1615 then (1 : Int) else 0) = z2 at b2 ⊢
  refine g_if_ne (tgt := 12) dX10_faultOfReplacing_5 (by decide) (by omega) (fun c_5 => ?_) (fun c_5 => ?_)
  · refine g_aload_n dX10_faultOfReplacing_12 rfl rfl ?_
    refine g_get_State_deliveries dX10_faultOfReplacing_13 mw_211 (by assumption) (by assumption) ?_
    refine g_iload_n dX10_faultOfReplacing_16 rfl rfl ?_
    obtain ⟨zda, zdb, zdc⟩ := zd5 a (by omega) (by omega)
    have nda := nD a (by omega) (by omega)
    have nlo := h0.lot (l := W (1370 + a)) (by omega) (by omega)
    have nlm := Int.mul_nonneg nlo.2.1 (show 0 ≤ W 89 by omega)
    refine g_aald_Delivery dX10_faultOfReplacing_17 (by assumption) (by omega) (by omega) (by assumption) ?_
    refine g_astore_n dX10_faultOfReplacing_18 rfl (by decide) ?_
    refine g_aload_n dX10_faultOfReplacing_19 rfl rfl ?_
    refine g_aload_n dX10_faultOfReplacing_20 rfl rfl ?_
    refine g_get_Delivery_lot dX10_faultOfReplacing_21 mw_184 (by assumption) ?_
    rw [ar_0 hag (i := a) (by omega) (by omega) (by omega)]
    refine g_callVp (i := 8) rfl (gK0 (by assumption)) (g_at8 (by assumption)) (k_S_hasLot Y hsh hag hL _ (by omega)) u_X10_hasLot mw_650 dX10_faultOfReplacing_24 rfl rfl ⟨Nat.le_of_ble_eq_true rfl, Nat.le_of_ble_eq_true rfl⟩ ⟨Nat.le_of_ble_eq_true rfl, Nat.le_of_ble_eq_true rfl⟩ (Nat.le_of_ble_eq_true rfl) ?_
    have b24 := ifd (0 ≤ W (1370 + a) ∧ W (1370 + a) < W 1614)
    generalize (if 0 ≤ W (1370 + a) ∧ W (1370 + a) < W 1614 then (1 : Int) else 0) = z24 at b24 ⊢
    refine g_if_eq (tgt := 53) dX10_faultOfReplacing_27 (by decide) (by omega) (fun c_27 => ?_) (fun c_27 => ?_)
    · refine g_iconst dX10_faultOfReplacing_53 ?_
      refine g_istore_n dX10_faultOfReplacing_54 rfl (by decide) ?_
      refine g_aload_n dX10_faultOfReplacing_55 rfl rfl ?_
      refine g_get_Delivery_complaints dX10_faultOfReplacing_56 mw_190 (by assumption) ?_
      rw [ar_3 hag (i := a) (by omega) (by omega) (by omega)]
      refine g_if_le (tgt := 72) dX10_faultOfReplacing_59 (by decide) (by omega) (fun c_59 => ?_) (fun c_59 => ?_)
      · refine g_fault (i := 3) dX10_faultOfReplacing_72 mw_557 (by decide) rfl ?_
        exact g_aret dX10_faultOfReplacing_75 rfl (Or.inl ⟨_, rfl⟩) (by decide) (by decide) (by first | exact (g_pu_a (by rw [show cReplF (sReplT W a) = 0 by (simp only [cReplF, sReplT]; repeat (first | omega | split))]; rfl) _ _ _ _ _ _) | exact (g_pu_a (by rw [show cReplF (sReplT W a) = 3 by (simp only [cReplF, sReplT]; repeat (first | omega | split))]; rfl) _ _ _ _ _ _))
      · refine g_iload_n dX10_faultOfReplacing_62 rfl rfl ?_
        refine g_if_eq (tgt := 72) dX10_faultOfReplacing_63 (by decide) (by omega) (fun c_63 => ?_) (fun c_63 => ?_)
        · refine g_fault (i := 3) dX10_faultOfReplacing_72 mw_557 (by decide) rfl ?_
          exact g_aret dX10_faultOfReplacing_75 rfl (Or.inl ⟨_, rfl⟩) (by decide) (by decide) (by first | exact (g_pu_a (by rw [show cReplF (sReplT W a) = 0 by (simp only [cReplF, sReplT]; repeat (first | omega | split))]; rfl) _ _ _ _ _ _) | exact (g_pu_a (by rw [show cReplF (sReplT W a) = 3 by (simp only [cReplF, sReplT]; repeat (first | omega | split))]; rfl) _ _ _ _ _ _))
        · refine g_fault (i := 0) dX10_faultOfReplacing_66 mw_555 (by decide) rfl ?_
          refine g_goto (tgt := 75) dX10_faultOfReplacing_69 (by decide) ?_
          exact g_aret dX10_faultOfReplacing_75 rfl (Or.inl ⟨_, rfl⟩) (by decide) (by decide) (by first | exact (g_pu_a (by rw [show cReplF (sReplT W a) = 0 by (simp only [cReplF, sReplT]; repeat (first | omega | split))]; rfl) _ _ _ _ _ _) | exact (g_pu_a (by rw [show cReplF (sReplT W a) = 3 by (simp only [cReplF, sReplT]; repeat (first | omega | split))]; rfl) _ _ _ _ _ _))
    · refine g_aload_n dX10_faultOfReplacing_30 rfl rfl ?_
      refine g_get_State_lots dX10_faultOfReplacing_31 mw_209 (by assumption) (by assumption) ?_
      refine g_aload_n dX10_faultOfReplacing_34 rfl rfl ?_
      refine g_get_Delivery_lot dX10_faultOfReplacing_35 mw_184 (by assumption) ?_
      rw [ar_0 hag (i := a) (by omega) (by omega) (by omega)]
      obtain ⟨zla, zlb, zlc⟩ := zl5 (W (1370 + a)) (by omega) (by omega)
      refine g_aald_Lot dX10_faultOfReplacing_38 (by assumption) (by omega) (by omega) (by assumption) ?_
      refine g_get_Lot_loose dX10_faultOfReplacing_39 mw_160 (by assumption) ?_
      rw [ar_83 hag (i := (W (1370 + a))) (by omega) (by omega) (by omega)]
      refine g_aload_n dX10_faultOfReplacing_42 rfl rfl ?_
      refine g_get_Delivery_complaints dX10_faultOfReplacing_43 mw_190 (by assumption) ?_
      rw [ar_3 hag (i := a) (by omega) (by omega) (by omega)]
      refine g_icmp_lt (tgt := 53) dX10_faultOfReplacing_46 (by decide) (by omega) (by omega) (fun c_46 => ?_) (fun c_46 => ?_)
      · refine g_iconst dX10_faultOfReplacing_53 ?_
        refine g_istore_n dX10_faultOfReplacing_54 rfl (by decide) ?_
        refine g_aload_n dX10_faultOfReplacing_55 rfl rfl ?_
        refine g_get_Delivery_complaints dX10_faultOfReplacing_56 mw_190 (by assumption) ?_
        rw [ar_3 hag (i := a) (by omega) (by omega) (by omega)]
        refine g_if_le (tgt := 72) dX10_faultOfReplacing_59 (by decide) (by omega) (fun c_59 => ?_) (fun c_59 => ?_)
        · refine g_fault (i := 3) dX10_faultOfReplacing_72 mw_557 (by decide) rfl ?_
          exact g_aret dX10_faultOfReplacing_75 rfl (Or.inl ⟨_, rfl⟩) (by decide) (by decide) (by first | exact (g_pu_a (by rw [show cReplF (sReplT W a) = 0 by (simp only [cReplF, sReplT]; repeat (first | omega | split))]; rfl) _ _ _ _ _ _) | exact (g_pu_a (by rw [show cReplF (sReplT W a) = 3 by (simp only [cReplF, sReplT]; repeat (first | omega | split))]; rfl) _ _ _ _ _ _))
        · refine g_iload_n dX10_faultOfReplacing_62 rfl rfl ?_
          refine g_if_eq (tgt := 72) dX10_faultOfReplacing_63 (by decide) (by omega) (fun c_63 => ?_) (fun c_63 => ?_)
          · refine g_fault (i := 3) dX10_faultOfReplacing_72 mw_557 (by decide) rfl ?_
            exact g_aret dX10_faultOfReplacing_75 rfl (Or.inl ⟨_, rfl⟩) (by decide) (by decide) (by first | exact (g_pu_a (by rw [show cReplF (sReplT W a) = 0 by (simp only [cReplF, sReplT]; repeat (first | omega | split))]; rfl) _ _ _ _ _ _) | exact (g_pu_a (by rw [show cReplF (sReplT W a) = 3 by (simp only [cReplF, sReplT]; repeat (first | omega | split))]; rfl) _ _ _ _ _ _))
          · refine g_fault (i := 0) dX10_faultOfReplacing_66 mw_555 (by decide) rfl ?_
            refine g_goto (tgt := 75) dX10_faultOfReplacing_69 (by decide) ?_
            exact g_aret dX10_faultOfReplacing_75 rfl (Or.inl ⟨_, rfl⟩) (by decide) (by decide) (by first | exact (g_pu_a (by rw [show cReplF (sReplT W a) = 0 by (simp only [cReplF, sReplT]; repeat (first | omega | split))]; rfl) _ _ _ _ _ _) | exact (g_pu_a (by rw [show cReplF (sReplT W a) = 3 by (simp only [cReplF, sReplT]; repeat (first | omega | split))]; rfl) _ _ _ _ _ _))
      · refine g_iconst dX10_faultOfReplacing_49 ?_
        refine g_goto (tgt := 54) dX10_faultOfReplacing_50 (by decide) ?_
        refine g_istore_n dX10_faultOfReplacing_54 rfl (by decide) ?_
        refine g_aload_n dX10_faultOfReplacing_55 rfl rfl ?_
        refine g_get_Delivery_complaints dX10_faultOfReplacing_56 mw_190 (by assumption) ?_
        rw [ar_3 hag (i := a) (by omega) (by omega) (by omega)]
        refine g_if_le (tgt := 72) dX10_faultOfReplacing_59 (by decide) (by omega) (fun c_59 => ?_) (fun c_59 => ?_)
        · refine g_fault (i := 3) dX10_faultOfReplacing_72 mw_557 (by decide) rfl ?_
          exact g_aret dX10_faultOfReplacing_75 rfl (Or.inl ⟨_, rfl⟩) (by decide) (by decide) (by first | exact (g_pu_a (by rw [show cReplF (sReplT W a) = 0 by (simp only [cReplF, sReplT]; repeat (first | omega | split))]; rfl) _ _ _ _ _ _) | exact (g_pu_a (by rw [show cReplF (sReplT W a) = 3 by (simp only [cReplF, sReplT]; repeat (first | omega | split))]; rfl) _ _ _ _ _ _))
        · refine g_iload_n dX10_faultOfReplacing_62 rfl rfl ?_
          refine g_if_eq (tgt := 72) dX10_faultOfReplacing_63 (by decide) (by omega) (fun c_63 => ?_) (fun c_63 => ?_)
          · refine g_fault (i := 3) dX10_faultOfReplacing_72 mw_557 (by decide) rfl ?_
            exact g_aret dX10_faultOfReplacing_75 rfl (Or.inl ⟨_, rfl⟩) (by decide) (by decide) (by first | exact (g_pu_a (by rw [show cReplF (sReplT W a) = 0 by (simp only [cReplF, sReplT]; repeat (first | omega | split))]; rfl) _ _ _ _ _ _) | exact (g_pu_a (by rw [show cReplF (sReplT W a) = 3 by (simp only [cReplF, sReplT]; repeat (first | omega | split))]; rfl) _ _ _ _ _ _))
          · refine g_fault (i := 0) dX10_faultOfReplacing_66 mw_555 (by decide) rfl ?_
            refine g_goto (tgt := 75) dX10_faultOfReplacing_69 (by decide) ?_
            exact g_aret dX10_faultOfReplacing_75 rfl (Or.inl ⟨_, rfl⟩) (by decide) (by decide) (by first | exact (g_pu_a (by rw [show cReplF (sReplT W a) = 0 by (simp only [cReplF, sReplT]; repeat (first | omega | split))]; rfl) _ _ _ _ _ _) | exact (g_pu_a (by rw [show cReplF (sReplT W a) = 3 by (simp only [cReplF, sReplT]; repeat (first | omega | split))]; rfl) _ _ _ _ _ _))
  · refine g_fault (i := 1) dX10_faultOfReplacing_8 mw_547 (by decide) rfl ?_
    exact g_aret dX10_faultOfReplacing_11 rfl (Or.inl ⟨_, rfl⟩) (by decide) (by decide) (g_pu_a (by rw [show cReplF (sReplT W a) = 1 by (simp only [cReplF, sReplT]; repeat (first | omega | split))]; rfl) _ _ _ _ _ _)
