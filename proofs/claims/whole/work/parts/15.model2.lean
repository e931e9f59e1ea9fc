set_option maxHeartbeats 4000000 in
set_option maxRecDepth 100000 in
theorem lp_M_lotsOf {Y : gEnv} {X : gCtx} {K N : Nat → Nat} {I : Nat → Nat → Int} {A : Nat → Int → Int} {R : Nat → Nat → Option Nat} {Q : Nat → Int → Option Nat} {x w sv tx ag : Nat} (hM : mS K N R x w sv tx ag) (hB : mB (A w)) (g : Int) (hg : (-2147483648 ≤ g ∧ g ≤ 2147483647)) (hn : 0 ≤ A w 1614 ∧ A w 1614 ≤ 160) : ∀ (f m : Nat) (l s : Int), m < f → 0 ≤ l → l + m = A w 1614 → gJ Y X yX13_lotsOf cX13_lotsOf 4 (some .int) ({ frames := 0, cells := 0, slots := 0, locals := 0 } : Room) (g_pu (some (vi (s + sSum (fun l => if A w (410 + l) = g then 1 else 0) m l))) K N I A R Q) gno 0 0 4 [(0, .ref x), (1, vi g), (2, vi s), (3, vi l)] [] K N I A R Q := by
  obtain ⟨hKx, hRw, hRs, hRt, hRa, hKw, hNw, hKs, hNs, hKt, hNt, hKa, hNa, hta⟩ := id hM
  intro f
  induction f with
  | zero => intro m l s h; omega
  | succ f ih =>
  intro m l s hf hl hm
  refine g_iload_n dX13_lotsOf_4 rfl rfl ?_
  refine g_i2l dX13_lotsOf_5 (by first | omega | exact m64 (hB _)) ?_
  refine g_aload_n dX13_lotsOf_6 rfl rfl ?_
  refine g_get_Model_w dX13_lotsOf_7 mw_1155 (by assumption) (by assumption) ?_
  refine g_sipush dX13_lotsOf_10 (by decide) ?_
  refine g_laload dX13_lotsOf_13 (by assumption) (by omega) (by omega) ?_
  refine g_lcmp_ge (tgt := 48) dX13_lotsOf_14 dX13_lotsOf_15 (by decide) (by first | omega | exact m64 (hB _)) (by first | omega | exact m64 (hB _)) (fun c_14 => ?_) (fun c_14 => ?_)
  · refine g_iload_n dX13_lotsOf_48 rfl rfl ?_
    exact g_iret dX13_lotsOf_49 rfl (by decide) (by decide) (g_pu_i (by rw [sSum_stop (by omega)]; omega) _ _ _ _ _ _)
  · refine g_iload_n dX13_lotsOf_18 rfl rfl ?_
    refine g_aload_n dX13_lotsOf_19 rfl rfl ?_
    refine g_get_Model_w dX13_lotsOf_20 mw_1155 (by assumption) (by assumption) ?_
    refine g_sipush dX13_lotsOf_23 (by decide) ?_
    refine g_iload_n dX13_lotsOf_26 rfl rfl ?_
    refine g_iadd dX13_lotsOf_27 ?_
    refine g_laload dX13_lotsOf_28 (by assumption) (by omega) (by omega) ?_
    refine g_iload_n dX13_lotsOf_29 rfl rfl ?_
    refine g_i2l dX13_lotsOf_30 (by first | omega | exact m64 (hB _)) ?_
    refine g_lcmp_ne (tgt := 39) dX13_lotsOf_31 dX13_lotsOf_32 (by decide) (by first | omega | exact m64 (hB _)) (by first | omega | exact m64 (hB _)) (fun c_31 => ?_) (fun c_31 => ?_)
    · refine g_iconst dX13_lotsOf_39 ?_
      refine g_iadd dX13_lotsOf_40 ?_
      refine g_istore_n dX13_lotsOf_41 rfl (by decide) ?_
      refine g_iinc dX13_lotsOf_42 rfl (by decide) ?_
      refine g_goto (tgt := 4) dX13_lotsOf_45 (by decide) ?_
      rw [sSum_step (by omega), ← Int.add_assoc]
      first | rw [if_pos c_31] | rw [if_neg c_31]
      exact g_locs (by exact ⟨rfl, rfl, rfl, rfl, trivial⟩) (ih (m - 1) (l + 1) _ (by omega) (by omega) (by omega))
    · refine g_iconst dX13_lotsOf_35 ?_
      refine g_goto (tgt := 40) dX13_lotsOf_36 (by decide) ?_
      refine g_iadd dX13_lotsOf_40 ?_
      refine g_istore_n dX13_lotsOf_41 rfl (by decide) ?_
      refine g_iinc dX13_lotsOf_42 rfl (by decide) ?_
      refine g_goto (tgt := 4) dX13_lotsOf_45 (by decide) ?_
      rw [sSum_step (by omega), ← Int.add_assoc]
      first | rw [if_pos c_31] | rw [if_neg c_31]
      exact g_locs (by exact ⟨rfl, rfl, rfl, rfl, trivial⟩) (ih (m - 1) (l + 1) _ (by omega) (by omega) (by omega))
set_option maxHeartbeats 4000000 in
set_option maxRecDepth 100000 in
theorem k_M_lotsOf (Y : gEnv) {K N : Nat → Nat} {I : Nat → Nat → Int} {A : Nat → Int → Int} {R : Nat → Nat → Option Nat} {Q : Nat → Int → Option Nat} {x w sv tx ag : Nat} (hM : mS K N R x w sv tx ag) (hB : mB (A w)) (g : Int) (hg : (-2147483648 ≤ g ∧ g ≤ 2147483647)) (hn : 0 ≤ A w 1614 ∧ A w 1614 ≤ 160) : gC Y yX13_lotsOf cX13_lotsOf 4 (some .int) ({ frames := 0, cells := 0, slots := 0, locals := 0 } : Room) [.ref x, vi g] K N I A R Q (g_pu (some (vi (sSum (fun l => if A w (410 + l) = g then 1 else 0) (A w 1614).toNat 0))) K N I A R Q) gno := by
  refine gC_of (by decide) (Nat.le_of_ble_eq_true rfl) (fun X => ?_)
  have h0 := lp_M_lotsOf (Y := Y) (X := X) (I := I) (Q := Q) hM hB g hg hn _ (A w 1614).toNat 0 0 (Nat.lt_succ_self _) (by omega) (by omega)
  rw [Int.zero_add] at h0
  refine g_iconst dX13_lotsOf_0 ?_
  refine g_istore_n dX13_lotsOf_1 rfl (by decide) ?_
  refine g_iconst dX13_lotsOf_2 ?_
  refine g_istore_n dX13_lotsOf_3 rfl (by decide) ?_
  exact g_locs (by exact ⟨rfl, rfl, rfl, rfl, trivial⟩) h0
set_option maxHeartbeats 4000000 in
set_option maxRecDepth 100000 in
theorem lp_M_tilesOf {Y : gEnv} {X : gCtx} {K N : Nat → Nat} {I : Nat → Nat → Int} {A : Nat → Int → Int} {R : Nat → Nat → Option Nat} {Q : Nat → Int → Option Nat} {x w sv tx ag : Nat} (hM : mS K N R x w sv tx ag) (hB : mB (A w)) (g : Int) (hg : (-2147483648 ≤ g ∧ g ≤ 2147483647)) (hn : 0 ≤ A w 1614 ∧ A w 1614 ≤ 160) : ∀ (f m : Nat) (l s : Int), m < f → 0 ≤ l → l + m = A w 1614 → gJ Y X yX13_tilesOf cX13_tilesOf 5 (some .long) ({ frames := 1, cells := 0, slots := 0, locals := 21 } : Room) (g_pu (some (vl (s + sSum (fun l => if A w (410 + l) = g then sContent (A w) l else 0) m l))) K N I A R Q) gno 0 0 5 [(0, .ref x), (1, vi g), (2, vl s), (4, vi l)] [] K N I A R Q := by
  obtain ⟨hKx, hRw, hRs, hRt, hRa, hKw, hNw, hKs, hNs, hKt, hNt, hKa, hNa, hta⟩ := id hM
  intro f
  induction f with
  | zero => intro m l s h; omega
  | succ f ih =>
  intro m l s hf hl hm
  refine g_iload dX13_tilesOf_5 rfl ?_
  refine g_i2l dX13_tilesOf_7 (by first | omega | exact m64 (hB _)) ?_
  refine g_aload_n dX13_tilesOf_8 rfl rfl ?_
  refine g_get_Model_w dX13_tilesOf_9 mw_1155 (by assumption) (by assumption) ?_
  refine g_sipush dX13_tilesOf_12 (by decide) ?_
  refine g_laload dX13_tilesOf_15 (by assumption) (by omega) (by omega) ?_
  refine g_lcmp_ge (tgt := 56) dX13_tilesOf_16 dX13_tilesOf_17 (by decide) (by first | omega | exact m64 (hB _)) (by first | omega | exact m64 (hB _)) (fun c_16 => ?_) (fun c_16 => ?_)
  · refine g_lload_n dX13_tilesOf_56 rfl rfl ?_
    exact g_lret dX13_tilesOf_57 rfl (by decide) (by decide) (g_pu_l (by rw [sSum_stop (by omega)]; omega) _ _ _ _ _ _)
  · refine g_lload_n dX13_tilesOf_20 rfl rfl ?_
    refine g_aload_n dX13_tilesOf_21 rfl rfl ?_
    refine g_get_Model_w dX13_tilesOf_22 mw_1155 (by assumption) (by assumption) ?_
    refine g_sipush dX13_tilesOf_25 (by decide) ?_
    refine g_iload dX13_tilesOf_28 rfl ?_
    refine g_iadd dX13_tilesOf_30 ?_
    refine g_laload dX13_tilesOf_31 (by assumption) (by omega) (by omega) ?_
    refine g_iload_n dX13_tilesOf_32 rfl rfl ?_
    refine g_i2l dX13_tilesOf_33 (by first | omega | exact m64 (hB _)) ?_
    refine g_lcmp_ne (tgt := 47) dX13_tilesOf_34 dX13_tilesOf_35 (by decide) (by first | omega | exact m64 (hB _)) (by first | omega | exact m64 (hB _)) (fun c_34 => ?_) (fun c_34 => ?_)
    · refine g_lconst (c := 0) dX13_tilesOf_47 (by decide) ?_
      refine g_ladd dX13_tilesOf_48 ?_
      refine g_lstore_n dX13_tilesOf_49 rfl (by decide) ?_
      refine g_iinc dX13_tilesOf_50 rfl (by decide) ?_
      refine g_goto (tgt := 5) dX13_tilesOf_53 (by decide) ?_
      rw [sSum_step (by omega), ← Int.add_assoc]
      first | rw [if_pos c_34] | rw [if_neg c_34]
      exact g_locs (by exact ⟨rfl, rfl, rfl, rfl, trivial⟩) (ih (m - 1) (l + 1) _ (by omega) (by omega) (by omega))
    · refine g_aload_n dX13_tilesOf_38 rfl rfl ?_
      refine g_iload dX13_tilesOf_39 rfl ?_
      refine g_callVp (i := 10) rfl (gK0 (by assumption)) (g_at10 (by assumption)) (k_M_content Y hM _ (by omega)) u_X13_content mw_1335 dX13_tilesOf_41 rfl rfl ⟨Nat.le_of_ble_eq_true rfl, Nat.le_of_ble_eq_true rfl⟩ ⟨Nat.le_of_ble_eq_true rfl, Nat.le_of_ble_eq_true rfl⟩ (Nat.le_of_ble_eq_true rfl) ?_
      refine g_goto (tgt := 48) dX13_tilesOf_44 (by decide) ?_
      refine g_ladd dX13_tilesOf_48 ?_
      refine g_lstore_n dX13_tilesOf_49 rfl (by decide) ?_
      refine g_iinc dX13_tilesOf_50 rfl (by decide) ?_
      refine g_goto (tgt := 5) dX13_tilesOf_53 (by decide) ?_
      rw [sSum_step (by omega), ← Int.add_assoc]
      first | rw [if_pos c_34] | rw [if_neg c_34]
      exact g_locs (by exact ⟨rfl, rfl, rfl, rfl, trivial⟩) (ih (m - 1) (l + 1) _ (by omega) (by omega) (by omega))
set_option maxHeartbeats 4000000 in
set_option maxRecDepth 100000 in
theorem k_M_tilesOf (Y : gEnv) {K N : Nat → Nat} {I : Nat → Nat → Int} {A : Nat → Int → Int} {R : Nat → Nat → Option Nat} {Q : Nat → Int → Option Nat} {x w sv tx ag : Nat} (hM : mS K N R x w sv tx ag) (hB : mB (A w)) (g : Int) (hg : (-2147483648 ≤ g ∧ g ≤ 2147483647)) (hn : 0 ≤ A w 1614 ∧ A w 1614 ≤ 160) : gC Y yX13_tilesOf cX13_tilesOf 5 (some .long) ({ frames := 1, cells := 0, slots := 0, locals := 21 } : Room) [.ref x, vi g] K N I A R Q (g_pu (some (vl (sSum (fun l => if A w (410 + l) = g then sContent (A w) l else 0) (A w 1614).toNat 0))) K N I A R Q) gno := by
  refine gC_of (by decide) (Nat.le_of_ble_eq_true rfl) (fun X => ?_)
  have h0 := lp_M_tilesOf (Y := Y) (X := X) (I := I) (Q := Q) hM hB g hg hn _ (A w 1614).toNat 0 0 (Nat.lt_succ_self _) (by omega) (by omega)
  rw [Int.zero_add] at h0
  refine g_lconst (c := 0) dX13_tilesOf_0 (by decide) ?_
  refine g_lstore_n dX13_tilesOf_1 rfl (by decide) ?_
  refine g_iconst dX13_tilesOf_2 ?_
  refine g_istore dX13_tilesOf_3 (by decide) ?_
  exact g_locs (by exact ⟨rfl, rfl, rfl, rfl, trivial⟩) h0
set_option maxHeartbeats 4000000 in
set_option maxRecDepth 100000 in
theorem lp_M_worthAll {Y : gEnv} {X : gCtx} {K N : Nat → Nat} {I : Nat → Nat → Int} {A : Nat → Int → Int} {R : Nat → Nat → Option Nat} {Q : Nat → Int → Option Nat} {x w sv tx ag : Nat} (hM : mS K N R x w sv tx ag) (hB : mB (A w)) (hn : 0 ≤ A w 1614 ∧ A w 1614 ≤ 160) (hG : ∀ l, 0 ≤ l → l < A w 1614 → 0 ≤ A w (410 + l) ∧ A w (410 + l) ≤ 3) : ∀ (f m : Nat) (l s : Int), m < f → 0 ≤ l → l + m = A w 1614 → gJ Y X yX13_worthAll cX13_worthAll 4 (some .long) ({ frames := 1, cells := 0, slots := 0, locals := 23 } : Room) (g_pu (some (vl (s + sSum (fun l => sContent (A w) l * sWorth (A w) l) m l))) K N I A R Q) gno 0 0 4 [(0, .ref x), (1, vl s), (3, vi l)] [] K N I A R Q := by
  obtain ⟨hKx, hRw, hRs, hRt, hRa, hKw, hNw, hKs, hNs, hKt, hNt, hKa, hNa, hta⟩ := id hM
  intro f
  induction f with
  | zero => intro m l s h; omega
  | succ f ih =>
  intro m l s hf hl hm
  refine g_iload_n dX13_worthAll_4 rfl rfl ?_
  refine g_i2l dX13_worthAll_5 (by first | omega | exact m64 (hB _)) ?_
  refine g_aload_n dX13_worthAll_6 rfl rfl ?_
  refine g_get_Model_w dX13_worthAll_7 mw_1155 (by assumption) (by assumption) ?_
  refine g_sipush dX13_worthAll_10 (by decide) ?_
  refine g_laload dX13_worthAll_13 (by assumption) (by omega) (by omega) ?_
  refine g_lcmp_ge (tgt := 38) dX13_worthAll_14 dX13_worthAll_15 (by decide) (by first | omega | exact m64 (hB _)) (by first | omega | exact m64 (hB _)) (fun c_14 => ?_) (fun c_14 => ?_)
  · refine g_lload_n dX13_worthAll_38 rfl rfl ?_
    exact g_lret dX13_worthAll_39 rfl (by decide) (by decide) (g_pu_l (by rw [sSum_stop (by omega)]; omega) _ _ _ _ _ _)
  · have hgl := hG l hl (by omega)
    refine g_lload_n dX13_worthAll_18 rfl rfl ?_
    refine g_aload_n dX13_worthAll_19 rfl rfl ?_
    refine g_iload_n dX13_worthAll_20 rfl rfl ?_
    refine g_callVp (i := 10) rfl (gK0 (by assumption)) (g_at10 (by assumption)) (k_M_content Y hM _ (by omega)) u_X13_content mw_1335 dX13_worthAll_21 rfl rfl ⟨Nat.le_of_ble_eq_true rfl, Nat.le_of_ble_eq_true rfl⟩ ⟨Nat.le_of_ble_eq_true rfl, Nat.le_of_ble_eq_true rfl⟩ (Nat.le_of_ble_eq_true rfl) ?_
    refine g_aload_n dX13_worthAll_24 rfl rfl ?_
    refine g_iload_n dX13_worthAll_25 rfl rfl ?_
    refine g_callVp (i := 10) rfl (gK0 (by assumption)) (g_at10 (by assumption)) (k_M_worth Y hM hB _ (by omega) (by assumption)) u_X13_worth mw_1339 dX13_worthAll_26 rfl rfl ⟨Nat.le_of_ble_eq_true rfl, Nat.le_of_ble_eq_true rfl⟩ ⟨Nat.le_of_ble_eq_true rfl, Nat.le_of_ble_eq_true rfl⟩ (Nat.le_of_ble_eq_true rfl) ?_
    refine g_lmul dX13_worthAll_29 ?_
    refine g_ladd dX13_worthAll_30 ?_
    refine g_lstore_n dX13_worthAll_31 rfl (by decide) ?_
    refine g_iinc dX13_worthAll_32 rfl (by decide) ?_
    refine g_goto (tgt := 4) dX13_worthAll_35 (by decide) ?_
    rw [sSum_step (by omega), ← Int.add_assoc]
    exact g_locs (by exact ⟨rfl, rfl, rfl, trivial⟩) (ih (m - 1) (l + 1) _ (by omega) (by omega) (by omega))
set_option maxHeartbeats 4000000 in
set_option maxRecDepth 100000 in
theorem k_M_worthAll (Y : gEnv) {K N : Nat → Nat} {I : Nat → Nat → Int} {A : Nat → Int → Int} {R : Nat → Nat → Option Nat} {Q : Nat → Int → Option Nat} {x w sv tx ag : Nat} (hM : mS K N R x w sv tx ag) (hB : mB (A w)) (hn : 0 ≤ A w 1614 ∧ A w 1614 ≤ 160) (hG : ∀ l, 0 ≤ l → l < A w 1614 → 0 ≤ A w (410 + l) ∧ A w (410 + l) ≤ 3) : gC Y yX13_worthAll cX13_worthAll 4 (some .long) ({ frames := 1, cells := 0, slots := 0, locals := 23 } : Room) [.ref x] K N I A R Q (g_pu (some (vl (sSum (fun l => sContent (A w) l * sWorth (A w) l) (A w 1614).toNat 0))) K N I A R Q) gno := by
  refine gC_of (by decide) (Nat.le_of_ble_eq_true rfl) (fun X => ?_)
  have h0 := lp_M_worthAll (Y := Y) (X := X) (I := I) (Q := Q) hM hB hn hG _ (A w 1614).toNat 0 0 (Nat.lt_succ_self _) (by omega) (by omega)
  rw [Int.zero_add] at h0
  refine g_lconst (c := 0) dX13_worthAll_0 (by decide) ?_
  refine g_lstore_n dX13_worthAll_1 rfl (by decide) ?_
  refine g_iconst dX13_worthAll_2 ?_
  refine g_istore_n dX13_worthAll_3 rfl (by decide) ?_
  exact g_locs (by exact ⟨rfl, rfl, rfl, trivial⟩) h0
set_option maxHeartbeats 4000000 in
set_option maxRecDepth 100000 in
theorem lp_M_stays {Y : gEnv} {X : gCtx} {K N : Nat → Nat} {I : Nat → Nat → Int} {A : Nat → Int → Int} {R : Nat → Nat → Option Nat} {Q : Nat → Int → Option Nat} {x w sv tx ag : Nat} (hM : mS K N R x w sv tx ag) (hB : mB (A w)) (ps : Int) (hps : 0 ≤ ps ∧ ps ≤ 10) (hs : 0 ≤ A w 88 ∧ A w 88 ≤ 100) : ∀ (f m : Nat) (i h : Int), m < f → 0 ≤ i → i + m = ps → 0 ≤ h ∧ h ≤ 10000000 → gJ Y X yX13_stays cX13_stays 7 (some .long) ({ frames := 0, cells := 0, slots := 0, locals := 0 } : Room) (g_pu (some (vl (sStays (A w 88) m h))) K N I A R Q) gno 0 0 6 [(0, .ref x), (3, vi ps), (4, vl h), (6, vi i)] [] K N I A R Q := by
  obtain ⟨hKx, hRw, hRs, hRt, hRa, hKw, hNw, hKs, hNs, hKt, hNt, hKa, hNa, hta⟩ := id hM
  intro f
  induction f with
  | zero => intro m i h h; omega
  | succ f ih =>
  intro m i h hf hi hm h0
  refine g_iload dX13_stays_6 rfl ?_
  refine g_iload_n dX13_stays_8 rfl rfl ?_
  refine g_icmp_ge (tgt := 41) dX13_stays_9 (by decide) (by first | omega | exact m64 (hB _)) (by first | omega | exact m64 (hB _)) (fun c_9 => ?_) (fun c_9 => ?_)
  · refine g_lload dX13_stays_41 rfl ?_
    exact g_lret dX13_stays_43 rfl (by decide) (by decide) (g_pu_l (by rw [sStays_stop (by omega)]) _ _ _ _ _ _)
  · refine g_lload dX13_stays_12 rfl ?_
    refine g_lload dX13_stays_14 rfl ?_
    refine g_aload_n dX13_stays_16 rfl rfl ?_
    refine g_get_Model_w dX13_stays_17 mw_1155 (by assumption) (by assumption) ?_
    refine g_bipush dX13_stays_20 (by decide) ?_
    refine g_laload dX13_stays_22 (by assumption) (by omega) (by omega) ?_
    refine g_lmul dX13_stays_23 ?_
    refine g_ldc2 (c := 99) dX13_stays_24 mw_1295 (by decide) ?_
    refine g_ladd dX13_stays_27 ?_
    refine g_ldc2 (c := 100) dX13_stays_28 mw_1153 (by decide) ?_
    have hb := sMulB h0 ⟨by omega, hs.2⟩
    have hb2 := Int.mul_nonneg h0.1 hs.1
    refine g_ldiv dX13_stays_31 (by first | omega | exact m64 (hB _)) (by first | omega | exact m64 (hB _)) (by first | omega | exact m64 (hB _)) ?_
    refine g_lsub dX13_stays_32 ?_
    have htd := td_pos (a := h * A w 88 + 99) (b := 100) (by omega)
    have hb3 : h * A w 88 ≤ h * 100 := Int.mul_le_mul_of_nonneg_left hs.2 h0.1
    refine g_lstore dX13_stays_33 (by decide) ?_
    refine g_iinc dX13_stays_35 rfl (by decide) ?_
    refine g_goto (tgt := 6) dX13_stays_38 (by decide) ?_
    rw [sStays_step (by omega)]
    exact g_locs (by exact ⟨rfl, rfl, rfl, rfl, trivial⟩) (ih (m - 1) (i + 1) _ (by omega) (by omega) (by omega) (by rw [htd]; omega))
set_option maxHeartbeats 4000000 in
set_option maxRecDepth 100000 in
theorem k_M_stays (Y : gEnv) {K N : Nat → Nat} {I : Nat → Nat → Int} {A : Nat → Int → Int} {R : Nat → Nat → Option Nat} {Q : Nat → Int → Option Nat} {x w sv tx ag : Nat} (hM : mS K N R x w sv tx ag) (hB : mB (A w)) (ps : Int) (hps : 0 ≤ ps ∧ ps ≤ 10) (hs : 0 ≤ A w 88 ∧ A w 88 ≤ 100) (h : Int) (hh : 0 ≤ h ∧ h ≤ 10000000) : gC Y yX13_stays cX13_stays 7 (some .long) ({ frames := 0, cells := 0, slots := 0, locals := 0 } : Room) [.ref x, vl h, vi ps] K N I A R Q (g_pu (some (vl (sStays (A w 88) ps.toNat h))) K N I A R Q) gno := by
  refine gC_of (by decide) (Nat.le_of_ble_eq_true rfl) (fun X => ?_)
  refine g_lload_n dX13_stays_0 rfl rfl ?_
  refine g_lstore dX13_stays_1 (by decide) ?_
  refine g_iconst dX13_stays_3 ?_
  refine g_istore dX13_stays_4 (by decide) ?_
  exact g_locs (by exact ⟨rfl, rfl, rfl, rfl, trivial⟩) (lp_M_stays hM hB ps hps hs _ _ 0 h (Nat.lt_succ_self _) (by omega) (by omega) hh)
set_option maxHeartbeats 4000000 in
set_option maxRecDepth 100000 in
theorem k_M_shade (Y : gEnv) {K N : Nat → Nat} {I : Nat → Nat → Int} {A : Nat → Int → Int} {R : Nat → Nat → Option Nat} {Q : Nat → Int → Option Nat} {x w sv tx ag : Nat} (hM : mS K N R x w sv tx ag) (ki po gl pk : Int) (hk : 0 ≤ ki ∧ ki ≤ 2) (hp : 0 ≤ po ∧ po ≤ 7) (hg : 0 ≤ gl ∧ gl ≤ 3) (hpk : 800 ≤ pk ∧ pk ≤ 1200) (h1 : 0 ≤ A w gl ∧ A w gl ≤ 19) (h2 : 0 ≤ A w (4 + gl) ∧ A w (4 + gl) ≤ 20) (h3 : -40 ≤ A w (16 + 8 * ki + po) ∧ A w (16 + 8 * ki + po) ≤ 40) : gC Y yX13_shade cX13_shade 9 (some .int) ({ frames := 1, cells := 0, slots := 0, locals := 23 } : Room) [.ref x, vi ki, vi po, vi gl, vi pk] K N I A R Q (g_pu (some (vi (sShade (A w) ki po gl pk))) K N I A R Q) gno := by
  refine gC_of (by decide) (Nat.le_of_ble_eq_true rfl) (fun X => ?_)
  obtain ⟨hKx, hRw, hRs, hRt, hRa, hKw, hNw, hKs, hNs, hKt, hNt, hKa, hNa, hta⟩ := id hM
  have hw : -1000 ≤ sWarm (A w) ki po pk - 1000 ∧ sWarm (A w) ki po pk - 1000 ≤ 1000 := by simp only [sWarm]; split <;> omega
  have hm := sMulB h2 hw
  refine g_iload dX13_shade_0 rfl ?_
  refine g_i2l dX13_shade_2 (by omega) ?_
  refine g_aload_n dX13_shade_3 rfl rfl ?_
  refine g_get_Model_w dX13_shade_4 mw_1155 (by assumption) (by assumption) ?_
  refine g_bipush dX13_shade_7 (by decide) ?_
  refine g_bipush dX13_shade_9 (by decide) ?_
  refine g_iload_n dX13_shade_11 rfl rfl ?_
  refine g_imul dX13_shade_12 ?_
  refine g_iadd dX13_shade_13 ?_
  refine g_iload_n dX13_shade_14 rfl rfl ?_
  refine g_iadd dX13_shade_15 ?_
  refine g_laload dX13_shade_16 (by assumption) (by omega) (by omega) ?_
  refine g_ladd dX13_shade_17 ?_
  refine g_iload_n dX13_shade_18 rfl rfl ?_
  refine g_iconst dX13_shade_19 ?_
  refine g_icmp_ne (tgt := 31) dX13_shade_20 (by decide) (by omega) (by omega) (fun c_20 => ?_) (fun c_20 => ?_)
  · refine g_iconst dX13_shade_31 ?_
    refine g_i2l dX13_shade_32 (by omega) ?_
    all_goals skip
    refine g_ladd dX13_shade_33 ?_
    rw [show pk + A w (16 + 8 * ki + po) + _ = sWarm (A w) ki po pk by simp only [sWarm]; first | rw [if_pos (by omega)] | rw [if_neg (by omega)]]
    refine g_lstore dX13_shade_34 (by decide) ?_
    have e1 : A w (0 + gl) = A w gl := by rw [Int.zero_add]
    refine g_aload_n dX13_shade_36 rfl rfl ?_
    refine g_get_Model_w dX13_shade_37 mw_1155 (by assumption) (by assumption) ?_
    refine g_iconst dX13_shade_40 ?_
    refine g_iload_n dX13_shade_41 rfl rfl ?_
    refine g_iadd dX13_shade_42 ?_
    refine g_laload dX13_shade_43 (by assumption) (by omega) (by omega) ?_
    rw [e1]
    refine g_aload_n dX13_shade_44 rfl rfl ?_
    refine g_get_Model_w dX13_shade_45 mw_1155 (by assumption) (by assumption) ?_
    refine g_iconst dX13_shade_48 ?_
    refine g_iload_n dX13_shade_49 rfl rfl ?_
    refine g_iadd dX13_shade_50 ?_
    refine g_laload dX13_shade_51 (by assumption) (by omega) (by omega) ?_
    refine g_lload dX13_shade_52 rfl ?_
    refine g_ldc2 (c := 1000) dX13_shade_54 mw_1267 (by decide) ?_
    refine g_lsub dX13_shade_57 ?_
    refine g_lmul dX13_shade_58 ?_
    refine g_callSp (k_M_hundredth Y _ (by omega)) u_X13_hundredth mw_1268 rfl dX13_shade_59 rfl rfl ⟨Nat.le_of_ble_eq_true rfl, Nat.le_of_ble_eq_true rfl⟩ ⟨Nat.le_of_ble_eq_true rfl, Nat.le_of_ble_eq_true rfl⟩ (Nat.le_of_ble_eq_true rfl) ?_
    refine g_ladd dX13_shade_62 ?_
    refine g_lstore dX13_shade_63 (by decide) ?_
    refine g_lload dX13_shade_65 rfl ?_
    refine g_lconst (c := 0) dX13_shade_67 (by decide) ?_
    refine g_lcmp_ge (tgt := 76) dX13_shade_68 dX13_shade_69 (by decide) (by omega) (by omega) (fun c_68 => ?_) (fun c_68 => ?_)
    · refine g_lload dX13_shade_76 rfl ?_
      refine g_ldc2 (c := 19) dX13_shade_78 mw_1206 (by decide) ?_
      refine g_lcmp_le (tgt := 90) dX13_shade_81 dX13_shade_82 (by decide) (by omega) (by omega) (fun c_81 => ?_) (fun c_81 => ?_)
      · refine g_lload dX13_shade_90 rfl ?_
        refine g_l2i dX13_shade_92 ?_
        exact g_iret dX13_shade_93 rfl (by decide) (by decide) (g_pu_i (by simp only [sShade, sClamp]; first | rw [if_pos (by assumption)] | (rw [if_neg (by omega)]; first | rw [if_pos (by assumption)] | rw [if_neg (by omega)])) _ _ _ _ _ _)
      · refine g_bipush dX13_shade_85 (by decide) ?_
        refine g_goto (tgt := 93) dX13_shade_87 (by decide) ?_
        exact g_iret dX13_shade_93 rfl (by decide) (by decide) (g_pu_i (by simp only [sShade, sClamp]; first | rw [if_pos (by assumption)] | (rw [if_neg (by omega)]; first | rw [if_pos (by assumption)] | rw [if_neg (by omega)])) _ _ _ _ _ _)
    · refine g_iconst dX13_shade_72 ?_
      refine g_goto (tgt := 93) dX13_shade_73 (by decide) ?_
      exact g_iret dX13_shade_93 rfl (by decide) (by decide) (g_pu_i (by simp only [sShade, sClamp]; first | rw [if_pos (by assumption)] | (rw [if_neg (by omega)]; first | rw [if_pos (by assumption)] | rw [if_neg (by omega)])) _ _ _ _ _ _)
  · refine g_iconst dX13_shade_23 ?_
    refine g_iload_n dX13_shade_24 rfl rfl ?_
    refine g_iconst dX13_shade_25 ?_
    refine g_isub dX13_shade_26 ?_
    refine g_imul dX13_shade_27 ?_
    refine g_goto (tgt := 32) dX13_shade_28 (by decide) ?_
    refine g_i2l dX13_shade_32 (by omega) ?_
    all_goals skip
    refine g_ladd dX13_shade_33 ?_
    rw [show pk + A w (16 + 8 * ki + po) + _ = sWarm (A w) ki po pk by simp only [sWarm]; first | rw [if_pos (by omega)] | rw [if_neg (by omega)]]
    refine g_lstore dX13_shade_34 (by decide) ?_
    have e1 : A w (0 + gl) = A w gl := by rw [Int.zero_add]
    refine g_aload_n dX13_shade_36 rfl rfl ?_
    refine g_get_Model_w dX13_shade_37 mw_1155 (by assumption) (by assumption) ?_
    refine g_iconst dX13_shade_40 ?_
    refine g_iload_n dX13_shade_41 rfl rfl ?_
    refine g_iadd dX13_shade_42 ?_
    refine g_laload dX13_shade_43 (by assumption) (by omega) (by omega) ?_
    rw [e1]
    refine g_aload_n dX13_shade_44 rfl rfl ?_
    refine g_get_Model_w dX13_shade_45 mw_1155 (by assumption) (by assumption) ?_
    refine g_iconst dX13_shade_48 ?_
    refine g_iload_n dX13_shade_49 rfl rfl ?_
    refine g_iadd dX13_shade_50 ?_
    refine g_laload dX13_shade_51 (by assumption) (by omega) (by omega) ?_
    refine g_lload dX13_shade_52 rfl ?_
    refine g_ldc2 (c := 1000) dX13_shade_54 mw_1267 (by decide) ?_
    refine g_lsub dX13_shade_57 ?_
    refine g_lmul dX13_shade_58 ?_
    refine g_callSp (k_M_hundredth Y _ (by omega)) u_X13_hundredth mw_1268 rfl dX13_shade_59 rfl rfl ⟨Nat.le_of_ble_eq_true rfl, Nat.le_of_ble_eq_true rfl⟩ ⟨Nat.le_of_ble_eq_true rfl, Nat.le_of_ble_eq_true rfl⟩ (Nat.le_of_ble_eq_true rfl) ?_
    refine g_ladd dX13_shade_62 ?_
    refine g_lstore dX13_shade_63 (by decide) ?_
    refine g_lload dX13_shade_65 rfl ?_
    refine g_lconst (c := 0) dX13_shade_67 (by decide) ?_
    refine g_lcmp_ge (tgt := 76) dX13_shade_68 dX13_shade_69 (by decide) (by omega) (by omega) (fun c_68 => ?_) (fun c_68 => ?_)
    · refine g_lload dX13_shade_76 rfl ?_
      refine g_ldc2 (c := 19) dX13_shade_78 mw_1206 (by decide) ?_
      refine g_lcmp_le (tgt := 90) dX13_shade_81 dX13_shade_82 (by decide) (by omega) (by omega) (fun c_81 => ?_) (fun c_81 => ?_)
      · refine g_lload dX13_shade_90 rfl ?_
        refine g_l2i dX13_shade_92 ?_
        exact g_iret dX13_shade_93 rfl (by decide) (by decide) (g_pu_i (by simp only [sShade, sClamp]; first | rw [if_pos (by assumption)] | (rw [if_neg (by omega)]; first | rw [if_pos (by assumption)] | rw [if_neg (by omega)])) _ _ _ _ _ _)
      · refine g_bipush dX13_shade_85 (by decide) ?_
        refine g_goto (tgt := 93) dX13_shade_87 (by decide) ?_
        exact g_iret dX13_shade_93 rfl (by decide) (by decide) (g_pu_i (by simp only [sShade, sClamp]; first | rw [if_pos (by assumption)] | (rw [if_neg (by omega)]; first | rw [if_pos (by assumption)] | rw [if_neg (by omega)])) _ _ _ _ _ _)
    · refine g_iconst dX13_shade_72 ?_
      refine g_goto (tgt := 93) dX13_shade_73 (by decide) ?_
      exact g_iret dX13_shade_93 rfl (by decide) (by decide) (g_pu_i (by simp only [sShade, sClamp]; first | rw [if_pos (by assumption)] | (rw [if_neg (by omega)]; first | rw [if_pos (by assumption)] | rw [if_neg (by omega)])) _ _ _ _ _ _)
set_option maxHeartbeats 4000000 in
set_option maxRecDepth 100000 in
theorem lp_M_lotFor {Y : gEnv} {X : gCtx} {K N : Nat → Nat} {I : Nat → Nat → Int} {A : Nat → Int → Int} {R : Nat → Nat → Option Nat} {Q : Nat → Int → Option Nat} {x w sv tx ag : Nat} (hM : mS K N R x w sv tx ag) (hB : mB (A w)) (g r b : Int) (hg : (-2147483648 ≤ g ∧ g ≤ 2147483647)) (hr : (-2147483648 ≤ r ∧ r ≤ 2147483647)) (hb : (-2147483648 ≤ b ∧ b ≤ 2147483647)) (hn : 0 ≤ A w 1614 ∧ A w 1614 ≤ 160) : ∀ (f m : Nat) (l e : Int), m < f → 0 ≤ l → l + m = A w 1614 → -1 ≤ e ∧ e < 160 → gJ Y X yX13_lotFor cX13_lotFor 7 (some .int) ({ frames := 0, cells := 0, slots := 0, locals := 0 } : Room) (g_pu (some (vi (sLotL (A w) g r b m l e))) K N I A R Q) gno 0 0 6 [(0, .ref x), (1, vi g), (2, vi r), (3, vi b), (4, vi e), (5, vi l)] [] K N I A R Q := by
  obtain ⟨hKx, hRw, hRs, hRt, hRa, hKw, hNw, hKs, hNs, hKt, hNt, hKa, hNa, hta⟩ := id hM
  intro f
  induction f with
  | zero => intro m l e h; omega
  | succ f ih =>
  intro m l e hf hl hm he
  refine g_iload dX13_lotFor_6 rfl ?_
  refine g_i2l dX13_lotFor_8 (by first | omega | exact m64 (hB _)) ?_
  refine g_aload_n dX13_lotFor_9 rfl rfl ?_
  refine g_get_Model_w dX13_lotFor_10 mw_1155 (by assumption) (by assumption) ?_
  refine g_sipush dX13_lotFor_13 (by decide) ?_
  refine g_laload dX13_lotFor_16 (by assumption) (by omega) (by omega) ?_
  refine g_lcmp_ge (tgt := 178) dX13_lotFor_17 dX13_lotFor_18 (by decide) (by first | omega | exact m64 (hB _)) (by first | omega | exact m64 (hB _)) (fun c_17 => ?_) (fun c_17 => ?_)
  · refine g_iload dX13_lotFor_178 rfl ?_
    exact g_iret dX13_lotFor_180 rfl (by decide) (by decide) (g_pu_i (by rw [sLotL_stop (by omega)]) _ _ _ _ _ _)
  · refine g_aload_n dX13_lotFor_21 rfl rfl ?_
    refine g_get_Model_w dX13_lotFor_22 mw_1155 (by assumption) (by assumption) ?_
    refine g_sipush dX13_lotFor_25 (by decide) ?_
    refine g_iload dX13_lotFor_28 rfl ?_
    refine g_iadd dX13_lotFor_30 ?_
    refine g_laload dX13_lotFor_31 (by assumption) (by omega) (by omega) ?_
    refine g_iload_n dX13_lotFor_32 rfl rfl ?_
    refine g_i2l dX13_lotFor_33 (by first | omega | exact m64 (hB _)) ?_
    refine g_lcmp_ne (tgt := 76) dX13_lotFor_34 dX13_lotFor_35 (by decide) (by first | omega | exact m64 (hB _)) (by first | omega | exact m64 (hB _)) (fun c_34 => ?_) (fun c_34 => ?_)
    · refine g_iconst dX13_lotFor_76 ?_
      refine g_istore dX13_lotFor_77 (by decide) ?_
      refine g_iload dX13_lotFor_79 rfl ?_
      refine g_if_eq (tgt := 172) dX13_lotFor_81 (by decide) (by first | omega | exact m64 (hB _)) (fun c_81 => ?_) (fun c_81 => ?_)
      · refine g_iinc dX13_lotFor_172 rfl (by decide) ?_
        refine g_goto (tgt := 6) dX13_lotFor_175 (by decide) ?_
        first
        | (rw [sLotL_take (by omega) (by simp [sMay, sBet]; omega)]; exact g_locs (by exact ⟨rfl, rfl, rfl, rfl, rfl, rfl, trivial⟩) (ih (m - 1) (l + 1) l (by omega) (by omega) (by omega) (by omega)))
        | (rw [sLotL_skip (by omega) (by simp [sMay, sBet]; omega)]; exact g_locs (by exact ⟨rfl, rfl, rfl, rfl, rfl, rfl, trivial⟩) (ih (m - 1) (l + 1) e (by omega) (by omega) (by omega) (by omega)))
      · refine g_iload dX13_lotFor_84 rfl ?_
        refine g_iconst dX13_lotFor_86 ?_
        refine g_icmp_eq (tgt := 168) dX13_lotFor_87 (by decide) (by first | omega | exact m64 (hB _)) (by first | omega | exact m64 (hB _)) (fun c_87 => ?_) (fun c_87 => ?_)
        · refine g_iload dX13_lotFor_168 rfl ?_
          refine g_istore dX13_lotFor_170 (by decide) ?_
          refine g_iinc dX13_lotFor_172 rfl (by decide) ?_
          refine g_goto (tgt := 6) dX13_lotFor_175 (by decide) ?_
          first
          | (rw [sLotL_take (by omega) (by simp [sMay, sBet]; omega)]; exact g_locs (by exact ⟨rfl, rfl, rfl, rfl, rfl, rfl, trivial⟩) (ih (m - 1) (l + 1) l (by omega) (by omega) (by omega) (by omega)))
          | (rw [sLotL_skip (by omega) (by simp [sMay, sBet]; omega)]; exact g_locs (by exact ⟨rfl, rfl, rfl, rfl, rfl, rfl, trivial⟩) (ih (m - 1) (l + 1) e (by omega) (by omega) (by omega) (by omega)))
        · refine g_aload_n dX13_lotFor_90 rfl rfl ?_
          refine g_get_Model_w dX13_lotFor_91 mw_1155 (by assumption) (by assumption) ?_
          refine g_sipush dX13_lotFor_94 (by decide) ?_
          refine g_iload dX13_lotFor_97 rfl ?_
          refine g_iadd dX13_lotFor_99 ?_
          refine g_laload dX13_lotFor_100 (by assumption) (by omega) (by omega) ?_
          refine g_aload_n dX13_lotFor_101 rfl rfl ?_
          refine g_get_Model_w dX13_lotFor_102 mw_1155 (by assumption) (by assumption) ?_
          refine g_sipush dX13_lotFor_105 (by decide) ?_
          refine g_iload dX13_lotFor_108 rfl ?_
          refine g_iadd dX13_lotFor_110 ?_
          refine g_laload dX13_lotFor_111 (by assumption) (by omega) (by omega) ?_
          refine g_lcmp_lt (tgt := 168) dX13_lotFor_112 dX13_lotFor_113 (by decide) (by first | omega | exact m64 (hB _)) (by first | omega | exact m64 (hB _)) (fun c_112 => ?_) (fun c_112 => ?_)
          · refine g_iload dX13_lotFor_168 rfl ?_
            refine g_istore dX13_lotFor_170 (by decide) ?_
            refine g_iinc dX13_lotFor_172 rfl (by decide) ?_
            refine g_goto (tgt := 6) dX13_lotFor_175 (by decide) ?_
            first
            | (rw [sLotL_take (by omega) (by simp [sMay, sBet]; omega)]; exact g_locs (by exact ⟨rfl, rfl, rfl, rfl, rfl, rfl, trivial⟩) (ih (m - 1) (l + 1) l (by omega) (by omega) (by omega) (by omega)))
            | (rw [sLotL_skip (by omega) (by simp [sMay, sBet]; omega)]; exact g_locs (by exact ⟨rfl, rfl, rfl, rfl, rfl, rfl, trivial⟩) (ih (m - 1) (l + 1) e (by omega) (by omega) (by omega) (by omega)))
          · refine g_aload_n dX13_lotFor_116 rfl rfl ?_
            refine g_get_Model_w dX13_lotFor_117 mw_1155 (by assumption) (by assumption) ?_
            refine g_sipush dX13_lotFor_120 (by decide) ?_
            refine g_iload dX13_lotFor_123 rfl ?_
            refine g_iadd dX13_lotFor_125 ?_
            refine g_laload dX13_lotFor_126 (by assumption) (by omega) (by omega) ?_
            refine g_aload_n dX13_lotFor_127 rfl rfl ?_
            refine g_get_Model_w dX13_lotFor_128 mw_1155 (by assumption) (by assumption) ?_
            refine g_sipush dX13_lotFor_131 (by decide) ?_
            refine g_iload dX13_lotFor_134 rfl ?_
            refine g_iadd dX13_lotFor_136 ?_
            refine g_laload dX13_lotFor_137 (by assumption) (by omega) (by omega) ?_
            refine g_lcmp_ne (tgt := 172) dX13_lotFor_138 dX13_lotFor_139 (by decide) (by first | omega | exact m64 (hB _)) (by first | omega | exact m64 (hB _)) (fun c_138 => ?_) (fun c_138 => ?_)
            · refine g_iinc dX13_lotFor_172 rfl (by decide) ?_
              refine g_goto (tgt := 6) dX13_lotFor_175 (by decide) ?_
              first
              | (rw [sLotL_take (by omega) (by simp [sMay, sBet]; omega)]; exact g_locs (by exact ⟨rfl, rfl, rfl, rfl, rfl, rfl, trivial⟩) (ih (m - 1) (l + 1) l (by omega) (by omega) (by omega) (by omega)))
              | (rw [sLotL_skip (by omega) (by simp [sMay, sBet]; omega)]; exact g_locs (by exact ⟨rfl, rfl, rfl, rfl, rfl, rfl, trivial⟩) (ih (m - 1) (l + 1) e (by omega) (by omega) (by omega) (by omega)))
            · refine g_aload_n dX13_lotFor_142 rfl rfl ?_
              refine g_get_Model_w dX13_lotFor_143 mw_1155 (by assumption) (by assumption) ?_
              refine g_sipush dX13_lotFor_146 (by decide) ?_
              refine g_iload dX13_lotFor_149 rfl ?_
              refine g_iadd dX13_lotFor_151 ?_
              refine g_laload dX13_lotFor_152 (by assumption) (by omega) (by omega) ?_
              refine g_aload_n dX13_lotFor_153 rfl rfl ?_
              refine g_get_Model_w dX13_lotFor_154 mw_1155 (by assumption) (by assumption) ?_
              refine g_sipush dX13_lotFor_157 (by decide) ?_
              refine g_iload dX13_lotFor_160 rfl ?_
              refine g_iadd dX13_lotFor_162 ?_
              refine g_laload dX13_lotFor_163 (by assumption) (by omega) (by omega) ?_
              refine g_lcmp_ge (tgt := 172) dX13_lotFor_164 dX13_lotFor_165 (by decide) (by first | omega | exact m64 (hB _)) (by first | omega | exact m64 (hB _)) (fun c_164 => ?_) (fun c_164 => ?_)
              · refine g_iinc dX13_lotFor_172 rfl (by decide) ?_
                refine g_goto (tgt := 6) dX13_lotFor_175 (by decide) ?_
                first
                | (rw [sLotL_take (by omega) (by simp [sMay, sBet]; omega)]; exact g_locs (by exact ⟨rfl, rfl, rfl, rfl, rfl, rfl, trivial⟩) (ih (m - 1) (l + 1) l (by omega) (by omega) (by omega) (by omega)))
                | (rw [sLotL_skip (by omega) (by simp [sMay, sBet]; omega)]; exact g_locs (by exact ⟨rfl, rfl, rfl, rfl, rfl, rfl, trivial⟩) (ih (m - 1) (l + 1) e (by omega) (by omega) (by omega) (by omega)))
              · refine g_iload dX13_lotFor_168 rfl ?_
                refine g_istore dX13_lotFor_170 (by decide) ?_
                refine g_iinc dX13_lotFor_172 rfl (by decide) ?_
                refine g_goto (tgt := 6) dX13_lotFor_175 (by decide) ?_
                first
                | (rw [sLotL_take (by omega) (by simp [sMay, sBet]; omega)]; exact g_locs (by exact ⟨rfl, rfl, rfl, rfl, rfl, rfl, trivial⟩) (ih (m - 1) (l + 1) l (by omega) (by omega) (by omega) (by omega)))
                | (rw [sLotL_skip (by omega) (by simp [sMay, sBet]; omega)]; exact g_locs (by exact ⟨rfl, rfl, rfl, rfl, rfl, rfl, trivial⟩) (ih (m - 1) (l + 1) e (by omega) (by omega) (by omega) (by omega)))
    · refine g_aload_n dX13_lotFor_38 rfl rfl ?_
      refine g_get_Model_w dX13_lotFor_39 mw_1155 (by assumption) (by assumption) ?_
      refine g_sipush dX13_lotFor_42 (by decide) ?_
      refine g_iload dX13_lotFor_45 rfl ?_
      refine g_iadd dX13_lotFor_47 ?_
      refine g_laload dX13_lotFor_48 (by assumption) (by omega) (by omega) ?_
      refine g_iload_n dX13_lotFor_49 rfl rfl ?_
      refine g_i2l dX13_lotFor_50 (by first | omega | exact m64 (hB _)) ?_
      refine g_lcmp_ne (tgt := 76) dX13_lotFor_51 dX13_lotFor_52 (by decide) (by first | omega | exact m64 (hB _)) (by first | omega | exact m64 (hB _)) (fun c_51 => ?_) (fun c_51 => ?_)
      · refine g_iconst dX13_lotFor_76 ?_
        refine g_istore dX13_lotFor_77 (by decide) ?_
        refine g_iload dX13_lotFor_79 rfl ?_
        refine g_if_eq (tgt := 172) dX13_lotFor_81 (by decide) (by first | omega | exact m64 (hB _)) (fun c_81 => ?_) (fun c_81 => ?_)
        · refine g_iinc dX13_lotFor_172 rfl (by decide) ?_
          refine g_goto (tgt := 6) dX13_lotFor_175 (by decide) ?_
          first
          | (rw [sLotL_take (by omega) (by simp [sMay, sBet]; omega)]; exact g_locs (by exact ⟨rfl, rfl, rfl, rfl, rfl, rfl, trivial⟩) (ih (m - 1) (l + 1) l (by omega) (by omega) (by omega) (by omega)))
          | (rw [sLotL_skip (by omega) (by simp [sMay, sBet]; omega)]; exact g_locs (by exact ⟨rfl, rfl, rfl, rfl, rfl, rfl, trivial⟩) (ih (m - 1) (l + 1) e (by omega) (by omega) (by omega) (by omega)))
        · refine g_iload dX13_lotFor_84 rfl ?_
          refine g_iconst dX13_lotFor_86 ?_
          refine g_icmp_eq (tgt := 168) dX13_lotFor_87 (by decide) (by first | omega | exact m64 (hB _)) (by first | omega | exact m64 (hB _)) (fun c_87 => ?_) (fun c_87 => ?_)
          · refine g_iload dX13_lotFor_168 rfl ?_
            refine g_istore dX13_lotFor_170 (by decide) ?_
            refine g_iinc dX13_lotFor_172 rfl (by decide) ?_
            refine g_goto (tgt := 6) dX13_lotFor_175 (by decide) ?_
            first
            | (rw [sLotL_take (by omega) (by simp [sMay, sBet]; omega)]; exact g_locs (by exact ⟨rfl, rfl, rfl, rfl, rfl, rfl, trivial⟩) (ih (m - 1) (l + 1) l (by omega) (by omega) (by omega) (by omega)))
            | (rw [sLotL_skip (by omega) (by simp [sMay, sBet]; omega)]; exact g_locs (by exact ⟨rfl, rfl, rfl, rfl, rfl, rfl, trivial⟩) (ih (m - 1) (l + 1) e (by omega) (by omega) (by omega) (by omega)))
          · refine g_aload_n dX13_lotFor_90 rfl rfl ?_
            refine g_get_Model_w dX13_lotFor_91 mw_1155 (by assumption) (by assumption) ?_
            refine g_sipush dX13_lotFor_94 (by decide) ?_
            refine g_iload dX13_lotFor_97 rfl ?_
            refine g_iadd dX13_lotFor_99 ?_
            refine g_laload dX13_lotFor_100 (by assumption) (by omega) (by omega) ?_
            refine g_aload_n dX13_lotFor_101 rfl rfl ?_
            refine g_get_Model_w dX13_lotFor_102 mw_1155 (by assumption) (by assumption) ?_
            refine g_sipush dX13_lotFor_105 (by decide) ?_
            refine g_iload dX13_lotFor_108 rfl ?_
            refine g_iadd dX13_lotFor_110 ?_
            refine g_laload dX13_lotFor_111 (by assumption) (by omega) (by omega) ?_
            refine g_lcmp_lt (tgt := 168) dX13_lotFor_112 dX13_lotFor_113 (by decide) (by first | omega | exact m64 (hB _)) (by first | omega | exact m64 (hB _)) (fun c_112 => ?_) (fun c_112 => ?_)
            · refine g_iload dX13_lotFor_168 rfl ?_
              refine g_istore dX13_lotFor_170 (by decide) ?_
              refine g_iinc dX13_lotFor_172 rfl (by decide) ?_
              refine g_goto (tgt := 6) dX13_lotFor_175 (by decide) ?_
              first
              | (rw [sLotL_take (by omega) (by simp [sMay, sBet]; omega)]; exact g_locs (by exact ⟨rfl, rfl, rfl, rfl, rfl, rfl, trivial⟩) (ih (m - 1) (l + 1) l (by omega) (by omega) (by omega) (by omega)))
              | (rw [sLotL_skip (by omega) (by simp [sMay, sBet]; omega)]; exact g_locs (by exact ⟨rfl, rfl, rfl, rfl, rfl, rfl, trivial⟩) (ih (m - 1) (l + 1) e (by omega) (by omega) (by omega) (by omega)))
            · refine g_aload_n dX13_lotFor_116 rfl rfl ?_
              refine g_get_Model_w dX13_lotFor_117 mw_1155 (by assumption) (by assumption) ?_
              refine g_sipush dX13_lotFor_120 (by decide) ?_
              refine g_iload dX13_lotFor_123 rfl ?_
              refine g_iadd dX13_lotFor_125 ?_
              refine g_laload dX13_lotFor_126 (by assumption) (by omega) (by omega) ?_
              refine g_aload_n dX13_lotFor_127 rfl rfl ?_
              refine g_get_Model_w dX13_lotFor_128 mw_1155 (by assumption) (by assumption) ?_
              refine g_sipush dX13_lotFor_131 (by decide) ?_
              refine g_iload dX13_lotFor_134 rfl ?_
              refine g_iadd dX13_lotFor_136 ?_
              refine g_laload dX13_lotFor_137 (by assumption) (by omega) (by omega) ?_
              refine g_lcmp_ne (tgt := 172) dX13_lotFor_138 dX13_lotFor_139 (by decide) (by first | omega | exact m64 (hB _)) (by first | omega | exact m64 (hB _)) (fun c_138 => ?_) (fun c_138 => ?_)
              · refine g_iinc dX13_lotFor_172 rfl (by decide) ?_
                refine g_goto (tgt := 6) dX13_lotFor_175 (by decide) ?_
                first
                | (rw [sLotL_take (by omega) (by simp [sMay, sBet]; omega)]; exact g_locs (by exact ⟨rfl, rfl, rfl, rfl, rfl, rfl, trivial⟩) (ih (m - 1) (l + 1) l (by omega) (by omega) (by omega) (by omega)))
                | (rw [sLotL_skip (by omega) (by simp [sMay, sBet]; omega)]; exact g_locs (by exact ⟨rfl, rfl, rfl, rfl, rfl, rfl, trivial⟩) (ih (m - 1) (l + 1) e (by omega) (by omega) (by omega) (by omega)))
              · refine g_aload_n dX13_lotFor_142 rfl rfl ?_
                refine g_get_Model_w dX13_lotFor_143 mw_1155 (by assumption) (by assumption) ?_
                refine g_sipush dX13_lotFor_146 (by decide) ?_
                refine g_iload dX13_lotFor_149 rfl ?_
                refine g_iadd dX13_lotFor_151 ?_
                refine g_laload dX13_lotFor_152 (by assumption) (by omega) (by omega) ?_
                refine g_aload_n dX13_lotFor_153 rfl rfl ?_
                refine g_get_Model_w dX13_lotFor_154 mw_1155 (by assumption) (by assumption) ?_
                refine g_sipush dX13_lotFor_157 (by decide) ?_
                refine g_iload dX13_lotFor_160 rfl ?_
                refine g_iadd dX13_lotFor_162 ?_
                refine g_laload dX13_lotFor_163 (by assumption) (by omega) (by omega) ?_
                refine g_lcmp_ge (tgt := 172) dX13_lotFor_164 dX13_lotFor_165 (by decide) (by first | omega | exact m64 (hB _)) (by first | omega | exact m64 (hB _)) (fun c_164 => ?_) (fun c_164 => ?_)
                · refine g_iinc dX13_lotFor_172 rfl (by decide) ?_
                  refine g_goto (tgt := 6) dX13_lotFor_175 (by decide) ?_
                  first
                  | (rw [sLotL_take (by omega) (by simp [sMay, sBet]; omega)]; exact g_locs (by exact ⟨rfl, rfl, rfl, rfl, rfl, rfl, trivial⟩) (ih (m - 1) (l + 1) l (by omega) (by omega) (by omega) (by omega)))
                  | (rw [sLotL_skip (by omega) (by simp [sMay, sBet]; omega)]; exact g_locs (by exact ⟨rfl, rfl, rfl, rfl, rfl, rfl, trivial⟩) (ih (m - 1) (l + 1) e (by omega) (by omega) (by omega) (by omega)))
                · refine g_iload dX13_lotFor_168 rfl ?_
                  refine g_istore dX13_lotFor_170 (by decide) ?_
                  refine g_iinc dX13_lotFor_172 rfl (by decide) ?_
                  refine g_goto (tgt := 6) dX13_lotFor_175 (by decide) ?_
                  first
                  | (rw [sLotL_take (by omega) (by simp [sMay, sBet]; omega)]; exact g_locs (by exact ⟨rfl, rfl, rfl, rfl, rfl, rfl, trivial⟩) (ih (m - 1) (l + 1) l (by omega) (by omega) (by omega) (by omega)))
                  | (rw [sLotL_skip (by omega) (by simp [sMay, sBet]; omega)]; exact g_locs (by exact ⟨rfl, rfl, rfl, rfl, rfl, rfl, trivial⟩) (ih (m - 1) (l + 1) e (by omega) (by omega) (by omega) (by omega)))
      · refine g_aload_n dX13_lotFor_55 rfl rfl ?_
        refine g_get_Model_w dX13_lotFor_56 mw_1155 (by assumption) (by assumption) ?_
        refine g_sipush dX13_lotFor_59 (by decide) ?_
        refine g_iload dX13_lotFor_62 rfl ?_
        refine g_iadd dX13_lotFor_64 ?_
        refine g_laload dX13_lotFor_65 (by assumption) (by omega) (by omega) ?_
        refine g_iload_n dX13_lotFor_66 rfl rfl ?_
        refine g_i2l dX13_lotFor_67 (by first | omega | exact m64 (hB _)) ?_
        refine g_lcmp_lt (tgt := 76) dX13_lotFor_68 dX13_lotFor_69 (by decide) (by first | omega | exact m64 (hB _)) (by first | omega | exact m64 (hB _)) (fun c_68 => ?_) (fun c_68 => ?_)
        · refine g_iconst dX13_lotFor_76 ?_
          refine g_istore dX13_lotFor_77 (by decide) ?_
          refine g_iload dX13_lotFor_79 rfl ?_
          refine g_if_eq (tgt := 172) dX13_lotFor_81 (by decide) (by first | omega | exact m64 (hB _)) (fun c_81 => ?_) (fun c_81 => ?_)
          · refine g_iinc dX13_lotFor_172 rfl (by decide) ?_
            refine g_goto (tgt := 6) dX13_lotFor_175 (by decide) ?_
            first
            | (rw [sLotL_take (by omega) (by simp [sMay, sBet]; omega)]; exact g_locs (by exact ⟨rfl, rfl, rfl, rfl, rfl, rfl, trivial⟩) (ih (m - 1) (l + 1) l (by omega) (by omega) (by omega) (by omega)))
            | (rw [sLotL_skip (by omega) (by simp [sMay, sBet]; omega)]; exact g_locs (by exact ⟨rfl, rfl, rfl, rfl, rfl, rfl, trivial⟩) (ih (m - 1) (l + 1) e (by omega) (by omega) (by omega) (by omega)))
          · refine g_iload dX13_lotFor_84 rfl ?_
            refine g_iconst dX13_lotFor_86 ?_
            refine g_icmp_eq (tgt := 168) dX13_lotFor_87 (by decide) (by first | omega | exact m64 (hB _)) (by first | omega | exact m64 (hB _)) (fun c_87 => ?_) (fun c_87 => ?_)
            · refine g_iload dX13_lotFor_168 rfl ?_
              refine g_istore dX13_lotFor_170 (by decide) ?_
              refine g_iinc dX13_lotFor_172 rfl (by decide) ?_
              refine g_goto (tgt := 6) dX13_lotFor_175 (by decide) ?_
              first
              | (rw [sLotL_take (by omega) (by simp [sMay, sBet]; omega)]; exact g_locs (by exact ⟨rfl, rfl, rfl, rfl, rfl, rfl, trivial⟩) (ih (m - 1) (l + 1) l (by omega) (by omega) (by omega) (by omega)))
              | (rw [sLotL_skip (by omega) (by simp [sMay, sBet]; omega)]; exact g_locs (by exact ⟨rfl, rfl, rfl, rfl, rfl, rfl, trivial⟩) (ih (m - 1) (l + 1) e (by omega) (by omega) (by omega) (by omega)))
            · refine g_aload_n dX13_lotFor_90 rfl rfl ?_
              refine g_get_Model_w dX13_lotFor_91 mw_1155 (by assumption) (by assumption) ?_
              refine g_sipush dX13_lotFor_94 (by decide) ?_
              refine g_iload dX13_lotFor_97 rfl ?_
              refine g_iadd dX13_lotFor_99 ?_
              refine g_laload dX13_lotFor_100 (by assumption) (by omega) (by omega) ?_
              refine g_aload_n dX13_lotFor_101 rfl rfl ?_
              refine g_get_Model_w dX13_lotFor_102 mw_1155 (by assumption) (by assumption) ?_
              refine g_sipush dX13_lotFor_105 (by decide) ?_
              refine g_iload dX13_lotFor_108 rfl ?_
              refine g_iadd dX13_lotFor_110 ?_
              refine g_laload dX13_lotFor_111 (by assumption) (by omega) (by omega) ?_
              refine g_lcmp_lt (tgt := 168) dX13_lotFor_112 dX13_lotFor_113 (by decide) (by first | omega | exact m64 (hB _)) (by first | omega | exact m64 (hB _)) (fun c_112 => ?_) (fun c_112 => ?_)
              · refine g_iload dX13_lotFor_168 rfl ?_
                refine g_istore dX13_lotFor_170 (by decide) ?_
                refine g_iinc dX13_lotFor_172 rfl (by decide) ?_
                refine g_goto (tgt := 6) dX13_lotFor_175 (by decide) ?_
                first
                | (rw [sLotL_take (by omega) (by simp [sMay, sBet]; omega)]; exact g_locs (by exact ⟨rfl, rfl, rfl, rfl, rfl, rfl, trivial⟩) (ih (m - 1) (l + 1) l (by omega) (by omega) (by omega) (by omega)))
                | (rw [sLotL_skip (by omega) (by simp [sMay, sBet]; omega)]; exact g_locs (by exact ⟨rfl, rfl, rfl, rfl, rfl, rfl, trivial⟩) (ih (m - 1) (l + 1) e (by omega) (by omega) (by omega) (by omega)))
              · refine g_aload_n dX13_lotFor_116 rfl rfl ?_
                refine g_get_Model_w dX13_lotFor_117 mw_1155 (by assumption) (by assumption) ?_
                refine g_sipush dX13_lotFor_120 (by decide) ?_
                refine g_iload dX13_lotFor_123 rfl ?_
                refine g_iadd dX13_lotFor_125 ?_
                refine g_laload dX13_lotFor_126 (by assumption) (by omega) (by omega) ?_
                refine g_aload_n dX13_lotFor_127 rfl rfl ?_
                refine g_get_Model_w dX13_lotFor_128 mw_1155 (by assumption) (by assumption) ?_
                refine g_sipush dX13_lotFor_131 (by decide) ?_
                refine g_iload dX13_lotFor_134 rfl ?_
                refine g_iadd dX13_lotFor_136 ?_
                refine g_laload dX13_lotFor_137 (by assumption) (by omega) (by omega) ?_
                refine g_lcmp_ne (tgt := 172) dX13_lotFor_138 dX13_lotFor_139 (by decide) (by first | omega | exact m64 (hB _)) (by first | omega | exact m64 (hB _)) (fun c_138 => ?_) (fun c_138 => ?_)
                · refine g_iinc dX13_lotFor_172 rfl (by decide) ?_
                  refine g_goto (tgt := 6) dX13_lotFor_175 (by decide) ?_
                  first
                  | (rw [sLotL_take (by omega) (by simp [sMay, sBet]; omega)]; exact g_locs (by exact ⟨rfl, rfl, rfl, rfl, rfl, rfl, trivial⟩) (ih (m - 1) (l + 1) l (by omega) (by omega) (by omega) (by omega)))
                  | (rw [sLotL_skip (by omega) (by simp [sMay, sBet]; omega)]; exact g_locs (by exact ⟨rfl, rfl, rfl, rfl, rfl, rfl, trivial⟩) (ih (m - 1) (l + 1) e (by omega) (by omega) (by omega) (by omega)))
                · refine g_aload_n dX13_lotFor_142 rfl rfl ?_
                  refine g_get_Model_w dX13_lotFor_143 mw_1155 (by assumption) (by assumption) ?_
                  refine g_sipush dX13_lotFor_146 (by decide) ?_
                  refine g_iload dX13_lotFor_149 rfl ?_
                  refine g_iadd dX13_lotFor_151 ?_
                  refine g_laload dX13_lotFor_152 (by assumption) (by omega) (by omega) ?_
                  refine g_aload_n dX13_lotFor_153 rfl rfl ?_
                  refine g_get_Model_w dX13_lotFor_154 mw_1155 (by assumption) (by assumption) ?_
                  refine g_sipush dX13_lotFor_157 (by decide) ?_
                  refine g_iload dX13_lotFor_160 rfl ?_
                  refine g_iadd dX13_lotFor_162 ?_
                  refine g_laload dX13_lotFor_163 (by assumption) (by omega) (by omega) ?_
                  refine g_lcmp_ge (tgt := 172) dX13_lotFor_164 dX13_lotFor_165 (by decide) (by first | omega | exact m64 (hB _)) (by first | omega | exact m64 (hB _)) (fun c_164 => ?_) (fun c_164 => ?_)
                  · refine g_iinc dX13_lotFor_172 rfl (by decide) ?_
                    refine g_goto (tgt := 6) dX13_lotFor_175 (by decide) ?_
                    first
                    | (rw [sLotL_take (by omega) (by simp [sMay, sBet]; omega)]; exact g_locs (by exact ⟨rfl, rfl, rfl, rfl, rfl, rfl, trivial⟩) (ih (m - 1) (l + 1) l (by omega) (by omega) (by omega) (by omega)))
                    | (rw [sLotL_skip (by omega) (by simp [sMay, sBet]; omega)]; exact g_locs (by exact ⟨rfl, rfl, rfl, rfl, rfl, rfl, trivial⟩) (ih (m - 1) (l + 1) e (by omega) (by omega) (by omega) (by omega)))
                  · refine g_iload dX13_lotFor_168 rfl ?_
                    refine g_istore dX13_lotFor_170 (by decide) ?_
                    refine g_iinc dX13_lotFor_172 rfl (by decide) ?_
                    refine g_goto (tgt := 6) dX13_lotFor_175 (by decide) ?_
                    first
                    | (rw [sLotL_take (by omega) (by simp [sMay, sBet]; omega)]; exact g_locs (by exact ⟨rfl, rfl, rfl, rfl, rfl, rfl, trivial⟩) (ih (m - 1) (l + 1) l (by omega) (by omega) (by omega) (by omega)))
                    | (rw [sLotL_skip (by omega) (by simp [sMay, sBet]; omega)]; exact g_locs (by exact ⟨rfl, rfl, rfl, rfl, rfl, rfl, trivial⟩) (ih (m - 1) (l + 1) e (by omega) (by omega) (by omega) (by omega)))
        · refine g_iconst dX13_lotFor_72 ?_
          refine g_goto (tgt := 77) dX13_lotFor_73 (by decide) ?_
          refine g_istore dX13_lotFor_77 (by decide) ?_
          refine g_iload dX13_lotFor_79 rfl ?_
          refine g_if_eq (tgt := 172) dX13_lotFor_81 (by decide) (by first | omega | exact m64 (hB _)) (fun c_81 => ?_) (fun c_81 => ?_)
          · refine g_iinc dX13_lotFor_172 rfl (by decide) ?_
            refine g_goto (tgt := 6) dX13_lotFor_175 (by decide) ?_
            first
            | (rw [sLotL_take (by omega) (by simp [sMay, sBet]; omega)]; exact g_locs (by exact ⟨rfl, rfl, rfl, rfl, rfl, rfl, trivial⟩) (ih (m - 1) (l + 1) l (by omega) (by omega) (by omega) (by omega)))
            | (rw [sLotL_skip (by omega) (by simp [sMay, sBet]; omega)]; exact g_locs (by exact ⟨rfl, rfl, rfl, rfl, rfl, rfl, trivial⟩) (ih (m - 1) (l + 1) e (by omega) (by omega) (by omega) (by omega)))
          · refine g_iload dX13_lotFor_84 rfl ?_
            refine g_iconst dX13_lotFor_86 ?_
            refine g_icmp_eq (tgt := 168) dX13_lotFor_87 (by decide) (by first | omega | exact m64 (hB _)) (by first | omega | exact m64 (hB _)) (fun c_87 => ?_) (fun c_87 => ?_)
            · refine g_iload dX13_lotFor_168 rfl ?_
              refine g_istore dX13_lotFor_170 (by decide) ?_
              refine g_iinc dX13_lotFor_172 rfl (by decide) ?_
              refine g_goto (tgt := 6) dX13_lotFor_175 (by decide) ?_
              first
              | (rw [sLotL_take (by omega) (by simp [sMay, sBet]; omega)]; exact g_locs (by exact ⟨rfl, rfl, rfl, rfl, rfl, rfl, trivial⟩) (ih (m - 1) (l + 1) l (by omega) (by omega) (by omega) (by omega)))
              | (rw [sLotL_skip (by omega) (by simp [sMay, sBet]; omega)]; exact g_locs (by exact ⟨rfl, rfl, rfl, rfl, rfl, rfl, trivial⟩) (ih (m - 1) (l + 1) e (by omega) (by omega) (by omega) (by omega)))
            · refine g_aload_n dX13_lotFor_90 rfl rfl ?_
              refine g_get_Model_w dX13_lotFor_91 mw_1155 (by assumption) (by assumption) ?_
              refine g_sipush dX13_lotFor_94 (by decide) ?_
              refine g_iload dX13_lotFor_97 rfl ?_
              refine g_iadd dX13_lotFor_99 ?_
              refine g_laload dX13_lotFor_100 (by assumption) (by omega) (by omega) ?_
              refine g_aload_n dX13_lotFor_101 rfl rfl ?_
              refine g_get_Model_w dX13_lotFor_102 mw_1155 (by assumption) (by assumption) ?_
              refine g_sipush dX13_lotFor_105 (by decide) ?_
              refine g_iload dX13_lotFor_108 rfl ?_
              refine g_iadd dX13_lotFor_110 ?_
              refine g_laload dX13_lotFor_111 (by assumption) (by omega) (by omega) ?_
              refine g_lcmp_lt (tgt := 168) dX13_lotFor_112 dX13_lotFor_113 (by decide) (by first | omega | exact m64 (hB _)) (by first | omega | exact m64 (hB _)) (fun c_112 => ?_) (fun c_112 => ?_)
              · refine g_iload dX13_lotFor_168 rfl ?_
                refine g_istore dX13_lotFor_170 (by decide) ?_
                refine g_iinc dX13_lotFor_172 rfl (by decide) ?_
                refine g_goto (tgt := 6) dX13_lotFor_175 (by decide) ?_
                first
                | (rw [sLotL_take (by omega) (by simp [sMay, sBet]; omega)]; exact g_locs (by exact ⟨rfl, rfl, rfl, rfl, rfl, rfl, trivial⟩) (ih (m - 1) (l + 1) l (by omega) (by omega) (by omega) (by omega)))
                | (rw [sLotL_skip (by omega) (by simp [sMay, sBet]; omega)]; exact g_locs (by exact ⟨rfl, rfl, rfl, rfl, rfl, rfl, trivial⟩) (ih (m - 1) (l + 1) e (by omega) (by omega) (by omega) (by omega)))
              · refine g_aload_n dX13_lotFor_116 rfl rfl ?_
                refine g_get_Model_w dX13_lotFor_117 mw_1155 (by assumption) (by assumption) ?_
                refine g_sipush dX13_lotFor_120 (by decide) ?_
                refine g_iload dX13_lotFor_123 rfl ?_
                refine g_iadd dX13_lotFor_125 ?_
                refine g_laload dX13_lotFor_126 (by assumption) (by omega) (by omega) ?_
                refine g_aload_n dX13_lotFor_127 rfl rfl ?_
                refine g_get_Model_w dX13_lotFor_128 mw_1155 (by assumption) (by assumption) ?_
                refine g_sipush dX13_lotFor_131 (by decide) ?_
                refine g_iload dX13_lotFor_134 rfl ?_
                refine g_iadd dX13_lotFor_136 ?_
                refine g_laload dX13_lotFor_137 (by assumption) (by omega) (by omega) ?_
                refine g_lcmp_ne (tgt := 172) dX13_lotFor_138 dX13_lotFor_139 (by decide) (by first | omega | exact m64 (hB _)) (by first | omega | exact m64 (hB _)) (fun c_138 => ?_) (fun c_138 => ?_)
                · refine g_iinc dX13_lotFor_172 rfl (by decide) ?_
                  refine g_goto (tgt := 6) dX13_lotFor_175 (by decide) ?_
                  first
                  | (rw [sLotL_take (by omega) (by simp [sMay, sBet]; omega)]; exact g_locs (by exact ⟨rfl, rfl, rfl, rfl, rfl, rfl, trivial⟩) (ih (m - 1) (l + 1) l (by omega) (by omega) (by omega) (by omega)))
                  | (rw [sLotL_skip (by omega) (by simp [sMay, sBet]; omega)]; exact g_locs (by exact ⟨rfl, rfl, rfl, rfl, rfl, rfl, trivial⟩) (ih (m - 1) (l + 1) e (by omega) (by omega) (by omega) (by omega)))
                · refine g_aload_n dX13_lotFor_142 rfl rfl ?_
                  refine g_get_Model_w dX13_lotFor_143 mw_1155 (by assumption) (by assumption) ?_
                  refine g_sipush dX13_lotFor_146 (by decide) ?_
                  refine g_iload dX13_lotFor_149 rfl ?_
                  refine g_iadd dX13_lotFor_151 ?_
                  refine g_laload dX13_lotFor_152 (by assumption) (by omega) (by omega) ?_
                  refine g_aload_n dX13_lotFor_153 rfl rfl ?_
                  refine g_get_Model_w dX13_lotFor_154 mw_1155 (by assumption) (by assumption) ?_
                  refine g_sipush dX13_lotFor_157 (by decide) ?_
                  refine g_iload dX13_lotFor_160 rfl ?_
                  refine g_iadd dX13_lotFor_162 ?_
                  refine g_laload dX13_lotFor_163 (by assumption) (by omega) (by omega) ?_
                  refine g_lcmp_ge (tgt := 172) dX13_lotFor_164 dX13_lotFor_165 (by decide) (by first | omega | exact m64 (hB _)) (by first | omega | exact m64 (hB _)) (fun c_164 => ?_) (fun c_164 => ?_)
                  · refine g_iinc dX13_lotFor_172 rfl (by decide) ?_
                    refine g_goto (tgt := 6) dX13_lotFor_175 (by decide) ?_
                    first
                    | (rw [sLotL_take (by omega) (by simp [sMay, sBet]; omega)]; exact g_locs (by exact ⟨rfl, rfl, rfl, rfl, rfl, rfl, trivial⟩) (ih (m - 1) (l + 1) l (by omega) (by omega) (by omega) (by omega)))
                    | (rw [sLotL_skip (by omega) (by simp [sMay, sBet]; omega)]; exact g_locs (by exact ⟨rfl, rfl, rfl, rfl, rfl, rfl, trivial⟩) (ih (m - 1) (l + 1) e (by omega) (by omega) (by omega) (by omega)))
                  · refine g_iload dX13_lotFor_168 rfl ?_
                    refine g_istore dX13_lotFor_170 (by decide) ?_
                    refine g_iinc dX13_lotFor_172 rfl (by decide) ?_
                    refine g_goto (tgt := 6) dX13_lotFor_175 (by decide) ?_
                    first
                    | (rw [sLotL_take (by omega) (by simp [sMay, sBet]; omega)]; exact g_locs (by exact ⟨rfl, rfl, rfl, rfl, rfl, rfl, trivial⟩) (ih (m - 1) (l + 1) l (by omega) (by omega) (by omega) (by omega)))
                    | (rw [sLotL_skip (by omega) (by simp [sMay, sBet]; omega)]; exact g_locs (by exact ⟨rfl, rfl, rfl, rfl, rfl, rfl, trivial⟩) (ih (m - 1) (l + 1) e (by omega) (by omega) (by omega) (by omega)))
set_option maxHeartbeats 4000000 in
set_option maxRecDepth 100000 in
theorem k_M_lotFor (Y : gEnv) {K N : Nat → Nat} {I : Nat → Nat → Int} {A : Nat → Int → Int} {R : Nat → Nat → Option Nat} {Q : Nat → Int → Option Nat} {x w sv tx ag : Nat} (hM : mS K N R x w sv tx ag) (hB : mB (A w)) (g r b : Int) (hg : (-2147483648 ≤ g ∧ g ≤ 2147483647)) (hr : (-2147483648 ≤ r ∧ r ≤ 2147483647)) (hb : (-2147483648 ≤ b ∧ b ≤ 2147483647)) (hn : 0 ≤ A w 1614 ∧ A w 1614 ≤ 160) : gC Y yX13_lotFor cX13_lotFor 7 (some .int) ({ frames := 0, cells := 0, slots := 0, locals := 0 } : Room) [.ref x, vi g, vi r, vi b] K N I A R Q (g_pu (some (vi (sLotFor (A w) g r b))) K N I A R Q) gno := by
  refine gC_of (by decide) (Nat.le_of_ble_eq_true rfl) (fun X => ?_)
  refine g_iconst dX13_lotFor_0 ?_
  refine g_istore dX13_lotFor_1 (by decide) ?_
  refine g_iconst dX13_lotFor_3 ?_
  refine g_istore dX13_lotFor_4 (by decide) ?_
  exact g_locs (by exact ⟨rfl, rfl, rfl, rfl, rfl, rfl, trivial⟩) (lp_M_lotFor hM hB g r b hg hr hb hn _ _ 0 (-1) (Nat.lt_succ_self _) (by omega) (by omega) (by omega))
set_option maxHeartbeats 4000000 in
set_option maxRecDepth 100000 in
theorem k_M_isDelivery (Y : gEnv) {K N : Nat → Nat} {I : Nat → Nat → Int} {A : Nat → Int → Int} {R : Nat → Nat → Option Nat} {Q : Nat → Int → Option Nat} {x w sv tx ag : Nat} (hM : mS K N R x w sv tx ag) (hB : mB (A w)) (d : Int) (hd : (-2147483648 ≤ d ∧ d ≤ 2147483647)) (hn : 0 ≤ A w 1615 ∧ A w 1615 ≤ 40) : gC Y yX13_isDelivery cX13_isDelivery 2 (some .boolean) ({ frames := 1, cells := 0, slots := 0, locals := 25 } : Room) [.ref x, vi d] K N I A R Q (g_pu (some (vi (if 0 ≤ d ∧ d < A w 1615 then 1 else 0))) K N I A R Q) gno := by
  refine gC_of (by decide) (Nat.le_of_ble_eq_true rfl) (fun X => ?_)
  obtain ⟨hKx, hRw, hRs, hRt, hRa, hKw, hNw, hKs, hNs, hKt, hNt, hKa, hNa, hta⟩ := id hM
  refine g_iload_n dX13_isDelivery_0 rfl rfl ?_
  refine g_i2l dX13_isDelivery_1 (by first | omega | exact m64 (hB _)) ?_
  refine g_lconst (c := 0) dX13_isDelivery_2 (by decide) ?_
  refine g_aload_n dX13_isDelivery_3 rfl rfl ?_
  refine g_get_Model_w dX13_isDelivery_4 mw_1155 (by assumption) (by assumption) ?_
  refine g_sipush dX13_isDelivery_7 (by decide) ?_
  refine g_laload dX13_isDelivery_10 (by assumption) (by omega) (by omega) ?_
  refine g_lconst (c := 1) dX13_isDelivery_11 (by decide) ?_
  refine g_lsub dX13_isDelivery_12 ?_
  refine g_callSp (k_M_in Y _ _ _ (by first | omega | exact m64 (hB _)) (by first | omega | exact m64 (hB _)) (by first | omega | exact m64 (hB _))) u_X13_in mw_1199 rfl dX13_isDelivery_13 rfl rfl ⟨Nat.le_of_ble_eq_true rfl, Nat.le_of_ble_eq_true rfl⟩ ⟨Nat.le_of_ble_eq_true rfl, Nat.le_of_ble_eq_true rfl⟩ (Nat.le_of_ble_eq_true rfl) ?_
  exact g_zret dX13_isDelivery_16 rfl (by split <;> simp) (by decide) (by decide) (g_pu_i (by split <;> split <;> omega) _ _ _ _ _ _)
set_option maxHeartbeats 4000000 in
set_option maxRecDepth 100000 in
theorem k_M_fireThrows (Y : gEnv) {K N : Nat → Nat} {I : Nat → Nat → Int} {A : Nat → Int → Int} {R : Nat → Nat → Option Nat} {Q : Nat → Int → Option Nat} {x w sv tx ag : Nat} (hM : mS K N R x w sv tx ag) (hB : mB (A w)) (a b c d : Int) (ha : (-2147483648 ≤ a ∧ a ≤ 2147483647)) (hb : (-2147483648 ≤ b ∧ b ≤ 2147483647)) (hc : (-2147483648 ≤ c ∧ c ≤ 2147483647)) (hd : (-2147483648 ≤ d ∧ d ≤ 2147483647)) : gC Y yX13_fireThrows cX13_fireThrows 5 (some .int) ({ frames := 2, cells := 0, slots := 0, locals := 45 } : Room) [.ref x, vi a, vi b, vi c, vi d] K N I A R Q (g_pu (some (vi (sFireT (A w) a b c d))) K N I A R Q) gno := by
  refine gC_of (by decide) (Nat.le_of_ble_eq_true rfl) (fun X => ?_)
  obtain ⟨hKx, hRw, hRs, hRt, hRa, hKw, hNw, hKs, hNs, hKt, hNt, hKa, hNa, hta⟩ := id hM
  refine g_iload_n dX13_fireThrows_0 rfl rfl ?_
  refine g_callSp (k_M_isKiln Y _ (by omega)) u_X13_isKiln mw_1221 rfl dX13_fireThrows_1 rfl rfl ⟨Nat.le_of_ble_eq_true rfl, Nat.le_of_ble_eq_true rfl⟩ ⟨Nat.le_of_ble_eq_true rfl, Nat.le_of_ble_eq_true rfl⟩ (Nat.le_of_ble_eq_true rfl) ?_
  refine g_if_eq (tgt := 14) dX13_fireThrows_4 (by decide) (by first | omega | exact m64 (hB _) | (split <;> omega)) (fun c_4 => ?_) (fun c_4 => ?_)
  · refine g_iconst dX13_fireThrows_14 ?_
    exact g_iret dX13_fireThrows_15 rfl (by decide) (by decide) (g_pu_i (by simp only [sFireT]; repeat (first | omega | split at * | split)) _ _ _ _ _ _)
  · refine g_iload_n dX13_fireThrows_7 rfl rfl ?_
    refine g_callSp (k_M_isGlaze Y _ (by omega)) u_X13_isGlaze mw_1195 rfl dX13_fireThrows_8 rfl rfl ⟨Nat.le_of_ble_eq_true rfl, Nat.le_of_ble_eq_true rfl⟩ ⟨Nat.le_of_ble_eq_true rfl, Nat.le_of_ble_eq_true rfl⟩ (Nat.le_of_ble_eq_true rfl) ?_
    refine g_if_ne (tgt := 16) dX13_fireThrows_11 (by decide) (by first | omega | exact m64 (hB _) | (split <;> omega)) (fun c_11 => ?_) (fun c_11 => ?_)
    · refine g_iload_n dX13_fireThrows_16 rfl rfl ?_
      refine g_i2l dX13_fireThrows_17 (by first | omega | exact m64 (hB _)) ?_
      refine g_ldc2 (c := 800) dX13_fireThrows_18 mw_1256 (by decide) ?_
      refine g_ldc2 (c := 1200) dX13_fireThrows_21 mw_1257 (by decide) ?_
      refine g_callSp (k_M_in Y _ _ _ (by first | omega | exact m64 (hB _)) (by first | omega | exact m64 (hB _)) (by first | omega | exact m64 (hB _))) u_X13_in mw_1199 rfl dX13_fireThrows_24 rfl rfl ⟨Nat.le_of_ble_eq_true rfl, Nat.le_of_ble_eq_true rfl⟩ ⟨Nat.le_of_ble_eq_true rfl, Nat.le_of_ble_eq_true rfl⟩ (Nat.le_of_ble_eq_true rfl) ?_
      refine g_if_eq (tgt := 43) dX13_fireThrows_27 (by decide) (by first | omega | exact m64 (hB _) | (split <;> omega)) (fun c_27 => ?_) (fun c_27 => ?_)
      · refine g_iconst dX13_fireThrows_43 ?_
        exact g_iret dX13_fireThrows_44 rfl (by decide) (by decide) (g_pu_i (by simp only [sFireT]; repeat (first | omega | split at * | split)) _ _ _ _ _ _)
      · refine g_iload dX13_fireThrows_30 rfl ?_
        refine g_i2l dX13_fireThrows_32 (by first | omega | exact m64 (hB _)) ?_
        refine g_lconst (c := 1) dX13_fireThrows_33 (by decide) ?_
        refine g_ldc2 (c := 100) dX13_fireThrows_34 mw_1153 (by decide) ?_
        refine g_callSp (k_M_in Y _ _ _ (by first | omega | exact m64 (hB _)) (by first | omega | exact m64 (hB _)) (by first | omega | exact m64 (hB _))) u_X13_in mw_1199 rfl dX13_fireThrows_37 rfl rfl ⟨Nat.le_of_ble_eq_true rfl, Nat.le_of_ble_eq_true rfl⟩ ⟨Nat.le_of_ble_eq_true rfl, Nat.le_of_ble_eq_true rfl⟩ (Nat.le_of_ble_eq_true rfl) ?_
        refine g_if_ne (tgt := 45) dX13_fireThrows_40 (by decide) (by first | omega | exact m64 (hB _) | (split <;> omega)) (fun c_40 => ?_) (fun c_40 => ?_)
        · refine g_aload_n dX13_fireThrows_45 rfl rfl ?_
          refine g_get_Model_w dX13_fireThrows_46 mw_1155 (by assumption) (by assumption) ?_
          refine g_sipush dX13_fireThrows_49 (by decide) ?_
          refine g_laload dX13_fireThrows_52 (by assumption) (by omega) (by omega) ?_
          refine g_ldc2 (c := 2000) dX13_fireThrows_53 mw_1258 (by decide) ?_
          refine g_lcmp_ne (tgt := 64) dX13_fireThrows_56 dX13_fireThrows_57 (by decide) (by first | omega | exact m64 (hB _) | (split <;> omega)) (by first | omega | exact m64 (hB _)) (fun c_56 => ?_) (fun c_56 => ?_)
          · refine g_iconst dX13_fireThrows_64 ?_
            exact g_iret dX13_fireThrows_65 rfl (by decide) (by decide) (g_pu_i (by simp only [sFireT]; repeat (first | omega | split at * | split)) _ _ _ _ _ _)
          · refine g_iconst dX13_fireThrows_60 ?_
            refine g_goto (tgt := 65) dX13_fireThrows_61 (by decide) ?_
            exact g_iret dX13_fireThrows_65 rfl (by decide) (by decide) (g_pu_i (by simp only [sFireT]; repeat (first | omega | split at * | split)) _ _ _ _ _ _)
        · refine g_iconst dX13_fireThrows_43 ?_
          exact g_iret dX13_fireThrows_44 rfl (by decide) (by decide) (g_pu_i (by simp only [sFireT]; repeat (first | omega | split at * | split)) _ _ _ _ _ _)
    · refine g_iconst dX13_fireThrows_14 ?_
      exact g_iret dX13_fireThrows_15 rfl (by decide) (by decide) (g_pu_i (by simp only [sFireT]; repeat (first | omega | split at * | split)) _ _ _ _ _ _)
set_option maxHeartbeats 4000000 in
set_option maxRecDepth 100000 in
theorem k_M_gradeThrows (Y : gEnv) {K N : Nat → Nat} {I : Nat → Nat → Int} {A : Nat → Int → Int} {R : Nat → Nat → Option Nat} {Q : Nat → Int → Option Nat} {x w sv tx ag : Nat} (hM : mS K N R x w sv tx ag) (hB : mB (A w)) (a : Int) (ha : (-2147483648 ≤ a ∧ a ≤ 2147483647)) : gC Y yX13_gradeThrows cX13_gradeThrows 2 (some .int) ({ frames := 1, cells := 0, slots := 0, locals := 25 } : Room) [.ref x, vi a] K N I A R Q (g_pu (some (vi (sGradeT (A w) a))) K N I A R Q) gno := by
  refine gC_of (by decide) (Nat.le_of_ble_eq_true rfl) (fun X => ?_)
  obtain ⟨hKx, hRw, hRs, hRt, hRa, hKw, hNw, hKs, hNs, hKt, hNt, hKa, hNa, hta⟩ := id hM
  refine g_iload_n dX13_gradeThrows_0 rfl rfl ?_
  refine g_i2l dX13_gradeThrows_1 (by first | omega | exact m64 (hB _)) ?_
  refine g_lconst (c := 1) dX13_gradeThrows_2 (by decide) ?_
  refine g_ldc2 (c := 10) dX13_gradeThrows_3 mw_1152 (by decide) ?_
  refine g_callSp (k_M_in Y _ _ _ (by first | omega | exact m64 (hB _)) (by first | omega | exact m64 (hB _)) (by first | omega | exact m64 (hB _))) u_X13_in mw_1199 rfl dX13_gradeThrows_6 rfl rfl ⟨Nat.le_of_ble_eq_true rfl, Nat.le_of_ble_eq_true rfl⟩ ⟨Nat.le_of_ble_eq_true rfl, Nat.le_of_ble_eq_true rfl⟩ (Nat.le_of_ble_eq_true rfl) ?_
  refine g_if_ne (tgt := 16) dX13_gradeThrows_9 (by decide) (by first | omega | exact m64 (hB _) | (split <;> omega)) (fun c_9 => ?_) (fun c_9 => ?_)
  · refine g_aload_n dX13_gradeThrows_16 rfl rfl ?_
    refine g_get_Model_w dX13_gradeThrows_17 mw_1155 (by assumption) (by assumption) ?_
    refine g_sipush dX13_gradeThrows_20 (by decide) ?_
    refine g_laload dX13_gradeThrows_23 (by assumption) (by omega) (by omega) ?_
    refine g_lconst (c := 0) dX13_gradeThrows_24 (by decide) ?_
    refine g_lcmp_ne (tgt := 33) dX13_gradeThrows_25 dX13_gradeThrows_26 (by decide) (by first | omega | exact m64 (hB _) | (split <;> omega)) (by first | omega | exact m64 (hB _)) (fun c_25 => ?_) (fun c_25 => ?_)
    · refine g_iconst dX13_gradeThrows_33 ?_
      exact g_iret dX13_gradeThrows_34 rfl (by decide) (by decide) (g_pu_i (by simp only [sGradeT]; repeat (first | omega | split at * | split)) _ _ _ _ _ _)
    · refine g_iconst dX13_gradeThrows_29 ?_
      refine g_goto (tgt := 34) dX13_gradeThrows_30 (by decide) ?_
      exact g_iret dX13_gradeThrows_34 rfl (by decide) (by decide) (g_pu_i (by simp only [sGradeT]; repeat (first | omega | split at * | split)) _ _ _ _ _ _)
  · refine g_iconst dX13_gradeThrows_12 ?_
    refine g_goto (tgt := 34) dX13_gradeThrows_13 (by decide) ?_
    exact g_iret dX13_gradeThrows_34 rfl (by decide) (by decide) (g_pu_i (by simp only [sGradeT]; repeat (first | omega | split at * | split)) _ _ _ _ _ _)
set_option maxHeartbeats 4000000 in
set_option maxRecDepth 100000 in
theorem k_M_deliverThrows (Y : gEnv) {K N : Nat → Nat} {I : Nat → Nat → Int} {A : Nat → Int → Int} {R : Nat → Nat → Option Nat} {Q : Nat → Int → Option Nat} {x w sv tx ag : Nat} (hM : mS K N R x w sv tx ag) (hB : mB (A w)) (hn : 0 ≤ A w 1614 ∧ A w 1614 ≤ 160) (a b c : Int) (ha : (-2147483648 ≤ a ∧ a ≤ 2147483647)) (hb : (-2147483648 ≤ b ∧ b ≤ 2147483647)) (hc : (-2147483648 ≤ c ∧ c ≤ 2147483647)) : gC Y yX13_deliverThrows cX13_deliverThrows 4 (some .int) ({ frames := 2, cells := 0, slots := 0, locals := 45 } : Room) [.ref x, vi a, vi b, vi c] K N I A R Q (g_pu (some (vi (sDeliverT (A w) a b c))) K N I A R Q) gno := by
  refine gC_of (by decide) (Nat.le_of_ble_eq_true rfl) (fun X => ?_)
  obtain ⟨hKx, hRw, hRs, hRt, hRa, hKw, hNw, hKs, hNs, hKt, hNt, hKa, hNa, hta⟩ := id hM
  have hlf := sLotFor_range hn.1 a b c
  refine g_iload_n dX13_deliverThrows_0 rfl rfl ?_
  refine g_callSp (k_M_isGlaze Y _ (by omega)) u_X13_isGlaze mw_1195 rfl dX13_deliverThrows_1 rfl rfl ⟨Nat.le_of_ble_eq_true rfl, Nat.le_of_ble_eq_true rfl⟩ ⟨Nat.le_of_ble_eq_true rfl, Nat.le_of_ble_eq_true rfl⟩ (Nat.le_of_ble_eq_true rfl) ?_
  refine g_if_ne (tgt := 9) dX13_deliverThrows_4 (by decide) (by first | omega | exact m64 (hB _) | (split <;> omega)) (fun c_4 => ?_) (fun c_4 => ?_)
  · refine g_iload_n dX13_deliverThrows_9 rfl rfl ?_
    refine g_callSp (k_M_isGrade Y _ (by omega)) u_X13_isGrade mw_1320 rfl dX13_deliverThrows_10 rfl rfl ⟨Nat.le_of_ble_eq_true rfl, Nat.le_of_ble_eq_true rfl⟩ ⟨Nat.le_of_ble_eq_true rfl, Nat.le_of_ble_eq_true rfl⟩ (Nat.le_of_ble_eq_true rfl) ?_
    refine g_if_eq (tgt := 23) dX13_deliverThrows_13 (by decide) (by first | omega | exact m64 (hB _) | (split <;> omega)) (fun c_13 => ?_) (fun c_13 => ?_)
    · refine g_iconst dX13_deliverThrows_23 ?_
      exact g_iret dX13_deliverThrows_24 rfl (by decide) (by decide) (g_pu_i (by simp only [sDeliverT]; repeat (first | omega | split at * | split)) _ _ _ _ _ _)
    · refine g_iload_n dX13_deliverThrows_16 rfl rfl ?_
      refine g_callSp (k_M_isMany Y _ (by omega)) u_X13_isMany mw_1323 rfl dX13_deliverThrows_17 rfl rfl ⟨Nat.le_of_ble_eq_true rfl, Nat.le_of_ble_eq_true rfl⟩ ⟨Nat.le_of_ble_eq_true rfl, Nat.le_of_ble_eq_true rfl⟩ (Nat.le_of_ble_eq_true rfl) ?_
      refine g_if_ne (tgt := 25) dX13_deliverThrows_20 (by decide) (by first | omega | exact m64 (hB _) | (split <;> omega)) (fun c_20 => ?_) (fun c_20 => ?_)
      · refine g_aload_n dX13_deliverThrows_25 rfl rfl ?_
        refine g_get_Model_w dX13_deliverThrows_26 mw_1155 (by assumption) (by assumption) ?_
        refine g_sipush dX13_deliverThrows_29 (by decide) ?_
        refine g_laload dX13_deliverThrows_32 (by assumption) (by omega) (by omega) ?_
        refine g_ldc2 (c := 40) dX13_deliverThrows_33 mw_1230 (by decide) ?_
        refine g_lcmp_eq (tgt := 51) dX13_deliverThrows_36 dX13_deliverThrows_37 (by decide) (by first | omega | exact m64 (hB _) | (split <;> omega)) (by first | omega | exact m64 (hB _)) (fun c_36 => ?_) (fun c_36 => ?_)
        · refine g_iconst dX13_deliverThrows_51 ?_
          refine g_goto (tgt := 56) dX13_deliverThrows_52 (by decide) ?_
          exact g_iret dX13_deliverThrows_56 rfl (by decide) (by decide) (g_pu_i (by simp only [sDeliverT]; repeat (first | omega | split at * | split)) _ _ _ _ _ _)
        · refine g_aload_n dX13_deliverThrows_40 rfl rfl ?_
          refine g_iload_n dX13_deliverThrows_41 rfl rfl ?_
          refine g_iload_n dX13_deliverThrows_42 rfl rfl ?_
          refine g_iload_n dX13_deliverThrows_43 rfl rfl ?_
          refine g_callVp (i := 10) rfl (gK0 (by assumption)) (g_at10 (by assumption)) (k_M_lotFor Y hM hB _ _ _ (by omega) (by omega) (by omega) (by omega)) u_X13_lotFor mw_1327 dX13_deliverThrows_44 rfl rfl ⟨Nat.le_of_ble_eq_true rfl, Nat.le_of_ble_eq_true rfl⟩ ⟨Nat.le_of_ble_eq_true rfl, Nat.le_of_ble_eq_true rfl⟩ (Nat.le_of_ble_eq_true rfl) ?_
          refine g_iconst dX13_deliverThrows_47 ?_
          refine g_icmp_ne (tgt := 55) dX13_deliverThrows_48 (by decide) (by first | omega | exact m64 (hB _)) (by first | omega | exact m64 (hB _)) (fun c_48 => ?_) (fun c_48 => ?_)
          · refine g_iconst dX13_deliverThrows_55 ?_
            exact g_iret dX13_deliverThrows_56 rfl (by decide) (by decide) (g_pu_i (by simp only [sDeliverT]; repeat (first | omega | split at * | split)) _ _ _ _ _ _)
          · refine g_iconst dX13_deliverThrows_51 ?_
            refine g_goto (tgt := 56) dX13_deliverThrows_52 (by decide) ?_
            exact g_iret dX13_deliverThrows_56 rfl (by decide) (by decide) (g_pu_i (by simp only [sDeliverT]; repeat (first | omega | split at * | split)) _ _ _ _ _ _)
      · refine g_iconst dX13_deliverThrows_23 ?_
        exact g_iret dX13_deliverThrows_24 rfl (by decide) (by decide) (g_pu_i (by simp only [sDeliverT]; repeat (first | omega | split at * | split)) _ _ _ _ _ _)
  · refine g_iconst dX13_deliverThrows_7 ?_
    exact g_iret dX13_deliverThrows_8 rfl (by decide) (by decide) (g_pu_i (by simp only [sDeliverT]; repeat (first | omega | split at * | split)) _ _ _ _ _ _)
set_option maxHeartbeats 4000000 in
set_option maxRecDepth 100000 in
theorem k_M_dropThrows (Y : gEnv) {K N : Nat → Nat} {I : Nat → Nat → Int} {A : Nat → Int → Int} {R : Nat → Nat → Option Nat} {Q : Nat → Int → Option Nat} {x w sv tx ag : Nat} (hM : mS K N R x w sv tx ag) (hB : mB (A w)) (hn : 0 ≤ A w 1614 ∧ A w 1614 ≤ 160) (a b c d : Int) (ha : (-2147483648 ≤ a ∧ a ≤ 2147483647)) (hb : (-2147483648 ≤ b ∧ b ≤ 2147483647)) (hc : (-2147483648 ≤ c ∧ c ≤ 2147483647)) (hd : (-2147483648 ≤ d ∧ d ≤ 2147483647)) : gC Y yX13_dropThrows cX13_dropThrows 6 (some .int) ({ frames := 1, cells := 0, slots := 0, locals := 25 } : Room) [.ref x, vi a, vi b, vi c, vi d] K N I A R Q (g_pu (some (vi (sDropT (A w) a b c d))) K N I A R Q) gno := by
  refine gC_of (by decide) (Nat.le_of_ble_eq_true rfl) (fun X => ?_)
  obtain ⟨hKx, hRw, hRs, hRt, hRa, hKw, hNw, hKs, hNs, hKt, hNt, hKa, hNa, hta⟩ := id hM
  have hlf := sFind_range hn.1 a b c
  refine g_aload_n dX13_dropThrows_0 rfl rfl ?_
  refine g_iload_n dX13_dropThrows_1 rfl rfl ?_
  refine g_iload_n dX13_dropThrows_2 rfl rfl ?_
  refine g_iload_n dX13_dropThrows_3 rfl rfl ?_
  refine g_callVp (i := 10) rfl (gK0 (by assumption)) (g_at10 (by assumption)) (k_M_find Y hM hB _ _ _ (by omega) (by omega) (by omega) (by omega)) u_X13_find mw_1300 dX13_dropThrows_4 rfl rfl ⟨Nat.le_of_ble_eq_true rfl, Nat.le_of_ble_eq_true rfl⟩ ⟨Nat.le_of_ble_eq_true rfl, Nat.le_of_ble_eq_true rfl⟩ (Nat.le_of_ble_eq_true rfl) ?_
  refine g_istore dX13_dropThrows_7 (by decide) ?_
  refine g_iload dX13_dropThrows_9 rfl ?_
  refine g_iconst dX13_dropThrows_11 ?_
  refine g_icmp_ne (tgt := 17) dX13_dropThrows_12 (by decide) (by first | omega | exact m64 (hB _)) (by first | omega | exact m64 (hB _)) (fun c_12 => ?_) (fun c_12 => ?_)
  · refine g_iload dX13_dropThrows_17 rfl ?_
    refine g_i2l dX13_dropThrows_19 (by first | omega | exact m64 (hB _)) ?_
    refine g_lconst (c := 0) dX13_dropThrows_20 (by decide) ?_
    refine g_aload_n dX13_dropThrows_21 rfl rfl ?_
    refine g_get_Model_w dX13_dropThrows_22 mw_1155 (by assumption) (by assumption) ?_
    refine g_bipush dX13_dropThrows_25 (by decide) ?_
    refine g_laload dX13_dropThrows_27 (by assumption) (by omega) (by omega) ?_
    refine g_callSp (k_M_in Y _ _ _ (by first | omega | exact m64 (hB _)) (by first | omega | exact m64 (hB _)) (by first | omega | exact m64 (hB _))) u_X13_in mw_1199 rfl dX13_dropThrows_28 rfl rfl ⟨Nat.le_of_ble_eq_true rfl, Nat.le_of_ble_eq_true rfl⟩ ⟨Nat.le_of_ble_eq_true rfl, Nat.le_of_ble_eq_true rfl⟩ (Nat.le_of_ble_eq_true rfl) ?_
    refine g_if_ne (tgt := 38) dX13_dropThrows_31 (by decide) (by first | omega | exact m64 (hB _) | (split <;> omega)) (fun c_31 => ?_) (fun c_31 => ?_)
    · refine g_aload_n dX13_dropThrows_38 rfl rfl ?_
      refine g_get_Model_w dX13_dropThrows_39 mw_1155 (by assumption) (by assumption) ?_
      refine g_sipush dX13_dropThrows_42 (by decide) ?_
      refine g_iload dX13_dropThrows_45 rfl ?_
      refine g_iadd dX13_dropThrows_47 ?_
      refine g_laload dX13_dropThrows_48 (by assumption) (by omega) (by omega) ?_
      refine g_lconst (c := 0) dX13_dropThrows_49 (by decide) ?_
      refine g_lcmp_ne (tgt := 58) dX13_dropThrows_50 dX13_dropThrows_51 (by decide) (by first | omega | exact m64 (hB _) | (split <;> omega)) (by first | omega | exact m64 (hB _)) (fun c_50 => ?_) (fun c_50 => ?_)
      · refine g_iconst dX13_dropThrows_58 ?_
        exact g_iret dX13_dropThrows_59 rfl (by decide) (by decide) (g_pu_i (by simp only [sDropT]; repeat (first | omega | split at * | split)) _ _ _ _ _ _)
      · refine g_iconst dX13_dropThrows_54 ?_
        refine g_goto (tgt := 59) dX13_dropThrows_55 (by decide) ?_
        exact g_iret dX13_dropThrows_59 rfl (by decide) (by decide) (g_pu_i (by simp only [sDropT]; repeat (first | omega | split at * | split)) _ _ _ _ _ _)
    · refine g_iconst dX13_dropThrows_34 ?_
      refine g_goto (tgt := 59) dX13_dropThrows_35 (by decide) ?_
      exact g_iret dX13_dropThrows_59 rfl (by decide) (by decide) (g_pu_i (by simp only [sDropT]; repeat (first | omega | split at * | split)) _ _ _ _ _ _)
  · refine g_iconst dX13_dropThrows_15 ?_
    exact g_iret dX13_dropThrows_16 rfl (by decide) (by decide) (g_pu_i (by simp only [sDropT]; repeat (first | omega | split at * | split)) _ _ _ _ _ _)
