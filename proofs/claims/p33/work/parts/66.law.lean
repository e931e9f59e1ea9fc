def lPo : gPo := fun v _ _ _ _ _ _ => v = some (vi 1)
set_option maxHeartbeats 4000000 in
set_option maxRecDepth 100000 in
theorem law_loop {Y : gEnv} {X : gCtx} {b : Nat} {Ln : Nat} {xs : Nat → Int32} (hsc : lScr X Y b Ln xs) {x s h hq sc sg ar x' s' h' hq' sc' sg' ar' : Nat} {T : Int → Int} {len : Int} : ∀ (f m : Nat) (t : Int) (k0 n0 : Nat) (K N : Nat → Nat) (I : Nat → Nat → Int) (A : Nat → Int → Int) (R : Nat → Nat → Option Nat) (Q : Nat → Int → Option Nat) (W : Int → Int) (n : Int) (SV : Int → Int), m < f → 0 ≤ t → t + m = 32 → pI K N I A R Q x s h hq sc sg ar x' s' h' hq' sc' sg' ar' W n SV T len W n SV T len → lOk W n SV T len → jOk W n SV → k0 + 4104 * m + 200 ≤ 637793 → n0 + 24686 * m + 1000 ≤ 7188320 → gJ Y X yL_law cL_law 7 (some .boolean) room_1 lPo gno k0 n0 18 [(3, vi (t)), (2, .ref x'), (1, .ref x), (0, .ref b)] [] K N I A R Q := by
  intro f
  induction f with
  | zero => intro m t k0 n0 K N I A R Q W n SV h; omega
  | succ f ih =>
  intro m t k0 n0 K N I A R Q W n SV hf ht hm hP hok hj hk hn0
  refine g_iload_n dL_law_18 rfl rfl ?_
  refine g_bipush dL_law_19 (by decide) ?_
  refine g_icmp_ge (tgt := 95) dL_law_21 (by decide) (by omega) (by omega) (fun c_21 => ?_) (fun c_21 => ?_)
  · refine g_aload_n dL_law_95 rfl rfl ?_
    refine g_aload_n dL_law_96 rfl rfl ?_
    refine g_callS (k_L_areAlike Y hP hok.2.2.2.2) u_L_areAlike mw_1025 rfl dL_law_97 rfl rfl ⟨Nat.le_of_ble_eq_true rfl, Nat.le_of_ble_eq_true rfl⟩ ⟨by show _ ≤ (637793 : Nat); dsimp only; omega, by show _ ≤ (7188320 : Nat); dsimp only; omega⟩ (Nat.le_of_ble_eq_true rfl) (fun v1 K1 N1 I1 A1 R1 Q1 hp1 => ?_)
    have e1 : v1 = some (vi 1) := hp1
    subst e1
    exact g_zret dL_law_100 rfl (Or.inr rfl) (by show _ ≤ (637793 : Nat); dsimp only; omega) (by show _ ≤ (7188320 : Nat); dsimp only; omega) rfl
  · refine g_aload_n dL_law_24 rfl rfl ?_
    refine g_iconst dL_law_25 ?_
    refine g_iload_n dL_law_26 rfl rfl ?_
    refine g_imul dL_law_27 ?_
    refine g_callCS hsc (k_cell Y hsc.2.2.1 hsc.2.2.2 (2 * t) (by omega)) u_L_cell mw_310 rfl dL_law_28 rfl rfl ⟨Nat.le_of_ble_eq_true rfl, Nat.le_of_ble_eq_true rfl⟩ ⟨by show _ ≤ (637793 : Nat); dsimp only; omega, by show _ ≤ (7188320 : Nat); dsimp only; omega⟩ (Nat.le_of_ble_eq_true rfl) (fun v1 K1 N1 I1 A1 R1 Q1 hp1 => ?_)
    obtain ⟨⟨z1, rz1, rfl⟩, rfl, rfl, rfl, rfl, rfl, rfl⟩ := hp1
    refine g_istore dL_law_31 (by decide) ?_
    refine g_aload_n dL_law_33 rfl rfl ?_
    refine g_iconst dL_law_34 ?_
    refine g_iload_n dL_law_35 rfl rfl ?_
    refine g_imul dL_law_36 ?_
    refine g_iconst dL_law_37 ?_
    refine g_iadd dL_law_38 ?_
    refine g_callCS hsc (k_cell Y hsc.2.2.1 hsc.2.2.2 (2 * t + 1) (by omega)) u_L_cell mw_310 rfl dL_law_39 rfl rfl ⟨Nat.le_of_ble_eq_true rfl, Nat.le_of_ble_eq_true rfl⟩ ⟨by show _ ≤ (637793 : Nat); dsimp only; omega, by show _ ≤ (7188320 : Nat); dsimp only; omega⟩ (Nat.le_of_ble_eq_true rfl) (fun v2 K2 N2 I2 A2 R2 Q2 hp2 => ?_)
    obtain ⟨⟨z2, rz2, rfl⟩, rfl, rfl, rfl, rfl, rfl, rfl⟩ := hp2
    refine g_istore dL_law_42 (by decide) ?_
    refine g_aload_n dL_law_44 rfl rfl ?_
    refine g_iload dL_law_45 rfl ?_
    refine g_iload dL_law_47 rfl ?_
    obtain ⟨Ga, Gb, a3, b3⟩ := hP
    obtain ⟨hN, hn⟩ := a3.hN
    obtain ⟨r', W', n', SV', ⟨hok', hj'⟩, ho⟩ := k_L_change hok hj hN hn z1 z2 rz2
    refine g_callS (k_L_ask Y a3 hok z2 z1 rz1) u_L_ask mw_789 rfl dL_law_49 rfl rfl ⟨Nat.le_of_ble_eq_true rfl, Nat.le_of_ble_eq_true rfl⟩ ⟨by show _ ≤ (637793 : Nat); dsimp only; omega, by show _ ≤ (7188320 : Nat); dsimp only; omega⟩ (Nat.le_of_ble_eq_true rfl) (fun v3 K3 N3 I3 A3 R3 Q3 hp3 => ?_)
    obtain ⟨⟨z3, rfl⟩, G3, c3, f3⟩ := hp3
    have hP3 := pI.mk b3 c3 f3
    refine g_istore dL_law_52 (by decide) ?_
    refine g_aload_n dL_law_54 rfl rfl ?_
    refine g_iload dL_law_55 rfl ?_
    refine g_iload dL_law_57 rfl ?_
    obtain ⟨G4a, G4b, a4, b4⟩ := hP3
    refine g_callS (ho Y _ _ _ _ _ _ _ _ _ _ _ _ _ _ _ a4) u_L_change mw_314 rfl dL_law_59 rfl rfl ⟨Nat.le_of_ble_eq_true rfl, Nat.le_of_ble_eq_true rfl⟩ ⟨by show _ ≤ (637793 : Nat); dsimp only; omega, by show _ ≤ (7188320 : Nat); dsimp only; omega⟩ (Nat.le_of_ble_eq_true rfl) (fun v4 K4 N4 I4 A4 R4 Q4 hp4 => ?_)
    obtain ⟨rfl, G4, c4, f4⟩ := hp4
    have hP4 := pI.mk b4 c4 f4
    refine g_aload_n dL_law_62 rfl rfl ?_
    refine g_iload dL_law_63 rfl ?_
    refine g_iload dL_law_65 rfl ?_
    obtain ⟨G5a, G5b, a5, b5⟩ := hP4.sym
    refine g_callS (ho Y _ _ _ _ _ _ _ _ _ _ _ _ _ _ _ a5) u_L_change mw_314 rfl dL_law_67 rfl rfl ⟨Nat.le_of_ble_eq_true rfl, Nat.le_of_ble_eq_true rfl⟩ ⟨by show _ ≤ (637793 : Nat); dsimp only; omega, by show _ ≤ (7188320 : Nat); dsimp only; omega⟩ (Nat.le_of_ble_eq_true rfl) (fun v5 K5 N5 I5 A5 R5 Q5 hp5 => ?_)
    obtain ⟨rfl, G5, c5, f5⟩ := hp5
    have hP5 := (pI.mk b5 c5 f5).sym
    refine g_icmp_ner (tgt := 87) dL_law_70 (by decide) ?_
    refine g_aload_n dL_law_73 rfl rfl ?_
    obtain ⟨G6a, G6b, a6, b6⟩ := hP5
    refine g_callS (k_L_isCounted Y a6 hok'.2.2.2.2) u_L_isCounted mw_971 rfl dL_law_74 rfl rfl ⟨Nat.le_of_ble_eq_true rfl, Nat.le_of_ble_eq_true rfl⟩ ⟨by show _ ≤ (637793 : Nat); dsimp only; omega, by show _ ≤ (7188320 : Nat); dsimp only; omega⟩ (Nat.le_of_ble_eq_true rfl) (fun v6 K6 N6 I6 A6 R6 Q6 hp6 => ?_)
    obtain ⟨rfl, G6, c6, f6⟩ := hp6
    have hP6 := pI.mk b6 c6 f6
    refine g_if_eq (tgt := 87) dL_law_77 (by decide) (by omega) (fun c_77 => ?_) (fun c_77 => ?_)
    · exact (show False by omega).elim
    refine g_aload_n dL_law_80 rfl rfl ?_
    obtain ⟨G7a, G7b, a7, b7⟩ := hP6
    refine g_callS (k_L_areValues Y a7 hj'.1 hok'.2.2.2.2) u_L_areValues mw_1009 rfl dL_law_81 rfl rfl ⟨Nat.le_of_ble_eq_true rfl, Nat.le_of_ble_eq_true rfl⟩ ⟨by show _ ≤ (637793 : Nat); dsimp only; omega, by show _ ≤ (7188320 : Nat); dsimp only; omega⟩ (Nat.le_of_ble_eq_true rfl) (fun v7 K7 N7 I7 A7 R7 Q7 hp7 => ?_)
    obtain ⟨rfl, G7, c7, f7⟩ := hp7
    have hP7 := pI.mk b7 c7 f7
    refine g_if_ne (tgt := 89) dL_law_84 (by decide) (by omega) (fun c_84 => ?_) (fun c_84 => ?_)
    rotate_left
    · exact (show False by omega).elim
    refine g_iinc dL_law_89 rfl (by decide) ?_
    refine g_goto (tgt := 18) dL_law_92 (by decide) ?_
    exact g_locs (by exact ⟨rfl, rfl, rfl, rfl, trivial⟩) (ih (m - 1) (t + 1) _ _ K7 N7 I7 A7 R7 Q7 W' n' SV' (by omega) (by omega) (by omega) hP7 hok' hj' (by dsimp only; omega) (by dsimp only; omega))
set_option maxHeartbeats 4000000 in
set_option maxRecDepth 100000 in
/-- THE LAW, from its entry -/
theorem law_start {Y : gEnv} {X : gCtx} {b Ln : Nat} {xs : Nat → Int32} (hsc : lScr X Y b Ln xs) : gJ Y X yL_law cL_law 7 (some .boolean) room_1 lPo gno 0 0 0 [(0, .ref b)] [] (fun _ => 0) (fun _ => 0) (fun _ _ => 0) (fun _ _ => 0) (fun _ _ => none) (fun _ _ => none) := by
  refine g_new_TileFactory dL_law_0 mw_44 mw_45 mw_20 (by decide) (by decide) (fun x K0 I0 R0 z0 hK0 hI0 hR0 => ?_)
  refine g_dup dL_law_3 rfl ?_
  have kx0 : K0 x = 10 := by rw [hK0, va_up_self]
  refine g_callI (k_A_init Y kx0 (M := fun _ => False) (fun b hb => hb.elim)) u_X12_init mw_46 dL_law_4 rfl rfl ⟨Nat.le_of_ble_eq_true rfl, Nat.le_of_ble_eq_true rfl⟩ ⟨Nat.le_of_ble_eq_true rfl, Nat.le_of_ble_eq_true rfl⟩ (Nat.le_of_ble_eq_true rfl) (fun v4 K4 N4 I4 A4 R4 Q4 h4 => ?_)
  obtain ⟨rfl, G, s, h, hq, sc, sg, ar, hI, -⟩ := h4
  refine g_astore_n dL_law_7 rfl (by decide) ?_
  refine g_new_TileFactory dL_law_8 mw_44 mw_45 mw_20 (by decide) (by decide) (fun x' K8 I8 R8 z8 hK8 hI8 hR8 => ?_)
  refine g_dup dL_law_11 rfl ?_
  have kx8 : K8 x' = 10 := by rw [hK8, va_up_self]
  have hf8 : gFm (cCel K4 Q4 G x s h hq sc sg ar) K4 N4 I4 A4 R4 Q4 K8 N4 I8 A4 R8 Q4 := fun b hb => by
    have nb : b ≠ x' := fun e => hb.1 (by rw [e]; exact z8)
    exact ⟨by rw [hK8, va_up_ne _ _ nb], rfl, fun f => by rw [hI8, g_z_ne _ _ _ nb], rfl, fun f => by rw [hR8, g_z_ne _ _ _ nb], rfl⟩
  obtain ⟨G8, hI8c, hc8⟩ := hI.loc (M1 := fun _ => False) hf8 (fun b hb => hb.elim)
  refine g_callI (k_A_init Y kx8 (M := cCel K8 Q4 G8 x s h hq sc sg ar) (fun b hb => ⟨hb.1, fun e => ((hc8 b).mp hb).1 (by rw [e]; exact z8)⟩)) u_X12_init mw_46 dL_law_12 rfl rfl ⟨Nat.le_of_ble_eq_true rfl, Nat.le_of_ble_eq_true rfl⟩ ⟨Nat.le_of_ble_eq_true rfl, Nat.le_of_ble_eq_true rfl⟩ (Nat.le_of_ble_eq_true rfl) (fun v12 K12 N12 I12 A12 R12 Q12 h12 => ?_)
  obtain ⟨rfl, G', s', h', hq', sc', sg', ar', hI12, hf12⟩ := h12
  have hP := (pI.mk hI8c hI12 hf12).sym
  refine g_astore_n dL_law_15 rfl (by decide) ?_
  refine g_iconst dL_law_16 ?_
  refine g_istore_n dL_law_17 rfl (by decide) ?_
  refine g_widen (k' := 1000) (n' := 10000) (by decide) (by decide) ?_
  exact g_locs (by exact ⟨rfl, rfl, rfl, rfl, trivial⟩) (law_loop hsc 33 32 0 1000 10000 _ _ _ _ _ _ _ _ _ (by decide) (Int.le_refl _) (by decide) hP lOk_0 jOk_0 (by decide) (by decide))
