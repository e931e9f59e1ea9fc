theorem u_L_setGlaze : gUH yL_setGlaze cL_setGlaze 6 (some .int) [(0, 12, 15, 13), (0, 12, 19, 15)] 5 := ⟨⟨mw_514, mw_513, mw_62⟩, by decide, by decide, by decide +kernel⟩
set_option maxHeartbeats 4000000 in
set_option maxRecDepth 100000 in
theorem k_L_setGlaze (Y : gEnv) {K N : Nat → Nat} {I : Nat → Nat → Int} {A : Nat → Int → Int} {R : Nat → Nat → Option Nat} {Q : Nat → Int → Option Nat} {G : Nat → Nat × Int} {M : Nat → Prop} {x s h hq sc sg ar : Nat} {W SV T : Int → Int} {n len : Int} {out : Nat} (hI : cI K N I A R Q G M x s h hq sc sg ar W n SV T len) (ho : M out ∧ K out = 14 ∧ N out = 1) (a b c : Int) {code val : Int} {W' : Int → Int} {n' : Int} {SV' T' : Int → Int} {len' : Int} (hr : 0 ≤ code ∧ code ≤ 2) (hA : gC Y yX12_setGlaze cX12_setGlaze 6 (some .int) ({ frames := 7, cells := 319, slots := 1969, locals := 184 } : Room) [.ref x, vi a, vi b, vi c] K N I A R Q (cOpP K N I A R Q M x s h hq sc sg ar code (vi val) W' n' SV' T' len') (cOpX K N I A R Q code [xIx, xAr, xSt])) : gCH Y yL_setGlaze cL_setGlaze 6 (some .int) [(0, 12, 15, 13), (0, 12, 19, 15)] ({ frames := 8, cells := 319, slots := 1969, locals := 209 } : Room) [.ref x, vi a, vi b, vi c, .ref out] K N I A R Q (lwP K N I A R Q M x s h hq sc sg ar out code (sI val) W' n' SV' T' len' W n SV T len) := by
  refine gCH_of (by decide) (Nat.le_of_ble_eq_true rfl) rfl (fun X htab => ?_)
  refine g_aload dL_setGlaze_0 rfl ?_
  refine g_iconst dL_setGlaze_2 ?_
  refine g_aload_n dL_setGlaze_3 rfl rfl ?_
  refine g_iload_n dL_setGlaze_4 rfl rfl ?_
  refine g_iload_n dL_setGlaze_5 rfl rfl ?_
  refine g_iload_n dL_setGlaze_6 rfl rfl ?_
  refine g_callVH (i := 9) rfl (gK0 hI.1.1) (g_at9 hI.1.1) hA u_X12_setGlaze mw_517 dL_setGlaze_7 rfl rfl ⟨Nat.le_of_ble_eq_true rfl, Nat.le_of_ble_eq_true rfl⟩ ⟨Nat.le_of_ble_eq_true rfl, Nat.le_of_ble_eq_true rfl⟩ (Nat.le_of_ble_eq_true rfl) (fun hfa E K1 N1 I1 A1 R1 Q1 hp => ?_) (fun v K1 N1 I1 A1 R1 Q1 hp => ?_)
  · obtain ⟨q1, q2, rfl, rfl, rfl, rfl, rfl, rfl⟩ := hp
    rw [htab]
    have hc : code = 1 ∨ code = 2 := by omega
    rcases hc with hc | hc
    · have e : E = "java/lang/IndexOutOfBoundsException" := by rw [q2, hc]; rfl
      subst e
      refine ⟨15, (hPick0 (by decide) (by decide) mw_515 fc_ix), fun q => ?_⟩
      refine g_astore dL_setGlaze_15 (by decide) ?_
      refine g_iconst dL_setGlaze_17 ?_
      exact g_iret dL_setGlaze_18 rfl (by decide) (by decide) (lwP.no ho.1 hc (by decide) hI gFm.rfl)
    · have e : E = "java/lang/IllegalArgumentException" := by rw [q2, hc]; rfl
      subst e
      refine ⟨19, (hPickS (by decide) mw_515 hfa.2.1 (hPick0 (by decide) (by decide) mw_516 fc_ar)), fun q => ?_⟩
      refine g_astore dL_setGlaze_19 (by decide) ?_
      refine g_iconst dL_setGlaze_21 ?_
      exact g_iret dL_setGlaze_22 rfl (by decide) (by decide) (lwP.no ho.1 hc (by decide) hI gFm.rfl)
  · obtain ⟨h0, hv, G1, hI1, hf1⟩ := hp
    subst hv
    have ko := (hf1 out ho.1).1.trans ho.2.1
    have no := (hf1 out ho.1).2.1.trans ho.2.2
    refine g_i2lw dL_setGlaze_10 ?_
    refine g_lastore dL_setGlaze_11 ko (by rw [no]; decide) (by rw [no]; decide) (fun A9 hA9 => ?_)
    refine g_goto (tgt := 23) dL_setGlaze_12 (by decide) ?_
    refine g_iconst dL_setGlaze_23 ?_
    exact g_iret dL_setGlaze_24 rfl (by decide) (by decide) (lwP.yes (G := G) ho.1 h0 hI1 hf1 hA9)
theorem u_L_setQuality : gUH yL_setQuality cL_setQuality 6 (some .int) [(0, 12, 15, 13), (0, 12, 19, 15)] 5 := ⟨⟨mw_619, mw_618, mw_62⟩, by decide, by decide, by decide +kernel⟩
set_option maxHeartbeats 4000000 in
set_option maxRecDepth 100000 in
theorem k_L_setQuality (Y : gEnv) {K N : Nat → Nat} {I : Nat → Nat → Int} {A : Nat → Int → Int} {R : Nat → Nat → Option Nat} {Q : Nat → Int → Option Nat} {G : Nat → Nat × Int} {M : Nat → Prop} {x s h hq sc sg ar : Nat} {W SV T : Int → Int} {n len : Int} {out : Nat} (hI : cI K N I A R Q G M x s h hq sc sg ar W n SV T len) (ho : M out ∧ K out = 14 ∧ N out = 1) (a b c : Int) {code val : Int} {W' : Int → Int} {n' : Int} {SV' T' : Int → Int} {len' : Int} (hr : 0 ≤ code ∧ code ≤ 2) (hA : gC Y yX12_setQuality cX12_setQuality 6 (some .int) ({ frames := 7, cells := 319, slots := 1969, locals := 184 } : Room) [.ref x, vi a, vi b, vi c] K N I A R Q (cOpP K N I A R Q M x s h hq sc sg ar code (vi val) W' n' SV' T' len') (cOpX K N I A R Q code [xIx, xAr, xSt])) : gCH Y yL_setQuality cL_setQuality 6 (some .int) [(0, 12, 15, 13), (0, 12, 19, 15)] ({ frames := 8, cells := 319, slots := 1969, locals := 209 } : Room) [.ref x, vi a, vi b, vi c, .ref out] K N I A R Q (lwP K N I A R Q M x s h hq sc sg ar out code (sI val) W' n' SV' T' len' W n SV T len) := by
  refine gCH_of (by decide) (Nat.le_of_ble_eq_true rfl) rfl (fun X htab => ?_)
  refine g_aload dL_setQuality_0 rfl ?_
  refine g_iconst dL_setQuality_2 ?_
  refine g_aload_n dL_setQuality_3 rfl rfl ?_
  refine g_iload_n dL_setQuality_4 rfl rfl ?_
  refine g_iload_n dL_setQuality_5 rfl rfl ?_
  refine g_iload_n dL_setQuality_6 rfl rfl ?_
  refine g_callVH (i := 9) rfl (gK0 hI.1.1) (g_at9 hI.1.1) hA u_X12_setQuality mw_620 dL_setQuality_7 rfl rfl ⟨Nat.le_of_ble_eq_true rfl, Nat.le_of_ble_eq_true rfl⟩ ⟨Nat.le_of_ble_eq_true rfl, Nat.le_of_ble_eq_true rfl⟩ (Nat.le_of_ble_eq_true rfl) (fun hfa E K1 N1 I1 A1 R1 Q1 hp => ?_) (fun v K1 N1 I1 A1 R1 Q1 hp => ?_)
  · obtain ⟨q1, q2, rfl, rfl, rfl, rfl, rfl, rfl⟩ := hp
    rw [htab]
    have hc : code = 1 ∨ code = 2 := by omega
    rcases hc with hc | hc
    · have e : E = "java/lang/IndexOutOfBoundsException" := by rw [q2, hc]; rfl
      subst e
      refine ⟨15, (hPick0 (by decide) (by decide) mw_515 fc_ix), fun q => ?_⟩
      refine g_astore dL_setQuality_15 (by decide) ?_
      refine g_iconst dL_setQuality_17 ?_
      exact g_iret dL_setQuality_18 rfl (by decide) (by decide) (lwP.no ho.1 hc (by decide) hI gFm.rfl)
    · have e : E = "java/lang/IllegalArgumentException" := by rw [q2, hc]; rfl
      subst e
      refine ⟨19, (hPickS (by decide) mw_515 hfa.2.1 (hPick0 (by decide) (by decide) mw_516 fc_ar)), fun q => ?_⟩
      refine g_astore dL_setQuality_19 (by decide) ?_
      refine g_iconst dL_setQuality_21 ?_
      exact g_iret dL_setQuality_22 rfl (by decide) (by decide) (lwP.no ho.1 hc (by decide) hI gFm.rfl)
  · obtain ⟨h0, hv, G1, hI1, hf1⟩ := hp
    subst hv
    have ko := (hf1 out ho.1).1.trans ho.2.1
    have no := (hf1 out ho.1).2.1.trans ho.2.2
    refine g_i2lw dL_setQuality_10 ?_
    refine g_lastore dL_setQuality_11 ko (by rw [no]; decide) (by rw [no]; decide) (fun A9 hA9 => ?_)
    refine g_goto (tgt := 23) dL_setQuality_12 (by decide) ?_
    refine g_iconst dL_setQuality_23 ?_
    exact g_iret dL_setQuality_24 rfl (by decide) (by decide) (lwP.yes (G := G) ho.1 h0 hI1 hf1 hA9)
theorem u_L_setPosition : gUH yL_setPosition cL_setPosition 7 (some .int) [(0, 14, 17, 13), (0, 14, 21, 15)] 6 := ⟨⟨mw_629, mw_628, mw_62⟩, by decide, by decide, by decide +kernel⟩
set_option maxHeartbeats 4000000 in
set_option maxRecDepth 100000 in
theorem k_L_setPosition (Y : gEnv) {K N : Nat → Nat} {I : Nat → Nat → Int} {A : Nat → Int → Int} {R : Nat → Nat → Option Nat} {Q : Nat → Int → Option Nat} {G : Nat → Nat × Int} {M : Nat → Prop} {x s h hq sc sg ar : Nat} {W SV T : Int → Int} {n len : Int} {out : Nat} (hI : cI K N I A R Q G M x s h hq sc sg ar W n SV T len) (ho : M out ∧ K out = 14 ∧ N out = 1) (a b c d : Int) {code val : Int} {W' : Int → Int} {n' : Int} {SV' T' : Int → Int} {len' : Int} (hr : 0 ≤ code ∧ code ≤ 2) (hA : gC Y yX12_setPosition cX12_setPosition 7 (some .int) ({ frames := 7, cells := 319, slots := 1969, locals := 184 } : Room) [.ref x, vi a, vi b, vi c, vi d] K N I A R Q (cOpP K N I A R Q M x s h hq sc sg ar code (vi val) W' n' SV' T' len') (cOpX K N I A R Q code [xIx, xAr, xSt])) : gCH Y yL_setPosition cL_setPosition 7 (some .int) [(0, 14, 17, 13), (0, 14, 21, 15)] ({ frames := 8, cells := 319, slots := 1969, locals := 210 } : Room) [.ref x, vi a, vi b, vi c, vi d, .ref out] K N I A R Q (lwP K N I A R Q M x s h hq sc sg ar out code (sI val) W' n' SV' T' len' W n SV T len) := by
  refine gCH_of (by decide) (Nat.le_of_ble_eq_true rfl) rfl (fun X htab => ?_)
  refine g_aload dL_setPosition_0 rfl ?_
  refine g_iconst dL_setPosition_2 ?_
  refine g_aload_n dL_setPosition_3 rfl rfl ?_
  refine g_iload_n dL_setPosition_4 rfl rfl ?_
  refine g_iload_n dL_setPosition_5 rfl rfl ?_
  refine g_iload_n dL_setPosition_6 rfl rfl ?_
  refine g_iload dL_setPosition_7 rfl ?_
  refine g_callVH (i := 9) rfl (gK0 hI.1.1) (g_at9 hI.1.1) hA u_X12_setPosition mw_630 dL_setPosition_9 rfl rfl ⟨Nat.le_of_ble_eq_true rfl, Nat.le_of_ble_eq_true rfl⟩ ⟨Nat.le_of_ble_eq_true rfl, Nat.le_of_ble_eq_true rfl⟩ (Nat.le_of_ble_eq_true rfl) (fun hfa E K1 N1 I1 A1 R1 Q1 hp => ?_) (fun v K1 N1 I1 A1 R1 Q1 hp => ?_)
  · obtain ⟨q1, q2, rfl, rfl, rfl, rfl, rfl, rfl⟩ := hp
    rw [htab]
    have hc : code = 1 ∨ code = 2 := by omega
    rcases hc with hc | hc
    · have e : E = "java/lang/IndexOutOfBoundsException" := by rw [q2, hc]; rfl
      subst e
      refine ⟨17, (hPick0 (by decide) (by decide) mw_515 fc_ix), fun q => ?_⟩
      refine g_astore dL_setPosition_17 (by decide) ?_
      refine g_iconst dL_setPosition_19 ?_
      exact g_iret dL_setPosition_20 rfl (by decide) (by decide) (lwP.no ho.1 hc (by decide) hI gFm.rfl)
    · have e : E = "java/lang/IllegalArgumentException" := by rw [q2, hc]; rfl
      subst e
      refine ⟨21, (hPickS (by decide) mw_515 hfa.2.1 (hPick0 (by decide) (by decide) mw_516 fc_ar)), fun q => ?_⟩
      refine g_astore dL_setPosition_21 (by decide) ?_
      refine g_iconst dL_setPosition_23 ?_
      exact g_iret dL_setPosition_24 rfl (by decide) (by decide) (lwP.no ho.1 hc (by decide) hI gFm.rfl)
  · obtain ⟨h0, hv, G1, hI1, hf1⟩ := hp
    subst hv
    have ko := (hf1 out ho.1).1.trans ho.2.1
    have no := (hf1 out ho.1).2.1.trans ho.2.2
    refine g_i2lw dL_setPosition_12 ?_
    refine g_lastore dL_setPosition_13 ko (by rw [no]; decide) (by rw [no]; decide) (fun A9 hA9 => ?_)
    refine g_goto (tgt := 25) dL_setPosition_14 (by decide) ?_
    refine g_iconst dL_setPosition_25 ?_
    exact g_iret dL_setPosition_26 rfl (by decide) (by decide) (lwP.yes (G := G) ho.1 h0 hI1 hf1 hA9)
theorem u_L_setSharpness : gUH yL_setSharpness cL_setSharpness 4 (some .int) [(0, 9, 12, 15)] 3 := ⟨⟨mw_642, mw_641, mw_62⟩, by decide, by decide, by decide +kernel⟩
set_option maxHeartbeats 4000000 in
set_option maxRecDepth 100000 in
theorem k_L_setSharpness (Y : gEnv) {K N : Nat → Nat} {I : Nat → Nat → Int} {A : Nat → Int → Int} {R : Nat → Nat → Option Nat} {Q : Nat → Int → Option Nat} {G : Nat → Nat × Int} {M : Nat → Prop} {x s h hq sc sg ar : Nat} {W SV T : Int → Int} {n len : Int} {out : Nat} (hI : cI K N I A R Q G M x s h hq sc sg ar W n SV T len) (ho : M out ∧ K out = 14 ∧ N out = 1) (a : Int) {code val : Int} {W' : Int → Int} {n' : Int} {SV' T' : Int → Int} {len' : Int} (hr : 0 ≤ code ∧ code ≤ 1) (hA : gC Y yX12_setSharpness cX12_setSharpness 3 (some .int) ({ frames := 7, cells := 318, slots := 1963, locals := 184 } : Room) [.ref x, vi a] K N I A R Q (cOpP K N I A R Q M x s h hq sc sg ar code (vi val) W' n' SV' T' len') (cOpX K N I A R Q code [xAr, xSt])) : gCH Y yL_setSharpness cL_setSharpness 4 (some .int) [(0, 9, 12, 15)] ({ frames := 8, cells := 318, slots := 1963, locals := 206 } : Room) [.ref x, vi a, .ref out] K N I A R Q (lwP K N I A R Q M x s h hq sc sg ar out code (sI val) W' n' SV' T' len' W n SV T len) := by
  refine gCH_of (by decide) (Nat.le_of_ble_eq_true rfl) rfl (fun X htab => ?_)
  refine g_aload_n dL_setSharpness_0 rfl rfl ?_
  refine g_iconst dL_setSharpness_1 ?_
  refine g_aload_n dL_setSharpness_2 rfl rfl ?_
  refine g_iload_n dL_setSharpness_3 rfl rfl ?_
  refine g_callVH (i := 9) rfl (gK0 hI.1.1) (g_at9 hI.1.1) hA u_X12_setSharpness mw_643 dL_setSharpness_4 rfl rfl ⟨Nat.le_of_ble_eq_true rfl, Nat.le_of_ble_eq_true rfl⟩ ⟨Nat.le_of_ble_eq_true rfl, Nat.le_of_ble_eq_true rfl⟩ (Nat.le_of_ble_eq_true rfl) (fun hfa E K1 N1 I1 A1 R1 Q1 hp => ?_) (fun v K1 N1 I1 A1 R1 Q1 hp => ?_)
  · obtain ⟨q1, q2, rfl, rfl, rfl, rfl, rfl, rfl⟩ := hp
    rw [htab]
    have hc : code = 1 := by omega
    have e : E = "java/lang/IllegalArgumentException" := by rw [q2, hc]; rfl
    subst e
    refine ⟨12, (hPick0 (by decide) (by decide) mw_516 fc_ar), fun q => ?_⟩
    refine g_astore_n dL_setSharpness_12 rfl (by decide) ?_
    refine g_iconst dL_setSharpness_13 ?_
    exact g_iret dL_setSharpness_14 rfl (by decide) (by decide) (lwP.no ho.1 hc (by decide) hI gFm.rfl)
  · obtain ⟨h0, hv, G1, hI1, hf1⟩ := hp
    subst hv
    have ko := (hf1 out ho.1).1.trans ho.2.1
    have no := (hf1 out ho.1).2.1.trans ho.2.2
    refine g_i2lw dL_setSharpness_7 ?_
    refine g_lastore dL_setSharpness_8 ko (by rw [no]; decide) (by rw [no]; decide) (fun A9 hA9 => ?_)
    refine g_goto (tgt := 15) dL_setSharpness_9 (by decide) ?_
    refine g_iconst dL_setSharpness_15 ?_
    exact g_iret dL_setSharpness_16 rfl (by decide) (by decide) (lwP.yes (G := G) ho.1 h0 hI1 hf1 hA9)
theorem u_L_setBoxSize : gUH yL_setBoxSize cL_setBoxSize 4 (some .int) [(0, 9, 12, 15), (0, 9, 15, 31)] 3 := ⟨⟨mw_649, mw_648, mw_62⟩, by decide, by decide, by decide +kernel⟩
set_option maxHeartbeats 4000000 in
set_option maxRecDepth 100000 in
theorem k_L_setBoxSize (Y : gEnv) {K N : Nat → Nat} {I : Nat → Nat → Int} {A : Nat → Int → Int} {R : Nat → Nat → Option Nat} {Q : Nat → Int → Option Nat} {G : Nat → Nat × Int} {M : Nat → Prop} {x s h hq sc sg ar : Nat} {W SV T : Int → Int} {n len : Int} {out : Nat} (hI : cI K N I A R Q G M x s h hq sc sg ar W n SV T len) (ho : M out ∧ K out = 14 ∧ N out = 1) (a : Int) {code val : Int} {W' : Int → Int} {n' : Int} {SV' T' : Int → Int} {len' : Int} (hr : 0 ≤ code ∧ code ≤ 2) (hA : gC Y yX12_setBoxSize cX12_setBoxSize 3 (some .int) ({ frames := 7, cells := 319, slots := 1969, locals := 184 } : Room) [.ref x, vi a] K N I A R Q (cOpP K N I A R Q M x s h hq sc sg ar code (vi val) W' n' SV' T' len') (cOpX K N I A R Q code [xAr, xSt])) : gCH Y yL_setBoxSize cL_setBoxSize 4 (some .int) [(0, 9, 12, 15), (0, 9, 15, 31)] ({ frames := 8, cells := 319, slots := 1969, locals := 206 } : Room) [.ref x, vi a, .ref out] K N I A R Q (lwP K N I A R Q M x s h hq sc sg ar out code (sI val) W' n' SV' T' len' W n SV T len) := by
  refine gCH_of (by decide) (Nat.le_of_ble_eq_true rfl) rfl (fun X htab => ?_)
  refine g_aload_n dL_setBoxSize_0 rfl rfl ?_
  refine g_iconst dL_setBoxSize_1 ?_
  refine g_aload_n dL_setBoxSize_2 rfl rfl ?_
  refine g_iload_n dL_setBoxSize_3 rfl rfl ?_
  refine g_callVH (i := 9) rfl (gK0 hI.1.1) (g_at9 hI.1.1) hA u_X12_setBoxSize mw_651 dL_setBoxSize_4 rfl rfl ⟨Nat.le_of_ble_eq_true rfl, Nat.le_of_ble_eq_true rfl⟩ ⟨Nat.le_of_ble_eq_true rfl, Nat.le_of_ble_eq_true rfl⟩ (Nat.le_of_ble_eq_true rfl) (fun hfa E K1 N1 I1 A1 R1 Q1 hp => ?_) (fun v K1 N1 I1 A1 R1 Q1 hp => ?_)
  · obtain ⟨q1, q2, rfl, rfl, rfl, rfl, rfl, rfl⟩ := hp
    rw [htab]
    have hc : code = 1 ∨ code = 2 := by omega
    rcases hc with hc | hc
    · have e : E = "java/lang/IllegalArgumentException" := by rw [q2, hc]; rfl
      subst e
      refine ⟨12, (hPick0 (by decide) (by decide) mw_516 fc_ar), fun q => ?_⟩
      refine g_astore_n dL_setBoxSize_12 rfl (by decide) ?_
      refine g_iconst dL_setBoxSize_13 ?_
      exact g_iret dL_setBoxSize_14 rfl (by decide) (by decide) (lwP.no ho.1 hc (by decide) hI gFm.rfl)
    · have e : E = "java/lang/IllegalStateException" := by rw [q2, hc]; rfl
      subst e
      refine ⟨15, (hPickS (by decide) mw_516 hfa.2.2.2 (hPick0 (by decide) (by decide) mw_650 fc_st)), fun q => ?_⟩
      refine g_astore_n dL_setBoxSize_15 rfl (by decide) ?_
      refine g_iconst dL_setBoxSize_16 ?_
      exact g_iret dL_setBoxSize_17 rfl (by decide) (by decide) (lwP.no ho.1 hc (by decide) hI gFm.rfl)
  · obtain ⟨h0, hv, G1, hI1, hf1⟩ := hp
    subst hv
    have ko := (hf1 out ho.1).1.trans ho.2.1
    have no := (hf1 out ho.1).2.1.trans ho.2.2
    refine g_i2lw dL_setBoxSize_7 ?_
    refine g_lastore dL_setBoxSize_8 ko (by rw [no]; decide) (by rw [no]; decide) (fun A9 hA9 => ?_)
    refine g_goto (tgt := 18) dL_setBoxSize_9 (by decide) ?_
    refine g_iconst dL_setBoxSize_18 ?_
    exact g_iret dL_setBoxSize_19 rfl (by decide) (by decide) (lwP.yes (G := G) ho.1 h0 hI1 hf1 hA9)
theorem u_L_fire : gUH yL_fire cL_fire 7 (some .int) [(0, 14, 17, 13), (0, 14, 21, 15), (0, 14, 25, 31)] 6 := ⟨⟨mw_684, mw_683, mw_62⟩, by decide, by decide, by decide +kernel⟩
set_option maxHeartbeats 4000000 in
set_option maxRecDepth 100000 in
theorem k_L_fire (Y : gEnv) {K N : Nat → Nat} {I : Nat → Nat → Int} {A : Nat → Int → Int} {R : Nat → Nat → Option Nat} {Q : Nat → Int → Option Nat} {G : Nat → Nat × Int} {M : Nat → Prop} {x s h hq sc sg ar : Nat} {W SV T : Int → Int} {n len : Int} {out : Nat} (hI : cI K N I A R Q G M x s h hq sc sg ar W n SV T len) (ho : M out ∧ K out = 14 ∧ N out = 1) (a b c d : Int) {code val : Int} {W' : Int → Int} {n' : Int} {SV' T' : Int → Int} {len' : Int} (hr : 0 ≤ code ∧ code ≤ 3) (hA : gC Y yX12_fire cX12_fire 5 (some .int) ({ frames := 8, cells := 320, slots := 1975, locals := 184 } : Room) [.ref x, vi a, vi b, vi c, vi d] K N I A R Q (cOpP K N I A R Q M x s h hq sc sg ar code (vi val) W' n' SV' T' len') (cOpX K N I A R Q code [xIx, xAr, xSt])) : gCH Y yL_fire cL_fire 7 (some .int) [(0, 14, 17, 13), (0, 14, 21, 15), (0, 14, 25, 31)] ({ frames := 9, cells := 320, slots := 1975, locals := 208 } : Room) [.ref x, vi a, vi b, vi c, vi d, .ref out] K N I A R Q (lwP K N I A R Q M x s h hq sc sg ar out code (sI val) W' n' SV' T' len' W n SV T len) := by
  refine gCH_of (by decide) (Nat.le_of_ble_eq_true rfl) rfl (fun X htab => ?_)
  refine g_aload dL_fire_0 rfl ?_
  refine g_iconst dL_fire_2 ?_
  refine g_aload_n dL_fire_3 rfl rfl ?_
  refine g_iload_n dL_fire_4 rfl rfl ?_
  refine g_iload_n dL_fire_5 rfl rfl ?_
  refine g_iload_n dL_fire_6 rfl rfl ?_
  refine g_iload dL_fire_7 rfl ?_
  refine g_callVH (i := 9) rfl (gK0 hI.1.1) (g_at9 hI.1.1) hA u_X12_fire mw_685 dL_fire_9 rfl rfl ⟨Nat.le_of_ble_eq_true rfl, Nat.le_of_ble_eq_true rfl⟩ ⟨Nat.le_of_ble_eq_true rfl, Nat.le_of_ble_eq_true rfl⟩ (Nat.le_of_ble_eq_true rfl) (fun hfa E K1 N1 I1 A1 R1 Q1 hp => ?_) (fun v K1 N1 I1 A1 R1 Q1 hp => ?_)
  · obtain ⟨q1, q2, rfl, rfl, rfl, rfl, rfl, rfl⟩ := hp
    rw [htab]
    have hc : code = 1 ∨ code = 2 ∨ code = 3 := by omega
    rcases hc with hc | hc | hc
    · have e : E = "java/lang/IndexOutOfBoundsException" := by rw [q2, hc]; rfl
      subst e
      refine ⟨17, (hPick0 (by decide) (by decide) mw_515 fc_ix), fun q => ?_⟩
      refine g_astore dL_fire_17 (by decide) ?_
      refine g_iconst dL_fire_19 ?_
      exact g_iret dL_fire_20 rfl (by decide) (by decide) (lwP.no ho.1 hc (by decide) hI gFm.rfl)
    · have e : E = "java/lang/IllegalArgumentException" := by rw [q2, hc]; rfl
      subst e
      refine ⟨21, (hPickS (by decide) mw_515 hfa.2.1 (hPick0 (by decide) (by decide) mw_516 fc_ar)), fun q => ?_⟩
      refine g_astore dL_fire_21 (by decide) ?_
      refine g_iconst dL_fire_23 ?_
      exact g_iret dL_fire_24 rfl (by decide) (by decide) (lwP.no ho.1 hc (by decide) hI gFm.rfl)
    · have e : E = "java/lang/IllegalStateException" := by rw [q2, hc]; rfl
      subst e
      refine ⟨25, (hPickS (by decide) mw_515 hfa.2.2.1 (hPickS (by decide) mw_516 hfa.2.2.2 (hPick0 (by decide) (by decide) mw_650 fc_st))), fun q => ?_⟩
      refine g_astore dL_fire_25 (by decide) ?_
      refine g_iconst dL_fire_27 ?_
      exact g_iret dL_fire_28 rfl (by decide) (by decide) (lwP.no ho.1 hc (by decide) hI gFm.rfl)
  · obtain ⟨h0, hv, G1, hI1, hf1⟩ := hp
    subst hv
    have ko := (hf1 out ho.1).1.trans ho.2.1
    have no := (hf1 out ho.1).2.1.trans ho.2.2
    refine g_i2lw dL_fire_12 ?_
    refine g_lastore dL_fire_13 ko (by rw [no]; decide) (by rw [no]; decide) (fun A9 hA9 => ?_)
    refine g_goto (tgt := 29) dL_fire_14 (by decide) ?_
    refine g_iconst dL_fire_29 ?_
    exact g_iret dL_fire_30 rfl (by decide) (by decide) (lwP.yes (G := G) ho.1 h0 hI1 hf1 hA9)
theorem u_L_grade : gUH yL_grade cL_grade 4 (some .int) [(0, 9, 12, 15), (0, 9, 15, 31)] 3 := ⟨⟨mw_765, mw_764, mw_62⟩, by decide, by decide, by decide +kernel⟩
set_option maxHeartbeats 4000000 in
set_option maxRecDepth 100000 in
theorem k_L_grade (Y : gEnv) {K N : Nat → Nat} {I : Nat → Nat → Int} {A : Nat → Int → Int} {R : Nat → Nat → Option Nat} {Q : Nat → Int → Option Nat} {G : Nat → Nat × Int} {M : Nat → Prop} {x s h hq sc sg ar : Nat} {W SV T : Int → Int} {n len : Int} {out : Nat} (hI : cI K N I A R Q G M x s h hq sc sg ar W n SV T len) (ho : M out ∧ K out = 14 ∧ N out = 1) (a : Int) {code val : Int} {W' : Int → Int} {n' : Int} {SV' T' : Int → Int} {len' : Int} (hr : 0 ≤ code ∧ code ≤ 2) (hA : gC Y yX12_grade cX12_grade 2 (some .int) ({ frames := 8, cells := 320, slots := 1975, locals := 184 } : Room) [.ref x, vi a] K N I A R Q (cOpP K N I A R Q M x s h hq sc sg ar code (vi val) W' n' SV' T' len') (cOpX K N I A R Q code [xAr, xSt])) : gCH Y yL_grade cL_grade 4 (some .int) [(0, 9, 12, 15), (0, 9, 15, 31)] ({ frames := 9, cells := 320, slots := 1975, locals := 205 } : Room) [.ref x, vi a, .ref out] K N I A R Q (lwP K N I A R Q M x s h hq sc sg ar out code (sI val) W' n' SV' T' len' W n SV T len) := by
  refine gCH_of (by decide) (Nat.le_of_ble_eq_true rfl) rfl (fun X htab => ?_)
  refine g_aload_n dL_grade_0 rfl rfl ?_
  refine g_iconst dL_grade_1 ?_
  refine g_aload_n dL_grade_2 rfl rfl ?_
  refine g_iload_n dL_grade_3 rfl rfl ?_
  refine g_callVH (i := 9) rfl (gK0 hI.1.1) (g_at9 hI.1.1) hA u_X12_grade mw_766 dL_grade_4 rfl rfl ⟨Nat.le_of_ble_eq_true rfl, Nat.le_of_ble_eq_true rfl⟩ ⟨Nat.le_of_ble_eq_true rfl, Nat.le_of_ble_eq_true rfl⟩ (Nat.le_of_ble_eq_true rfl) (fun hfa E K1 N1 I1 A1 R1 Q1 hp => ?_) (fun v K1 N1 I1 A1 R1 Q1 hp => ?_)
  · obtain ⟨q1, q2, rfl, rfl, rfl, rfl, rfl, rfl⟩ := hp
    rw [htab]
    have hc : code = 1 ∨ code = 2 := by omega
    rcases hc with hc | hc
    · have e : E = "java/lang/IllegalArgumentException" := by rw [q2, hc]; rfl
      subst e
      refine ⟨12, (hPick0 (by decide) (by decide) mw_516 fc_ar), fun q => ?_⟩
      refine g_astore_n dL_grade_12 rfl (by decide) ?_
      refine g_iconst dL_grade_13 ?_
      exact g_iret dL_grade_14 rfl (by decide) (by decide) (lwP.no ho.1 hc (by decide) hI gFm.rfl)
    · have e : E = "java/lang/IllegalStateException" := by rw [q2, hc]; rfl
      subst e
      refine ⟨15, (hPickS (by decide) mw_516 hfa.2.2.2 (hPick0 (by decide) (by decide) mw_650 fc_st)), fun q => ?_⟩
      refine g_astore_n dL_grade_15 rfl (by decide) ?_
      refine g_iconst dL_grade_16 ?_
      exact g_iret dL_grade_17 rfl (by decide) (by decide) (lwP.no ho.1 hc (by decide) hI gFm.rfl)
  · obtain ⟨h0, hv, G1, hI1, hf1⟩ := hp
    subst hv
    have ko := (hf1 out ho.1).1.trans ho.2.1
    have no := (hf1 out ho.1).2.1.trans ho.2.2
    refine g_i2lw dL_grade_7 ?_
    refine g_lastore dL_grade_8 ko (by rw [no]; decide) (by rw [no]; decide) (fun A9 hA9 => ?_)
    refine g_goto (tgt := 18) dL_grade_9 (by decide) ?_
    refine g_iconst dL_grade_18 ?_
    exact g_iret dL_grade_19 rfl (by decide) (by decide) (lwP.yes (G := G) ho.1 h0 hI1 hf1 hA9)
theorem u_L_deliver : gUH yL_deliver cL_deliver 6 (some .int) [(0, 12, 15, 13), (0, 12, 19, 15), (0, 12, 23, 31)] 5 := ⟨⟨mw_804, mw_803, mw_62⟩, by decide, by decide, by decide +kernel⟩
set_option maxHeartbeats 4000000 in
set_option maxRecDepth 100000 in
theorem k_L_deliver (Y : gEnv) {K N : Nat → Nat} {I : Nat → Nat → Int} {A : Nat → Int → Int} {R : Nat → Nat → Option Nat} {Q : Nat → Int → Option Nat} {G : Nat → Nat × Int} {M : Nat → Prop} {x s h hq sc sg ar : Nat} {W SV T : Int → Int} {n len : Int} {out : Nat} (hI : cI K N I A R Q G M x s h hq sc sg ar W n SV T len) (ho : M out ∧ K out = 14 ∧ N out = 1) (a b c : Int) {code val : Int} {W' : Int → Int} {n' : Int} {SV' T' : Int → Int} {len' : Int} (hr : 0 ≤ code ∧ code ≤ 3) (hA : gC Y yX12_deliver cX12_deliver 4 (some .int) ({ frames := 8, cells := 320, slots := 1975, locals := 184 } : Room) [.ref x, vi a, vi b, vi c] K N I A R Q (cOpP K N I A R Q M x s h hq sc sg ar code (vi val) W' n' SV' T' len') (cOpX K N I A R Q code [xIx, xAr, xSt])) : gCH Y yL_deliver cL_deliver 6 (some .int) [(0, 12, 15, 13), (0, 12, 19, 15), (0, 12, 23, 31)] ({ frames := 9, cells := 320, slots := 1975, locals := 207 } : Room) [.ref x, vi a, vi b, vi c, .ref out] K N I A R Q (lwP K N I A R Q M x s h hq sc sg ar out code (sI val) W' n' SV' T' len' W n SV T len) := by
  refine gCH_of (by decide) (Nat.le_of_ble_eq_true rfl) rfl (fun X htab => ?_)
  refine g_aload dL_deliver_0 rfl ?_
  refine g_iconst dL_deliver_2 ?_
  refine g_aload_n dL_deliver_3 rfl rfl ?_
  refine g_iload_n dL_deliver_4 rfl rfl ?_
  refine g_iload_n dL_deliver_5 rfl rfl ?_
  refine g_iload_n dL_deliver_6 rfl rfl ?_
  refine g_callVH (i := 9) rfl (gK0 hI.1.1) (g_at9 hI.1.1) hA u_X12_deliver mw_805 dL_deliver_7 rfl rfl ⟨Nat.le_of_ble_eq_true rfl, Nat.le_of_ble_eq_true rfl⟩ ⟨Nat.le_of_ble_eq_true rfl, Nat.le_of_ble_eq_true rfl⟩ (Nat.le_of_ble_eq_true rfl) (fun hfa E K1 N1 I1 A1 R1 Q1 hp => ?_) (fun v K1 N1 I1 A1 R1 Q1 hp => ?_)
  · obtain ⟨q1, q2, rfl, rfl, rfl, rfl, rfl, rfl⟩ := hp
    rw [htab]
    have hc : code = 1 ∨ code = 2 ∨ code = 3 := by omega
    rcases hc with hc | hc | hc
    · have e : E = "java/lang/IndexOutOfBoundsException" := by rw [q2, hc]; rfl
      subst e
      refine ⟨15, (hPick0 (by decide) (by decide) mw_515 fc_ix), fun q => ?_⟩
      refine g_astore dL_deliver_15 (by decide) ?_
      refine g_iconst dL_deliver_17 ?_
      exact g_iret dL_deliver_18 rfl (by decide) (by decide) (lwP.no ho.1 hc (by decide) hI gFm.rfl)
    · have e : E = "java/lang/IllegalArgumentException" := by rw [q2, hc]; rfl
      subst e
      refine ⟨19, (hPickS (by decide) mw_515 hfa.2.1 (hPick0 (by decide) (by decide) mw_516 fc_ar)), fun q => ?_⟩
      refine g_astore dL_deliver_19 (by decide) ?_
      refine g_iconst dL_deliver_21 ?_
      exact g_iret dL_deliver_22 rfl (by decide) (by decide) (lwP.no ho.1 hc (by decide) hI gFm.rfl)
    · have e : E = "java/lang/IllegalStateException" := by rw [q2, hc]; rfl
      subst e
      refine ⟨23, (hPickS (by decide) mw_515 hfa.2.2.1 (hPickS (by decide) mw_516 hfa.2.2.2 (hPick0 (by decide) (by decide) mw_650 fc_st))), fun q => ?_⟩
      refine g_astore dL_deliver_23 (by decide) ?_
      refine g_iconst dL_deliver_25 ?_
      exact g_iret dL_deliver_26 rfl (by decide) (by decide) (lwP.no ho.1 hc (by decide) hI gFm.rfl)
  · obtain ⟨h0, hv, G1, hI1, hf1⟩ := hp
    subst hv
    have ko := (hf1 out ho.1).1.trans ho.2.1
    have no := (hf1 out ho.1).2.1.trans ho.2.2
    refine g_i2lw dL_deliver_10 ?_
    refine g_lastore dL_deliver_11 ko (by rw [no]; decide) (by rw [no]; decide) (fun A9 hA9 => ?_)
    refine g_goto (tgt := 27) dL_deliver_12 (by decide) ?_
    refine g_iconst dL_deliver_27 ?_
    exact g_iret dL_deliver_28 rfl (by decide) (by decide) (lwP.yes (G := G) ho.1 h0 hI1 hf1 hA9)
theorem u_L_drop : gUH yL_drop cL_drop 7 (some .int) [(0, 14, 17, 13), (0, 14, 21, 15), (0, 14, 25, 31)] 6 := ⟨⟨mw_850, mw_849, mw_62⟩, by decide, by decide, by decide +kernel⟩
set_option maxHeartbeats 4000000 in
set_option maxRecDepth 100000 in
theorem k_L_drop (Y : gEnv) {K N : Nat → Nat} {I : Nat → Nat → Int} {A : Nat → Int → Int} {R : Nat → Nat → Option Nat} {Q : Nat → Int → Option Nat} {G : Nat → Nat × Int} {M : Nat → Prop} {x s h hq sc sg ar : Nat} {W SV T : Int → Int} {n len : Int} {out : Nat} (hI : cI K N I A R Q G M x s h hq sc sg ar W n SV T len) (ho : M out ∧ K out = 14 ∧ N out = 1) (a b c d : Int) {code val : Int} {W' : Int → Int} {n' : Int} {SV' T' : Int → Int} {len' : Int} (hr : 0 ≤ code ∧ code ≤ 3) (hA : gC Y yX12_drop cX12_drop 5 (some .int) ({ frames := 8, cells := 320, slots := 1975, locals := 189 } : Room) [.ref x, vi a, vi b, vi c, vi d] K N I A R Q (cOpP K N I A R Q M x s h hq sc sg ar code (vi val) W' n' SV' T' len') (cOpX K N I A R Q code [xIx, xAr, xSt])) : gCH Y yL_drop cL_drop 7 (some .int) [(0, 14, 17, 13), (0, 14, 21, 15), (0, 14, 25, 31)] ({ frames := 9, cells := 320, slots := 1975, locals := 213 } : Room) [.ref x, vi a, vi b, vi c, vi d, .ref out] K N I A R Q (lwP K N I A R Q M x s h hq sc sg ar out code (sI val) W' n' SV' T' len' W n SV T len) := by
  refine gCH_of (by decide) (Nat.le_of_ble_eq_true rfl) rfl (fun X htab => ?_)
  refine g_aload dL_drop_0 rfl ?_
  refine g_iconst dL_drop_2 ?_
  refine g_aload_n dL_drop_3 rfl rfl ?_
  refine g_iload_n dL_drop_4 rfl rfl ?_
  refine g_iload_n dL_drop_5 rfl rfl ?_
  refine g_iload_n dL_drop_6 rfl rfl ?_
  refine g_iload dL_drop_7 rfl ?_
  refine g_callVH (i := 9) rfl (gK0 hI.1.1) (g_at9 hI.1.1) hA u_X12_drop mw_851 dL_drop_9 rfl rfl ⟨Nat.le_of_ble_eq_true rfl, Nat.le_of_ble_eq_true rfl⟩ ⟨Nat.le_of_ble_eq_true rfl, Nat.le_of_ble_eq_true rfl⟩ (Nat.le_of_ble_eq_true rfl) (fun hfa E K1 N1 I1 A1 R1 Q1 hp => ?_) (fun v K1 N1 I1 A1 R1 Q1 hp => ?_)
  · obtain ⟨q1, q2, rfl, rfl, rfl, rfl, rfl, rfl⟩ := hp
    rw [htab]
    have hc : code = 1 ∨ code = 2 ∨ code = 3 := by omega
    rcases hc with hc | hc | hc
    · have e : E = "java/lang/IndexOutOfBoundsException" := by rw [q2, hc]; rfl
      subst e
      refine ⟨17, (hPick0 (by decide) (by decide) mw_515 fc_ix), fun q => ?_⟩
      refine g_astore dL_drop_17 (by decide) ?_
      refine g_iconst dL_drop_19 ?_
      exact g_iret dL_drop_20 rfl (by decide) (by decide) (lwP.no ho.1 hc (by decide) hI gFm.rfl)
    · have e : E = "java/lang/IllegalArgumentException" := by rw [q2, hc]; rfl
      subst e
      refine ⟨21, (hPickS (by decide) mw_515 hfa.2.1 (hPick0 (by decide) (by decide) mw_516 fc_ar)), fun q => ?_⟩
      refine g_astore dL_drop_21 (by decide) ?_
      refine g_iconst dL_drop_23 ?_
      exact g_iret dL_drop_24 rfl (by decide) (by decide) (lwP.no ho.1 hc (by decide) hI gFm.rfl)
    · have e : E = "java/lang/IllegalStateException" := by rw [q2, hc]; rfl
      subst e
      refine ⟨25, (hPickS (by decide) mw_515 hfa.2.2.1 (hPickS (by decide) mw_516 hfa.2.2.2 (hPick0 (by decide) (by decide) mw_650 fc_st))), fun q => ?_⟩
      refine g_astore dL_drop_25 (by decide) ?_
      refine g_iconst dL_drop_27 ?_
      exact g_iret dL_drop_28 rfl (by decide) (by decide) (lwP.no ho.1 hc (by decide) hI gFm.rfl)
  · obtain ⟨h0, hv, G1, hI1, hf1⟩ := hp
    subst hv
    have ko := (hf1 out ho.1).1.trans ho.2.1
    have no := (hf1 out ho.1).2.1.trans ho.2.2
    refine g_i2lw dL_drop_12 ?_
    refine g_lastore dL_drop_13 ko (by rw [no]; decide) (by rw [no]; decide) (fun A9 hA9 => ?_)
    refine g_goto (tgt := 29) dL_drop_14 (by decide) ?_
    refine g_iconst dL_drop_29 ?_
    exact g_iret dL_drop_30 rfl (by decide) (by decide) (lwP.yes (G := G) ho.1 h0 hI1 hf1 hA9)
theorem u_L_takeBack : gUH yL_takeBack cL_takeBack 6 (some .int) [(0, 12, 15, 13), (0, 12, 19, 15), (0, 12, 23, 31)] 5 := ⟨⟨mw_870, mw_869, mw_62⟩, by decide, by decide, by decide +kernel⟩
set_option maxHeartbeats 4000000 in
set_option maxRecDepth 100000 in
theorem k_L_takeBack (Y : gEnv) {K N : Nat → Nat} {I : Nat → Nat → Int} {A : Nat → Int → Int} {R : Nat → Nat → Option Nat} {Q : Nat → Int → Option Nat} {G : Nat → Nat × Int} {M : Nat → Prop} {x s h hq sc sg ar : Nat} {W SV T : Int → Int} {n len : Int} {out : Nat} (hI : cI K N I A R Q G M x s h hq sc sg ar W n SV T len) (ho : M out ∧ K out = 14 ∧ N out = 1) (a b c : Int) {code val : Int} {W' : Int → Int} {n' : Int} {SV' T' : Int → Int} {len' : Int} (hr : 0 ≤ code ∧ code ≤ 3) (hA : gC Y yX12_takeBack cX12_takeBack 4 (some .int) ({ frames := 8, cells := 320, slots := 1975, locals := 187 } : Room) [.ref x, vi a, vi b, vi c] K N I A R Q (cOpP K N I A R Q M x s h hq sc sg ar code (vi val) W' n' SV' T' len') (cOpX K N I A R Q code [xIx, xAr, xSt])) : gCH Y yL_takeBack cL_takeBack 6 (some .int) [(0, 12, 15, 13), (0, 12, 19, 15), (0, 12, 23, 31)] ({ frames := 9, cells := 320, slots := 1975, locals := 210 } : Room) [.ref x, vi a, vi b, vi c, .ref out] K N I A R Q (lwP K N I A R Q M x s h hq sc sg ar out code (sI val) W' n' SV' T' len' W n SV T len) := by
  refine gCH_of (by decide) (Nat.le_of_ble_eq_true rfl) rfl (fun X htab => ?_)
  refine g_aload dL_takeBack_0 rfl ?_
  refine g_iconst dL_takeBack_2 ?_
  refine g_aload_n dL_takeBack_3 rfl rfl ?_
  refine g_iload_n dL_takeBack_4 rfl rfl ?_
  refine g_iload_n dL_takeBack_5 rfl rfl ?_
  refine g_iload_n dL_takeBack_6 rfl rfl ?_
  refine g_callVH (i := 9) rfl (gK0 hI.1.1) (g_at9 hI.1.1) hA u_X12_takeBack mw_871 dL_takeBack_7 rfl rfl ⟨Nat.le_of_ble_eq_true rfl, Nat.le_of_ble_eq_true rfl⟩ ⟨Nat.le_of_ble_eq_true rfl, Nat.le_of_ble_eq_true rfl⟩ (Nat.le_of_ble_eq_true rfl) (fun hfa E K1 N1 I1 A1 R1 Q1 hp => ?_) (fun v K1 N1 I1 A1 R1 Q1 hp => ?_)
  · obtain ⟨q1, q2, rfl, rfl, rfl, rfl, rfl, rfl⟩ := hp
    rw [htab]
    have hc : code = 1 ∨ code = 2 ∨ code = 3 := by omega
    rcases hc with hc | hc | hc
    · have e : E = "java/lang/IndexOutOfBoundsException" := by rw [q2, hc]; rfl
      subst e
      refine ⟨15, (hPick0 (by decide) (by decide) mw_515 fc_ix), fun q => ?_⟩
      refine g_astore dL_takeBack_15 (by decide) ?_
      refine g_iconst dL_takeBack_17 ?_
      exact g_iret dL_takeBack_18 rfl (by decide) (by decide) (lwP.no ho.1 hc (by decide) hI gFm.rfl)
    · have e : E = "java/lang/IllegalArgumentException" := by rw [q2, hc]; rfl
      subst e
      refine ⟨19, (hPickS (by decide) mw_515 hfa.2.1 (hPick0 (by decide) (by decide) mw_516 fc_ar)), fun q => ?_⟩
      refine g_astore dL_takeBack_19 (by decide) ?_
      refine g_iconst dL_takeBack_21 ?_
      exact g_iret dL_takeBack_22 rfl (by decide) (by decide) (lwP.no ho.1 hc (by decide) hI gFm.rfl)
    · have e : E = "java/lang/IllegalStateException" := by rw [q2, hc]; rfl
      subst e
      refine ⟨23, (hPickS (by decide) mw_515 hfa.2.2.1 (hPickS (by decide) mw_516 hfa.2.2.2 (hPick0 (by decide) (by decide) mw_650 fc_st))), fun q => ?_⟩
      refine g_astore dL_takeBack_23 (by decide) ?_
      refine g_iconst dL_takeBack_25 ?_
      exact g_iret dL_takeBack_26 rfl (by decide) (by decide) (lwP.no ho.1 hc (by decide) hI gFm.rfl)
  · obtain ⟨h0, hv, G1, hI1, hf1⟩ := hp
    subst hv
    have ko := (hf1 out ho.1).1.trans ho.2.1
    have no := (hf1 out ho.1).2.1.trans ho.2.2
    refine g_i2lw dL_takeBack_10 ?_
    refine g_lastore dL_takeBack_11 ko (by rw [no]; decide) (by rw [no]; decide) (fun A9 hA9 => ?_)
    refine g_goto (tgt := 27) dL_takeBack_12 (by decide) ?_
    refine g_iconst dL_takeBack_27 ?_
    exact g_iret dL_takeBack_28 rfl (by decide) (by decide) (lwP.yes (G := G) ho.1 h0 hI1 hf1 hA9)
theorem u_L_replace : gUH yL_replace cL_replace 4 (some .int) [(0, 9, 12, 13), (0, 9, 15, 31)] 3 := ⟨⟨mw_889, mw_888, mw_62⟩, by decide, by decide, by decide +kernel⟩
set_option maxHeartbeats 4000000 in
set_option maxRecDepth 100000 in
theorem k_L_replace (Y : gEnv) {K N : Nat → Nat} {I : Nat → Nat → Int} {A : Nat → Int → Int} {R : Nat → Nat → Option Nat} {Q : Nat → Int → Option Nat} {G : Nat → Nat × Int} {M : Nat → Prop} {x s h hq sc sg ar : Nat} {W SV T : Int → Int} {n len : Int} {out : Nat} (hI : cI K N I A R Q G M x s h hq sc sg ar W n SV T len) (ho : M out ∧ K out = 14 ∧ N out = 1) (a : Int) {code val : Int} {W' : Int → Int} {n' : Int} {SV' T' : Int → Int} {len' : Int} (hr : 0 ≤ code ∧ code ≤ 2) (hA : gC Y yX12_replace cX12_replace 2 (some .int) ({ frames := 8, cells := 320, slots := 1975, locals := 187 } : Room) [.ref x, vi a] K N I A R Q (cOpP K N I A R Q M x s h hq sc sg ar code (vi val) W' n' SV' T' len') (cOpX K N I A R Q code [xIx, xSt])) : gCH Y yL_replace cL_replace 4 (some .int) [(0, 9, 12, 13), (0, 9, 15, 31)] ({ frames := 9, cells := 320, slots := 1975, locals := 208 } : Room) [.ref x, vi a, .ref out] K N I A R Q (lwP K N I A R Q M x s h hq sc sg ar out code (sI val) W' n' SV' T' len' W n SV T len) := by
  refine gCH_of (by decide) (Nat.le_of_ble_eq_true rfl) rfl (fun X htab => ?_)
  refine g_aload_n dL_replace_0 rfl rfl ?_
  refine g_iconst dL_replace_1 ?_
  refine g_aload_n dL_replace_2 rfl rfl ?_
  refine g_iload_n dL_replace_3 rfl rfl ?_
  refine g_callVH (i := 9) rfl (gK0 hI.1.1) (g_at9 hI.1.1) hA u_X12_replace mw_890 dL_replace_4 rfl rfl ⟨Nat.le_of_ble_eq_true rfl, Nat.le_of_ble_eq_true rfl⟩ ⟨Nat.le_of_ble_eq_true rfl, Nat.le_of_ble_eq_true rfl⟩ (Nat.le_of_ble_eq_true rfl) (fun hfa E K1 N1 I1 A1 R1 Q1 hp => ?_) (fun v K1 N1 I1 A1 R1 Q1 hp => ?_)
  · obtain ⟨q1, q2, rfl, rfl, rfl, rfl, rfl, rfl⟩ := hp
    rw [htab]
    have hc : code = 1 ∨ code = 2 := by omega
    rcases hc with hc | hc
    · have e : E = "java/lang/IndexOutOfBoundsException" := by rw [q2, hc]; rfl
      subst e
      refine ⟨12, (hPick0 (by decide) (by decide) mw_515 fc_ix), fun q => ?_⟩
      refine g_astore_n dL_replace_12 rfl (by decide) ?_
      refine g_iconst dL_replace_13 ?_
      exact g_iret dL_replace_14 rfl (by decide) (by decide) (lwP.no ho.1 hc (by decide) hI gFm.rfl)
    · have e : E = "java/lang/IllegalStateException" := by rw [q2, hc]; rfl
      subst e
      refine ⟨15, (hPickS (by decide) mw_515 hfa.2.2.1 (hPick0 (by decide) (by decide) mw_650 fc_st)), fun q => ?_⟩
      refine g_astore_n dL_replace_15 rfl (by decide) ?_
      refine g_iconst dL_replace_16 ?_
      exact g_iret dL_replace_17 rfl (by decide) (by decide) (lwP.no ho.1 hc (by decide) hI gFm.rfl)
  · obtain ⟨h0, hv, G1, hI1, hf1⟩ := hp
    subst hv
    have ko := (hf1 out ho.1).1.trans ho.2.1
    have no := (hf1 out ho.1).2.1.trans ho.2.2
    refine g_i2lw dL_replace_7 ?_
    refine g_lastore dL_replace_8 ko (by rw [no]; decide) (by rw [no]; decide) (fun A9 hA9 => ?_)
    refine g_goto (tgt := 18) dL_replace_9 (by decide) ?_
    refine g_iconst dL_replace_18 ?_
    exact g_iret dL_replace_19 rfl (by decide) (by decide) (lwP.yes (G := G) ho.1 h0 hI1 hf1 hA9)
theorem u_L_undo : gUH yL_undo cL_undo 3 (some .int) [(0, 8, 11, 31)] 2 := ⟨⟨mw_904, mw_903, mw_62⟩, by decide, by decide, by decide +kernel⟩
set_option maxHeartbeats 4000000 in
set_option maxRecDepth 100000 in
theorem k_L_undo (Y : gEnv) {K N : Nat → Nat} {I : Nat → Nat → Int} {A : Nat → Int → Int} {R : Nat → Nat → Option Nat} {Q : Nat → Int → Option Nat} {G : Nat → Nat × Int} {M : Nat → Prop} {x s h hq sc sg ar : Nat} {W SV T : Int → Int} {n len : Int} {out : Nat} (hI : cI K N I A R Q G M x s h hq sc sg ar W n SV T len) (ho : M out ∧ K out = 14 ∧ N out = 1)  {code val : Int} {W' : Int → Int} {n' : Int} {SV' T' : Int → Int} {len' : Int} (hr : 0 ≤ code ∧ code ≤ 1) (hA : gC Y yX12_undo cX12_undo 1 (some .int) ({ frames := 7, cells := 1, slots := 6, locals := 184 } : Room) [.ref x] K N I A R Q (cOpP K N I A R Q M x s h hq sc sg ar code (vi val) W' n' SV' T' len') (cOpX K N I A R Q code [xSt])) : gCH Y yL_undo cL_undo 3 (some .int) [(0, 8, 11, 31)] ({ frames := 8, cells := 1, slots := 6, locals := 204 } : Room) [.ref x, .ref out] K N I A R Q (lwP K N I A R Q M x s h hq sc sg ar out code (sI val) W' n' SV' T' len' W n SV T len) := by
  refine gCH_of (by decide) (Nat.le_of_ble_eq_true rfl) rfl (fun X htab => ?_)
  refine g_aload_n dL_undo_0 rfl rfl ?_
  refine g_iconst dL_undo_1 ?_
  refine g_aload_n dL_undo_2 rfl rfl ?_
  refine g_callVH (i := 9) rfl (gK0 hI.1.1) (g_at9 hI.1.1) hA u_X12_undo mw_905 dL_undo_3 rfl rfl ⟨Nat.le_of_ble_eq_true rfl, Nat.le_of_ble_eq_true rfl⟩ ⟨Nat.le_of_ble_eq_true rfl, Nat.le_of_ble_eq_true rfl⟩ (Nat.le_of_ble_eq_true rfl) (fun hfa E K1 N1 I1 A1 R1 Q1 hp => ?_) (fun v K1 N1 I1 A1 R1 Q1 hp => ?_)
  · obtain ⟨q1, q2, rfl, rfl, rfl, rfl, rfl, rfl⟩ := hp
    rw [htab]
    have hc : code = 1 := by omega
    have e : E = "java/lang/IllegalStateException" := by rw [q2, hc]; rfl
    subst e
    refine ⟨11, (hPick0 (by decide) (by decide) mw_650 fc_st), fun q => ?_⟩
    refine g_astore_n dL_undo_11 rfl (by decide) ?_
    refine g_iconst dL_undo_12 ?_
    exact g_iret dL_undo_13 rfl (by decide) (by decide) (lwP.no ho.1 hc (by decide) hI gFm.rfl)
  · obtain ⟨h0, hv, G1, hI1, hf1⟩ := hp
    subst hv
    have ko := (hf1 out ho.1).1.trans ho.2.1
    have no := (hf1 out ho.1).2.1.trans ho.2.2
    refine g_i2lw dL_undo_6 ?_
    refine g_lastore dL_undo_7 ko (by rw [no]; decide) (by rw [no]; decide) (fun A9 hA9 => ?_)
    refine g_goto (tgt := 14) dL_undo_8 (by decide) ?_
    refine g_iconst dL_undo_14 ?_
    exact g_iret dL_undo_15 rfl (by decide) (by decide) (lwP.yes (G := G) ho.1 h0 hI1 hf1 hA9)
theorem u_L_glaze : gUH yL_glaze cL_glaze 5 (some .int) [(0, 10, 13, 13), (0, 10, 17, 15)] 4 := ⟨⟨mw_915, mw_914, mw_62⟩, by decide, by decide, by decide +kernel⟩
set_option maxHeartbeats 4000000 in
set_option maxRecDepth 100000 in
theorem k_L_glaze (Y : gEnv) {K N : Nat → Nat} {I : Nat → Nat → Int} {A : Nat → Int → Int} {R : Nat → Nat → Option Nat} {Q : Nat → Int → Option Nat} {G : Nat → Nat × Int} {M : Nat → Prop} {x s h hq sc sg ar : Nat} {W SV T : Int → Int} {n len : Int} {out : Nat} (hI : cI K N I A R Q G M x s h hq sc sg ar W n SV T len) (ho : M out ∧ K out = 14 ∧ N out = 1) (a b : Int) {code val : Int} {W' : Int → Int} {n' : Int} {SV' T' : Int → Int} {len' : Int} (hr : 0 ≤ code ∧ code ≤ 2) (hA : gC Y yX12_glaze cX12_glaze 3 (some .int) ({ frames := 7, cells := 2, slots := 12, locals := 120 } : Room) [.ref x, vi a, vi b] K N I A R Q (cOpP K N I A R Q M x s h hq sc sg ar code (vi val) W' n' SV' T' len') (cOpX K N I A R Q code [xIx, xAr, xSt])) : gCH Y yL_glaze cL_glaze 5 (some .int) [(0, 10, 13, 13), (0, 10, 17, 15)] ({ frames := 8, cells := 2, slots := 12, locals := 142 } : Room) [.ref x, vi a, vi b, .ref out] K N I A R Q (lwP K N I A R Q M x s h hq sc sg ar out code (sI val) W' n' SV' T' len' W n SV T len) := by
  refine gCH_of (by decide) (Nat.le_of_ble_eq_true rfl) rfl (fun X htab => ?_)
  refine g_aload_n dL_glaze_0 rfl rfl ?_
  refine g_iconst dL_glaze_1 ?_
  refine g_aload_n dL_glaze_2 rfl rfl ?_
  refine g_iload_n dL_glaze_3 rfl rfl ?_
  refine g_iload_n dL_glaze_4 rfl rfl ?_
  refine g_callVH (i := 9) rfl (gK0 hI.1.1) (g_at9 hI.1.1) hA u_X12_glaze mw_916 dL_glaze_5 rfl rfl ⟨Nat.le_of_ble_eq_true rfl, Nat.le_of_ble_eq_true rfl⟩ ⟨Nat.le_of_ble_eq_true rfl, Nat.le_of_ble_eq_true rfl⟩ (Nat.le_of_ble_eq_true rfl) (fun hfa E K1 N1 I1 A1 R1 Q1 hp => ?_) (fun v K1 N1 I1 A1 R1 Q1 hp => ?_)
  · obtain ⟨q1, q2, rfl, rfl, rfl, rfl, rfl, rfl⟩ := hp
    rw [htab]
    have hc : code = 1 ∨ code = 2 := by omega
    rcases hc with hc | hc
    · have e : E = "java/lang/IndexOutOfBoundsException" := by rw [q2, hc]; rfl
      subst e
      refine ⟨13, (hPick0 (by decide) (by decide) mw_515 fc_ix), fun q => ?_⟩
      refine g_astore dL_glaze_13 (by decide) ?_
      refine g_iconst dL_glaze_15 ?_
      exact g_iret dL_glaze_16 rfl (by decide) (by decide) (lwP.no ho.1 hc (by decide) hI gFm.rfl)
    · have e : E = "java/lang/IllegalArgumentException" := by rw [q2, hc]; rfl
      subst e
      refine ⟨17, (hPickS (by decide) mw_515 hfa.2.1 (hPick0 (by decide) (by decide) mw_516 fc_ar)), fun q => ?_⟩
      refine g_astore dL_glaze_17 (by decide) ?_
      refine g_iconst dL_glaze_19 ?_
      exact g_iret dL_glaze_20 rfl (by decide) (by decide) (lwP.no ho.1 hc (by decide) hI gFm.rfl)
  · obtain ⟨h0, hv, G1, hI1, hf1⟩ := hp
    subst hv
    have ko := (hf1 out ho.1).1.trans ho.2.1
    have no := (hf1 out ho.1).2.1.trans ho.2.2
    refine g_i2lw dL_glaze_8 ?_
    refine g_lastore dL_glaze_9 ko (by rw [no]; decide) (by rw [no]; decide) (fun A9 hA9 => ?_)
    refine g_goto (tgt := 21) dL_glaze_10 (by decide) ?_
    refine g_iconst dL_glaze_21 ?_
    exact g_iret dL_glaze_22 rfl (by decide) (by decide) (lwP.yes (G := G) ho.1 h0 hI1 hf1 hA9)
theorem u_L_position : gUH yL_position cL_position 6 (some .int) [(0, 12, 15, 13), (0, 12, 19, 15)] 5 := ⟨⟨mw_935, mw_934, mw_62⟩, by decide, by decide, by decide +kernel⟩
set_option maxHeartbeats 4000000 in
set_option maxRecDepth 100000 in
theorem k_L_position (Y : gEnv) {K N : Nat → Nat} {I : Nat → Nat → Int} {A : Nat → Int → Int} {R : Nat → Nat → Option Nat} {Q : Nat → Int → Option Nat} {G : Nat → Nat × Int} {M : Nat → Prop} {x s h hq sc sg ar : Nat} {W SV T : Int → Int} {n len : Int} {out : Nat} (hI : cI K N I A R Q G M x s h hq sc sg ar W n SV T len) (ho : M out ∧ K out = 14 ∧ N out = 1) (a b c : Int) {code val : Int} {W' : Int → Int} {n' : Int} {SV' T' : Int → Int} {len' : Int} (hr : 0 ≤ code ∧ code ≤ 2) (hA : gC Y yX12_position cX12_position 4 (some .int) ({ frames := 7, cells := 2, slots := 12, locals := 120 } : Room) [.ref x, vi a, vi b, vi c] K N I A R Q (cOpP K N I A R Q M x s h hq sc sg ar code (vi val) W' n' SV' T' len') (cOpX K N I A R Q code [xIx, xAr, xSt])) : gCH Y yL_position cL_position 6 (some .int) [(0, 12, 15, 13), (0, 12, 19, 15)] ({ frames := 8, cells := 2, slots := 12, locals := 143 } : Room) [.ref x, vi a, vi b, vi c, .ref out] K N I A R Q (lwP K N I A R Q M x s h hq sc sg ar out code (sI val) W' n' SV' T' len' W n SV T len) := by
  refine gCH_of (by decide) (Nat.le_of_ble_eq_true rfl) rfl (fun X htab => ?_)
  refine g_aload dL_position_0 rfl ?_
  refine g_iconst dL_position_2 ?_
  refine g_aload_n dL_position_3 rfl rfl ?_
  refine g_iload_n dL_position_4 rfl rfl ?_
  refine g_iload_n dL_position_5 rfl rfl ?_
  refine g_iload_n dL_position_6 rfl rfl ?_
  refine g_callVH (i := 9) rfl (gK0 hI.1.1) (g_at9 hI.1.1) hA u_X12_position mw_936 dL_position_7 rfl rfl ⟨Nat.le_of_ble_eq_true rfl, Nat.le_of_ble_eq_true rfl⟩ ⟨Nat.le_of_ble_eq_true rfl, Nat.le_of_ble_eq_true rfl⟩ (Nat.le_of_ble_eq_true rfl) (fun hfa E K1 N1 I1 A1 R1 Q1 hp => ?_) (fun v K1 N1 I1 A1 R1 Q1 hp => ?_)
  · obtain ⟨q1, q2, rfl, rfl, rfl, rfl, rfl, rfl⟩ := hp
    rw [htab]
    have hc : code = 1 ∨ code = 2 := by omega
    rcases hc with hc | hc
    · have e : E = "java/lang/IndexOutOfBoundsException" := by rw [q2, hc]; rfl
      subst e
      refine ⟨15, (hPick0 (by decide) (by decide) mw_515 fc_ix), fun q => ?_⟩
      refine g_astore dL_position_15 (by decide) ?_
      refine g_iconst dL_position_17 ?_
      exact g_iret dL_position_18 rfl (by decide) (by decide) (lwP.no ho.1 hc (by decide) hI gFm.rfl)
    · have e : E = "java/lang/IllegalArgumentException" := by rw [q2, hc]; rfl
      subst e
      refine ⟨19, (hPickS (by decide) mw_515 hfa.2.1 (hPick0 (by decide) (by decide) mw_516 fc_ar)), fun q => ?_⟩
      refine g_astore dL_position_19 (by decide) ?_
      refine g_iconst dL_position_21 ?_
      exact g_iret dL_position_22 rfl (by decide) (by decide) (lwP.no ho.1 hc (by decide) hI gFm.rfl)
  · obtain ⟨h0, hv, G1, hI1, hf1⟩ := hp
    subst hv
    have ko := (hf1 out ho.1).1.trans ho.2.1
    have no := (hf1 out ho.1).2.1.trans ho.2.2
    refine g_i2lw dL_position_10 ?_
    refine g_lastore dL_position_11 ko (by rw [no]; decide) (by rw [no]; decide) (fun A9 hA9 => ?_)
    refine g_goto (tgt := 23) dL_position_12 (by decide) ?_
    refine g_iconst dL_position_23 ?_
    exact g_iret dL_position_24 rfl (by decide) (by decide) (lwP.yes (G := G) ho.1 h0 hI1 hf1 hA9)
theorem u_L_pile : gUH yL_pile cL_pile 5 (some .int) [(0, 10, 13, 13), (0, 10, 17, 15)] 4 := ⟨⟨mw_946, mw_945, mw_62⟩, by decide, by decide, by decide +kernel⟩
set_option maxHeartbeats 4000000 in
set_option maxRecDepth 100000 in
theorem k_L_pile (Y : gEnv) {K N : Nat → Nat} {I : Nat → Nat → Int} {A : Nat → Int → Int} {R : Nat → Nat → Option Nat} {Q : Nat → Int → Option Nat} {G : Nat → Nat × Int} {M : Nat → Prop} {x s h hq sc sg ar : Nat} {W SV T : Int → Int} {n len : Int} {out : Nat} (hI : cI K N I A R Q G M x s h hq sc sg ar W n SV T len) (ho : M out ∧ K out = 14 ∧ N out = 1) (a b : Int) {code val : Int} {W' : Int → Int} {n' : Int} {SV' T' : Int → Int} {len' : Int} (hr : 0 ≤ code ∧ code ≤ 2) (hA : gC Y yX12_pile cX12_pile 3 (some .int) ({ frames := 7, cells := 2, slots := 12, locals := 120 } : Room) [.ref x, vi a, vi b] K N I A R Q (cOpP K N I A R Q M x s h hq sc sg ar code (vi val) W' n' SV' T' len') (cOpX K N I A R Q code [xIx, xAr, xSt])) : gCH Y yL_pile cL_pile 5 (some .int) [(0, 10, 13, 13), (0, 10, 17, 15)] ({ frames := 8, cells := 2, slots := 12, locals := 142 } : Room) [.ref x, vi a, vi b, .ref out] K N I A R Q (lwP K N I A R Q M x s h hq sc sg ar out code (sI val) W' n' SV' T' len' W n SV T len) := by
  refine gCH_of (by decide) (Nat.le_of_ble_eq_true rfl) rfl (fun X htab => ?_)
  refine g_aload_n dL_pile_0 rfl rfl ?_
  refine g_iconst dL_pile_1 ?_
  refine g_aload_n dL_pile_2 rfl rfl ?_
  refine g_iload_n dL_pile_3 rfl rfl ?_
  refine g_iload_n dL_pile_4 rfl rfl ?_
  refine g_callVH (i := 9) rfl (gK0 hI.1.1) (g_at9 hI.1.1) hA u_X12_pile mw_947 dL_pile_5 rfl rfl ⟨Nat.le_of_ble_eq_true rfl, Nat.le_of_ble_eq_true rfl⟩ ⟨Nat.le_of_ble_eq_true rfl, Nat.le_of_ble_eq_true rfl⟩ (Nat.le_of_ble_eq_true rfl) (fun hfa E K1 N1 I1 A1 R1 Q1 hp => ?_) (fun v K1 N1 I1 A1 R1 Q1 hp => ?_)
  · obtain ⟨q1, q2, rfl, rfl, rfl, rfl, rfl, rfl⟩ := hp
    rw [htab]
    have hc : code = 1 ∨ code = 2 := by omega
    rcases hc with hc | hc
    · have e : E = "java/lang/IndexOutOfBoundsException" := by rw [q2, hc]; rfl
      subst e
      refine ⟨13, (hPick0 (by decide) (by decide) mw_515 fc_ix), fun q => ?_⟩
      refine g_astore dL_pile_13 (by decide) ?_
      refine g_iconst dL_pile_15 ?_
      exact g_iret dL_pile_16 rfl (by decide) (by decide) (lwP.no ho.1 hc (by decide) hI gFm.rfl)
    · have e : E = "java/lang/IllegalArgumentException" := by rw [q2, hc]; rfl
      subst e
      refine ⟨17, (hPickS (by decide) mw_515 hfa.2.1 (hPick0 (by decide) (by decide) mw_516 fc_ar)), fun q => ?_⟩
      refine g_astore dL_pile_17 (by decide) ?_
      refine g_iconst dL_pile_19 ?_
      exact g_iret dL_pile_20 rfl (by decide) (by decide) (lwP.no ho.1 hc (by decide) hI gFm.rfl)
  · obtain ⟨h0, hv, G1, hI1, hf1⟩ := hp
    subst hv
    have ko := (hf1 out ho.1).1.trans ho.2.1
    have no := (hf1 out ho.1).2.1.trans ho.2.2
    refine g_i2lw dL_pile_8 ?_
    refine g_lastore dL_pile_9 ko (by rw [no]; decide) (by rw [no]; decide) (fun A9 hA9 => ?_)
    refine g_goto (tgt := 21) dL_pile_10 (by decide) ?_
    refine g_iconst dL_pile_21 ?_
    exact g_iret dL_pile_22 rfl (by decide) (by decide) (lwP.yes (G := G) ho.1 h0 hI1 hf1 hA9)
theorem u_L_lot : gUH yL_lot cL_lot 5 (some .int) [(0, 10, 13, 13), (0, 10, 17, 15)] 4 := ⟨⟨mw_958, mw_957, mw_62⟩, by decide, by decide, by decide +kernel⟩
set_option maxHeartbeats 4000000 in
set_option maxRecDepth 100000 in
theorem k_L_lot (Y : gEnv) {K N : Nat → Nat} {I : Nat → Nat → Int} {A : Nat → Int → Int} {R : Nat → Nat → Option Nat} {Q : Nat → Int → Option Nat} {G : Nat → Nat × Int} {M : Nat → Prop} {x s h hq sc sg ar : Nat} {W SV T : Int → Int} {n len : Int} {out : Nat} (hI : cI K N I A R Q G M x s h hq sc sg ar W n SV T len) (ho : M out ∧ K out = 14 ∧ N out = 1) (a b : Int) {code val : Int} {W' : Int → Int} {n' : Int} {SV' T' : Int → Int} {len' : Int} (hr : 0 ≤ code ∧ code ≤ 2) (hA : gC Y yX12_lot cX12_lot 3 (some .int) ({ frames := 7, cells := 2, slots := 12, locals := 120 } : Room) [.ref x, vi a, vi b] K N I A R Q (cOpP K N I A R Q M x s h hq sc sg ar code (vi val) W' n' SV' T' len') (cOpX K N I A R Q code [xIx, xAr, xSt])) : gCH Y yL_lot cL_lot 5 (some .int) [(0, 10, 13, 13), (0, 10, 17, 15)] ({ frames := 8, cells := 2, slots := 12, locals := 142 } : Room) [.ref x, vi a, vi b, .ref out] K N I A R Q (lwP K N I A R Q M x s h hq sc sg ar out code (sI val) W' n' SV' T' len' W n SV T len) := by
  refine gCH_of (by decide) (Nat.le_of_ble_eq_true rfl) rfl (fun X htab => ?_)
  refine g_aload_n dL_lot_0 rfl rfl ?_
  refine g_iconst dL_lot_1 ?_
  refine g_aload_n dL_lot_2 rfl rfl ?_
  refine g_iload_n dL_lot_3 rfl rfl ?_
  refine g_iload_n dL_lot_4 rfl rfl ?_
  refine g_callVH (i := 9) rfl (gK0 hI.1.1) (g_at9 hI.1.1) hA u_X12_lot mw_959 dL_lot_5 rfl rfl ⟨Nat.le_of_ble_eq_true rfl, Nat.le_of_ble_eq_true rfl⟩ ⟨Nat.le_of_ble_eq_true rfl, Nat.le_of_ble_eq_true rfl⟩ (Nat.le_of_ble_eq_true rfl) (fun hfa E K1 N1 I1 A1 R1 Q1 hp => ?_) (fun v K1 N1 I1 A1 R1 Q1 hp => ?_)
  · obtain ⟨q1, q2, rfl, rfl, rfl, rfl, rfl, rfl⟩ := hp
    rw [htab]
    have hc : code = 1 ∨ code = 2 := by omega
    rcases hc with hc | hc
    · have e : E = "java/lang/IndexOutOfBoundsException" := by rw [q2, hc]; rfl
      subst e
      refine ⟨13, (hPick0 (by decide) (by decide) mw_515 fc_ix), fun q => ?_⟩
      refine g_astore dL_lot_13 (by decide) ?_
      refine g_iconst dL_lot_15 ?_
      exact g_iret dL_lot_16 rfl (by decide) (by decide) (lwP.no ho.1 hc (by decide) hI gFm.rfl)
    · have e : E = "java/lang/IllegalArgumentException" := by rw [q2, hc]; rfl
      subst e
      refine ⟨17, (hPickS (by decide) mw_515 hfa.2.1 (hPick0 (by decide) (by decide) mw_516 fc_ar)), fun q => ?_⟩
      refine g_astore dL_lot_17 (by decide) ?_
      refine g_iconst dL_lot_19 ?_
      exact g_iret dL_lot_20 rfl (by decide) (by decide) (lwP.no ho.1 hc (by decide) hI gFm.rfl)
  · obtain ⟨h0, hv, G1, hI1, hf1⟩ := hp
    subst hv
    have ko := (hf1 out ho.1).1.trans ho.2.1
    have no := (hf1 out ho.1).2.1.trans ho.2.2
    refine g_i2lw dL_lot_8 ?_
    refine g_lastore dL_lot_9 ko (by rw [no]; decide) (by rw [no]; decide) (fun A9 hA9 => ?_)
    refine g_goto (tgt := 21) dL_lot_10 (by decide) ?_
    refine g_iconst dL_lot_21 ?_
    exact g_iret dL_lot_22 rfl (by decide) (by decide) (lwP.yes (G := G) ho.1 h0 hI1 hf1 hA9)
theorem u_L_findLot : gUH yL_findLot cL_findLot 6 (some .int) [(0, 12, 15, 15)] 5 := ⟨⟨mw_970, mw_969, mw_62⟩, by decide, by decide, by decide +kernel⟩
set_option maxHeartbeats 4000000 in
set_option maxRecDepth 100000 in
theorem k_L_findLot (Y : gEnv) {K N : Nat → Nat} {I : Nat → Nat → Int} {A : Nat → Int → Int} {R : Nat → Nat → Option Nat} {Q : Nat → Int → Option Nat} {G : Nat → Nat × Int} {M : Nat → Prop} {x s h hq sc sg ar : Nat} {W SV T : Int → Int} {n len : Int} {out : Nat} (hI : cI K N I A R Q G M x s h hq sc sg ar W n SV T len) (ho : M out ∧ K out = 14 ∧ N out = 1) (a b c : Int) {code val : Int} {W' : Int → Int} {n' : Int} {SV' T' : Int → Int} {len' : Int} (hr : 0 ≤ code ∧ code ≤ 1) (hA : gC Y yX12_findLot cX12_findLot 4 (some .int) ({ frames := 7, cells := 1, slots := 6, locals := 120 } : Room) [.ref x, vi a, vi b, vi c] K N I A R Q (cOpP K N I A R Q M x s h hq sc sg ar code (vi val) W' n' SV' T' len') (cOpX K N I A R Q code [xAr])) : gCH Y yL_findLot cL_findLot 6 (some .int) [(0, 12, 15, 15)] ({ frames := 8, cells := 1, slots := 6, locals := 143 } : Room) [.ref x, vi a, vi b, vi c, .ref out] K N I A R Q (lwP K N I A R Q M x s h hq sc sg ar out code (sI val) W' n' SV' T' len' W n SV T len) := by
  refine gCH_of (by decide) (Nat.le_of_ble_eq_true rfl) rfl (fun X htab => ?_)
  refine g_aload dL_findLot_0 rfl ?_
  refine g_iconst dL_findLot_2 ?_
  refine g_aload_n dL_findLot_3 rfl rfl ?_
  refine g_iload_n dL_findLot_4 rfl rfl ?_
  refine g_iload_n dL_findLot_5 rfl rfl ?_
  refine g_iload_n dL_findLot_6 rfl rfl ?_
  refine g_callVH (i := 9) rfl (gK0 hI.1.1) (g_at9 hI.1.1) hA u_X12_findLot mw_971 dL_findLot_7 rfl rfl ⟨Nat.le_of_ble_eq_true rfl, Nat.le_of_ble_eq_true rfl⟩ ⟨Nat.le_of_ble_eq_true rfl, Nat.le_of_ble_eq_true rfl⟩ (Nat.le_of_ble_eq_true rfl) (fun hfa E K1 N1 I1 A1 R1 Q1 hp => ?_) (fun v K1 N1 I1 A1 R1 Q1 hp => ?_)
  · obtain ⟨q1, q2, rfl, rfl, rfl, rfl, rfl, rfl⟩ := hp
    rw [htab]
    have hc : code = 1 := by omega
    have e : E = "java/lang/IllegalArgumentException" := by rw [q2, hc]; rfl
    subst e
    refine ⟨15, (hPick0 (by decide) (by decide) mw_516 fc_ar), fun q => ?_⟩
    refine g_astore dL_findLot_15 (by decide) ?_
    refine g_iconst dL_findLot_17 ?_
    exact g_iret dL_findLot_18 rfl (by decide) (by decide) (lwP.no ho.1 hc (by decide) hI gFm.rfl)
  · obtain ⟨h0, hv, G1, hI1, hf1⟩ := hp
    subst hv
    have ko := (hf1 out ho.1).1.trans ho.2.1
    have no := (hf1 out ho.1).2.1.trans ho.2.2
    refine g_i2lw dL_findLot_10 ?_
    refine g_lastore dL_findLot_11 ko (by rw [no]; decide) (by rw [no]; decide) (fun A9 hA9 => ?_)
    refine g_goto (tgt := 19) dL_findLot_12 (by decide) ?_
    refine g_iconst dL_findLot_19 ?_
    exact g_iret dL_findLot_20 rfl (by decide) (by decide) (lwP.yes (G := G) ho.1 h0 hI1 hf1 hA9)
theorem u_L_delivery : gUH yL_delivery cL_delivery 5 (some .int) [(0, 9, 12, 13), (0, 9, 16, 15)] 4 := ⟨⟨mw_982, mw_981, mw_62⟩, by decide, by decide, by decide +kernel⟩
set_option maxHeartbeats 4000000 in
set_option maxRecDepth 100000 in
theorem k_L_delivery (Y : gEnv) {K N : Nat → Nat} {I : Nat → Nat → Int} {A : Nat → Int → Int} {R : Nat → Nat → Option Nat} {Q : Nat → Int → Option Nat} {G : Nat → Nat × Int} {M : Nat → Prop} {x s h hq sc sg ar : Nat} {W SV T : Int → Int} {n len : Int} {out : Nat} (hI : cI K N I A R Q G M x s h hq sc sg ar W n SV T len) (ho : M out ∧ K out = 14 ∧ N out = 1) (a b : Int) {code val : Int} {W' : Int → Int} {n' : Int} {SV' T' : Int → Int} {len' : Int} (hr : 0 ≤ code ∧ code ≤ 2) (hA : gC Y yX12_delivery cX12_delivery 3 (some .long) ({ frames := 7, cells := 2, slots := 12, locals := 120 } : Room) [.ref x, vi a, vi b] K N I A R Q (cOpP K N I A R Q M x s h hq sc sg ar code (vl val) W' n' SV' T' len') (cOpX K N I A R Q code [xIx, xAr, xSt])) : gCH Y yL_delivery cL_delivery 5 (some .int) [(0, 9, 12, 13), (0, 9, 16, 15)] ({ frames := 8, cells := 2, slots := 12, locals := 142 } : Room) [.ref x, vi a, vi b, .ref out] K N I A R Q (lwP K N I A R Q M x s h hq sc sg ar out code val W' n' SV' T' len' W n SV T len) := by
  refine gCH_of (by decide) (Nat.le_of_ble_eq_true rfl) rfl (fun X htab => ?_)
  refine g_aload_n dL_delivery_0 rfl rfl ?_
  refine g_iconst dL_delivery_1 ?_
  refine g_aload_n dL_delivery_2 rfl rfl ?_
  refine g_iload_n dL_delivery_3 rfl rfl ?_
  refine g_iload_n dL_delivery_4 rfl rfl ?_
  refine g_callVH (i := 9) rfl (gK0 hI.1.1) (g_at9 hI.1.1) hA u_X12_delivery mw_983 dL_delivery_5 rfl rfl ⟨Nat.le_of_ble_eq_true rfl, Nat.le_of_ble_eq_true rfl⟩ ⟨Nat.le_of_ble_eq_true rfl, Nat.le_of_ble_eq_true rfl⟩ (Nat.le_of_ble_eq_true rfl) (fun hfa E K1 N1 I1 A1 R1 Q1 hp => ?_) (fun v K1 N1 I1 A1 R1 Q1 hp => ?_)
  · obtain ⟨q1, q2, rfl, rfl, rfl, rfl, rfl, rfl⟩ := hp
    rw [htab]
    have hc : code = 1 ∨ code = 2 := by omega
    rcases hc with hc | hc
    · have e : E = "java/lang/IndexOutOfBoundsException" := by rw [q2, hc]; rfl
      subst e
      refine ⟨12, (hPick0 (by decide) (by decide) mw_515 fc_ix), fun q => ?_⟩
      refine g_astore dL_delivery_12 (by decide) ?_
      refine g_iconst dL_delivery_14 ?_
      exact g_iret dL_delivery_15 rfl (by decide) (by decide) (lwP.no ho.1 hc (by decide) hI gFm.rfl)
    · have e : E = "java/lang/IllegalArgumentException" := by rw [q2, hc]; rfl
      subst e
      refine ⟨16, (hPickS (by decide) mw_515 hfa.2.1 (hPick0 (by decide) (by decide) mw_516 fc_ar)), fun q => ?_⟩
      refine g_astore dL_delivery_16 (by decide) ?_
      refine g_iconst dL_delivery_18 ?_
      exact g_iret dL_delivery_19 rfl (by decide) (by decide) (lwP.no ho.1 hc (by decide) hI gFm.rfl)
  · obtain ⟨h0, hv, G1, hI1, hf1⟩ := hp
    subst hv
    have ko := (hf1 out ho.1).1.trans ho.2.1
    have no := (hf1 out ho.1).2.1.trans ho.2.2
    refine g_lastore dL_delivery_8 ko (by rw [no]; decide) (by rw [no]; decide) (fun A9 hA9 => ?_)
    refine g_goto (tgt := 20) dL_delivery_9 (by decide) ?_
    refine g_iconst dL_delivery_20 ?_
    exact g_iret dL_delivery_21 rfl (by decide) (by decide) (lwP.yes (G := G) ho.1 h0 hI1 hf1 hA9)
theorem u_L_event : gUH yL_event cL_event 5 (some .int) [(0, 10, 13, 15)] 4 := ⟨⟨mw_994, mw_993, mw_62⟩, by decide, by decide, by decide +kernel⟩
set_option maxHeartbeats 4000000 in
set_option maxRecDepth 100000 in
theorem k_L_event (Y : gEnv) {K N : Nat → Nat} {I : Nat → Nat → Int} {A : Nat → Int → Int} {R : Nat → Nat → Option Nat} {Q : Nat → Int → Option Nat} {G : Nat → Nat × Int} {M : Nat → Prop} {x s h hq sc sg ar : Nat} {W SV T : Int → Int} {n len : Int} {out : Nat} (hI : cI K N I A R Q G M x s h hq sc sg ar W n SV T len) (ho : M out ∧ K out = 14 ∧ N out = 1) (a b : Int) {code val : Int} {W' : Int → Int} {n' : Int} {SV' T' : Int → Int} {len' : Int} (hr : 0 ≤ code ∧ code ≤ 1) (hA : gC Y yX12_event cX12_event 3 (some .int) ({ frames := 7, cells := 1, slots := 6, locals := 120 } : Room) [.ref x, vi a, vi b] K N I A R Q (cOpP K N I A R Q M x s h hq sc sg ar code (vi val) W' n' SV' T' len') (cOpX K N I A R Q code [xAr])) : gCH Y yL_event cL_event 5 (some .int) [(0, 10, 13, 15)] ({ frames := 8, cells := 1, slots := 6, locals := 142 } : Room) [.ref x, vi a, vi b, .ref out] K N I A R Q (lwP K N I A R Q M x s h hq sc sg ar out code (sI val) W' n' SV' T' len' W n SV T len) := by
  refine gCH_of (by decide) (Nat.le_of_ble_eq_true rfl) rfl (fun X htab => ?_)
  refine g_aload_n dL_event_0 rfl rfl ?_
  refine g_iconst dL_event_1 ?_
  refine g_aload_n dL_event_2 rfl rfl ?_
  refine g_iload_n dL_event_3 rfl rfl ?_
  refine g_iload_n dL_event_4 rfl rfl ?_
  refine g_callVH (i := 9) rfl (gK0 hI.1.1) (g_at9 hI.1.1) hA u_X12_event mw_995 dL_event_5 rfl rfl ⟨Nat.le_of_ble_eq_true rfl, Nat.le_of_ble_eq_true rfl⟩ ⟨Nat.le_of_ble_eq_true rfl, Nat.le_of_ble_eq_true rfl⟩ (Nat.le_of_ble_eq_true rfl) (fun hfa E K1 N1 I1 A1 R1 Q1 hp => ?_) (fun v K1 N1 I1 A1 R1 Q1 hp => ?_)
  · obtain ⟨q1, q2, rfl, rfl, rfl, rfl, rfl, rfl⟩ := hp
    rw [htab]
    have hc : code = 1 := by omega
    have e : E = "java/lang/IllegalArgumentException" := by rw [q2, hc]; rfl
    subst e
    refine ⟨13, (hPick0 (by decide) (by decide) mw_516 fc_ar), fun q => ?_⟩
    refine g_astore dL_event_13 (by decide) ?_
    refine g_iconst dL_event_15 ?_
    exact g_iret dL_event_16 rfl (by decide) (by decide) (lwP.no ho.1 hc (by decide) hI gFm.rfl)
  · obtain ⟨h0, hv, G1, hI1, hf1⟩ := hp
    subst hv
    have ko := (hf1 out ho.1).1.trans ho.2.1
    have no := (hf1 out ho.1).2.1.trans ho.2.2
    refine g_i2lw dL_event_8 ?_
    refine g_lastore dL_event_9 ko (by rw [no]; decide) (by rw [no]; decide) (fun A9 hA9 => ?_)
    refine g_goto (tgt := 17) dL_event_10 (by decide) ?_
    refine g_iconst dL_event_17 ?_
    exact g_iret dL_event_18 rfl (by decide) (by decide) (lwP.yes (G := G) ho.1 h0 hI1 hf1 hA9)
theorem u_L_total : gUH yL_total cL_total 4 (some .int) [(0, 8, 11, 15)] 3 := ⟨⟨mw_1013, mw_1012, mw_62⟩, by decide, by decide, by decide +kernel⟩
set_option maxHeartbeats 4000000 in
set_option maxRecDepth 100000 in
theorem k_L_total (Y : gEnv) {K N : Nat → Nat} {I : Nat → Nat → Int} {A : Nat → Int → Int} {R : Nat → Nat → Option Nat} {Q : Nat → Int → Option Nat} {G : Nat → Nat × Int} {M : Nat → Prop} {x s h hq sc sg ar : Nat} {W SV T : Int → Int} {n len : Int} {out : Nat} (hI : cI K N I A R Q G M x s h hq sc sg ar W n SV T len) (ho : M out ∧ K out = 14 ∧ N out = 1) (a : Int) {code val : Int} {W' : Int → Int} {n' : Int} {SV' T' : Int → Int} {len' : Int} (hr : 0 ≤ code ∧ code ≤ 1) (hA : gC Y yX12_total cX12_total 2 (some .long) ({ frames := 7, cells := 1, slots := 6, locals := 120 } : Room) [.ref x, vi a] K N I A R Q (cOpP K N I A R Q M x s h hq sc sg ar code (vl val) W' n' SV' T' len') (cOpX K N I A R Q code [xAr])) : gCH Y yL_total cL_total 4 (some .int) [(0, 8, 11, 15)] ({ frames := 8, cells := 1, slots := 6, locals := 141 } : Room) [.ref x, vi a, .ref out] K N I A R Q (lwP K N I A R Q M x s h hq sc sg ar out code val W' n' SV' T' len' W n SV T len) := by
  refine gCH_of (by decide) (Nat.le_of_ble_eq_true rfl) rfl (fun X htab => ?_)
  refine g_aload_n dL_total_0 rfl rfl ?_
  refine g_iconst dL_total_1 ?_
  refine g_aload_n dL_total_2 rfl rfl ?_
  refine g_iload_n dL_total_3 rfl rfl ?_
  refine g_callVH (i := 9) rfl (gK0 hI.1.1) (g_at9 hI.1.1) hA u_X12_total mw_1014 dL_total_4 rfl rfl ⟨Nat.le_of_ble_eq_true rfl, Nat.le_of_ble_eq_true rfl⟩ ⟨Nat.le_of_ble_eq_true rfl, Nat.le_of_ble_eq_true rfl⟩ (Nat.le_of_ble_eq_true rfl) (fun hfa E K1 N1 I1 A1 R1 Q1 hp => ?_) (fun v K1 N1 I1 A1 R1 Q1 hp => ?_)
  · obtain ⟨q1, q2, rfl, rfl, rfl, rfl, rfl, rfl⟩ := hp
    rw [htab]
    have hc : code = 1 := by omega
    have e : E = "java/lang/IllegalArgumentException" := by rw [q2, hc]; rfl
    subst e
    refine ⟨11, (hPick0 (by decide) (by decide) mw_516 fc_ar), fun q => ?_⟩
    refine g_astore_n dL_total_11 rfl (by decide) ?_
    refine g_iconst dL_total_12 ?_
    exact g_iret dL_total_13 rfl (by decide) (by decide) (lwP.no ho.1 hc (by decide) hI gFm.rfl)
  · obtain ⟨h0, hv, G1, hI1, hf1⟩ := hp
    subst hv
    have ko := (hf1 out ho.1).1.trans ho.2.1
    have no := (hf1 out ho.1).2.1.trans ho.2.2
    refine g_lastore dL_total_7 ko (by rw [no]; decide) (by rw [no]; decide) (fun A9 hA9 => ?_)
    refine g_goto (tgt := 14) dL_total_8 (by decide) ?_
    refine g_iconst dL_total_14 ?_
    exact g_iret dL_total_15 rfl (by decide) (by decide) (lwP.yes (G := G) ho.1 h0 hI1 hf1 hA9)
theorem u_L_shadeAt : gUH yL_shadeAt cL_shadeAt 7 (some .int) [(0, 14, 17, 13), (0, 14, 21, 15)] 6 := ⟨⟨mw_1043, mw_1042, mw_62⟩, by decide, by decide, by decide +kernel⟩
set_option maxHeartbeats 4000000 in
set_option maxRecDepth 100000 in
theorem k_L_shadeAt (Y : gEnv) {K N : Nat → Nat} {I : Nat → Nat → Int} {A : Nat → Int → Int} {R : Nat → Nat → Option Nat} {Q : Nat → Int → Option Nat} {G : Nat → Nat × Int} {M : Nat → Prop} {x s h hq sc sg ar : Nat} {W SV T : Int → Int} {n len : Int} {out : Nat} (hI : cI K N I A R Q G M x s h hq sc sg ar W n SV T len) (ho : M out ∧ K out = 14 ∧ N out = 1) (a b c d : Int) {code val : Int} {W' : Int → Int} {n' : Int} {SV' T' : Int → Int} {len' : Int} (hr : 0 ≤ code ∧ code ≤ 2) (hA : gC Y yX12_shadeAt cX12_shadeAt 6 (some .int) ({ frames := 7, cells := 2, slots := 12, locals := 120 } : Room) [.ref x, vi a, vi b, vi c, vi d] K N I A R Q (cOpP K N I A R Q M x s h hq sc sg ar code (vi val) W' n' SV' T' len') (cOpX K N I A R Q code [xIx, xAr, xSt])) : gCH Y yL_shadeAt cL_shadeAt 7 (some .int) [(0, 14, 17, 13), (0, 14, 21, 15)] ({ frames := 8, cells := 2, slots := 12, locals := 145 } : Room) [.ref x, vi a, vi b, vi c, vi d, .ref out] K N I A R Q (lwP K N I A R Q M x s h hq sc sg ar out code (sI val) W' n' SV' T' len' W n SV T len) := by
  refine gCH_of (by decide) (Nat.le_of_ble_eq_true rfl) rfl (fun X htab => ?_)
  refine g_aload dL_shadeAt_0 rfl ?_
  refine g_iconst dL_shadeAt_2 ?_
  refine g_aload_n dL_shadeAt_3 rfl rfl ?_
  refine g_iload_n dL_shadeAt_4 rfl rfl ?_
  refine g_iload_n dL_shadeAt_5 rfl rfl ?_
  refine g_iload_n dL_shadeAt_6 rfl rfl ?_
  refine g_iload dL_shadeAt_7 rfl ?_
  refine g_callVH (i := 9) rfl (gK0 hI.1.1) (g_at9 hI.1.1) hA u_X12_shadeAt mw_1044 dL_shadeAt_9 rfl rfl ⟨Nat.le_of_ble_eq_true rfl, Nat.le_of_ble_eq_true rfl⟩ ⟨Nat.le_of_ble_eq_true rfl, Nat.le_of_ble_eq_true rfl⟩ (Nat.le_of_ble_eq_true rfl) (fun hfa E K1 N1 I1 A1 R1 Q1 hp => ?_) (fun v K1 N1 I1 A1 R1 Q1 hp => ?_)
  · obtain ⟨q1, q2, rfl, rfl, rfl, rfl, rfl, rfl⟩ := hp
    rw [htab]
    have hc : code = 1 ∨ code = 2 := by omega
    rcases hc with hc | hc
    · have e : E = "java/lang/IndexOutOfBoundsException" := by rw [q2, hc]; rfl
      subst e
      refine ⟨17, (hPick0 (by decide) (by decide) mw_515 fc_ix), fun q => ?_⟩
      refine g_astore dL_shadeAt_17 (by decide) ?_
      refine g_iconst dL_shadeAt_19 ?_
      exact g_iret dL_shadeAt_20 rfl (by decide) (by decide) (lwP.no ho.1 hc (by decide) hI gFm.rfl)
    · have e : E = "java/lang/IllegalArgumentException" := by rw [q2, hc]; rfl
      subst e
      refine ⟨21, (hPickS (by decide) mw_515 hfa.2.1 (hPick0 (by decide) (by decide) mw_516 fc_ar)), fun q => ?_⟩
      refine g_astore dL_shadeAt_21 (by decide) ?_
      refine g_iconst dL_shadeAt_23 ?_
      exact g_iret dL_shadeAt_24 rfl (by decide) (by decide) (lwP.no ho.1 hc (by decide) hI gFm.rfl)
  · obtain ⟨h0, hv, G1, hI1, hf1⟩ := hp
    subst hv
    have ko := (hf1 out ho.1).1.trans ho.2.1
    have no := (hf1 out ho.1).2.1.trans ho.2.2
    refine g_i2lw dL_shadeAt_12 ?_
    refine g_lastore dL_shadeAt_13 ko (by rw [no]; decide) (by rw [no]; decide) (fun A9 hA9 => ?_)
    refine g_goto (tgt := 25) dL_shadeAt_14 (by decide) ?_
    refine g_iconst dL_shadeAt_25 ?_
    exact g_iret dL_shadeAt_26 rfl (by decide) (by decide) (lwP.yes (G := G) ho.1 h0 hI1 hf1 hA9)
theorem u_L_bestPeak : gUH yL_bestPeak cL_bestPeak 6 (some .int) [(0, 12, 15, 13), (0, 12, 19, 15)] 5 := ⟨⟨mw_1053, mw_1052, mw_62⟩, by decide, by decide, by decide +kernel⟩
set_option maxHeartbeats 4000000 in
set_option maxRecDepth 100000 in
theorem k_L_bestPeak (Y : gEnv) {K N : Nat → Nat} {I : Nat → Nat → Int} {A : Nat → Int → Int} {R : Nat → Nat → Option Nat} {Q : Nat → Int → Option Nat} {G : Nat → Nat × Int} {M : Nat → Prop} {x s h hq sc sg ar : Nat} {W SV T : Int → Int} {n len : Int} {out : Nat} (hI : cI K N I A R Q G M x s h hq sc sg ar W n SV T len) (ho : M out ∧ K out = 14 ∧ N out = 1) (a b c : Int) {code val : Int} {W' : Int → Int} {n' : Int} {SV' T' : Int → Int} {len' : Int} (hr : 0 ≤ code ∧ code ≤ 2) (hA : gC Y yX12_bestPeak cX12_bestPeak 8 (some .int) ({ frames := 7, cells := 2, slots := 12, locals := 120 } : Room) [.ref x, vi a, vi b, vi c] K N I A R Q (cOpP K N I A R Q M x s h hq sc sg ar code (vi val) W' n' SV' T' len') (cOpX K N I A R Q code [xIx, xAr, xSt])) : gCH Y yL_bestPeak cL_bestPeak 6 (some .int) [(0, 12, 15, 13), (0, 12, 19, 15)] ({ frames := 8, cells := 2, slots := 12, locals := 147 } : Room) [.ref x, vi a, vi b, vi c, .ref out] K N I A R Q (lwP K N I A R Q M x s h hq sc sg ar out code (sI val) W' n' SV' T' len' W n SV T len) := by
  refine gCH_of (by decide) (Nat.le_of_ble_eq_true rfl) rfl (fun X htab => ?_)
  refine g_aload dL_bestPeak_0 rfl ?_
  refine g_iconst dL_bestPeak_2 ?_
  refine g_aload_n dL_bestPeak_3 rfl rfl ?_
  refine g_iload_n dL_bestPeak_4 rfl rfl ?_
  refine g_iload_n dL_bestPeak_5 rfl rfl ?_
  refine g_iload_n dL_bestPeak_6 rfl rfl ?_
  refine g_callVH (i := 9) rfl (gK0 hI.1.1) (g_at9 hI.1.1) hA u_X12_bestPeak mw_1054 dL_bestPeak_7 rfl rfl ⟨Nat.le_of_ble_eq_true rfl, Nat.le_of_ble_eq_true rfl⟩ ⟨Nat.le_of_ble_eq_true rfl, Nat.le_of_ble_eq_true rfl⟩ (Nat.le_of_ble_eq_true rfl) (fun hfa E K1 N1 I1 A1 R1 Q1 hp => ?_) (fun v K1 N1 I1 A1 R1 Q1 hp => ?_)
  · obtain ⟨q1, q2, rfl, rfl, rfl, rfl, rfl, rfl⟩ := hp
    rw [htab]
    have hc : code = 1 ∨ code = 2 := by omega
    rcases hc with hc | hc
    · have e : E = "java/lang/IndexOutOfBoundsException" := by rw [q2, hc]; rfl
      subst e
      refine ⟨15, (hPick0 (by decide) (by decide) mw_515 fc_ix), fun q => ?_⟩
      refine g_astore dL_bestPeak_15 (by decide) ?_
      refine g_iconst dL_bestPeak_17 ?_
      exact g_iret dL_bestPeak_18 rfl (by decide) (by decide) (lwP.no ho.1 hc (by decide) hI gFm.rfl)
    · have e : E = "java/lang/IllegalArgumentException" := by rw [q2, hc]; rfl
      subst e
      refine ⟨19, (hPickS (by decide) mw_515 hfa.2.1 (hPick0 (by decide) (by decide) mw_516 fc_ar)), fun q => ?_⟩
      refine g_astore dL_bestPeak_19 (by decide) ?_
      refine g_iconst dL_bestPeak_21 ?_
      exact g_iret dL_bestPeak_22 rfl (by decide) (by decide) (lwP.no ho.1 hc (by decide) hI gFm.rfl)
  · obtain ⟨h0, hv, G1, hI1, hf1⟩ := hp
    subst hv
    have ko := (hf1 out ho.1).1.trans ho.2.1
    have no := (hf1 out ho.1).2.1.trans ho.2.2
    refine g_i2lw dL_bestPeak_10 ?_
    refine g_lastore dL_bestPeak_11 ko (by rw [no]; decide) (by rw [no]; decide) (fun A9 hA9 => ?_)
    refine g_goto (tgt := 23) dL_bestPeak_12 (by decide) ?_
    refine g_iconst dL_bestPeak_23 ?_
    exact g_iret dL_bestPeak_24 rfl (by decide) (by decide) (lwP.yes (G := G) ho.1 h0 hI1 hf1 hA9)
theorem u_L_largest : gUH yL_largest cL_largest 5 (some .int) [(0, 10, 13, 13), (0, 10, 17, 15)] 4 := ⟨⟨mw_1064, mw_1063, mw_62⟩, by decide, by decide, by decide +kernel⟩
set_option maxHeartbeats 4000000 in
set_option maxRecDepth 100000 in
theorem k_L_largest (Y : gEnv) {K N : Nat → Nat} {I : Nat → Nat → Int} {A : Nat → Int → Int} {R : Nat → Nat → Option Nat} {Q : Nat → Int → Option Nat} {G : Nat → Nat × Int} {M : Nat → Prop} {x s h hq sc sg ar : Nat} {W SV T : Int → Int} {n len : Int} {out : Nat} (hI : cI K N I A R Q G M x s h hq sc sg ar W n SV T len) (ho : M out ∧ K out = 14 ∧ N out = 1) (a b : Int) {code val : Int} {W' : Int → Int} {n' : Int} {SV' T' : Int → Int} {len' : Int} (hr : 0 ≤ code ∧ code ≤ 2) (hA : gC Y yX12_largest cX12_largest 3 (some .int) ({ frames := 7, cells := 3, slots := 15, locals := 120 } : Room) [.ref x, vi a, vi b] K N I A R Q (cOpP K N I A R Q M x s h hq sc sg ar code (vi val) W' n' SV' T' len') (cOpX K N I A R Q code [xIx, xAr, xSt])) : gCH Y yL_largest cL_largest 5 (some .int) [(0, 10, 13, 13), (0, 10, 17, 15)] ({ frames := 8, cells := 3, slots := 15, locals := 142 } : Room) [.ref x, vi a, vi b, .ref out] K N I A R Q (lwP K N I A R Q M x s h hq sc sg ar out code (sI val) W' n' SV' T' len' W n SV T len) := by
  refine gCH_of (by decide) (Nat.le_of_ble_eq_true rfl) rfl (fun X htab => ?_)
  refine g_aload_n dL_largest_0 rfl rfl ?_
  refine g_iconst dL_largest_1 ?_
  refine g_aload_n dL_largest_2 rfl rfl ?_
  refine g_iload_n dL_largest_3 rfl rfl ?_
  refine g_iload_n dL_largest_4 rfl rfl ?_
  refine g_callVH (i := 9) rfl (gK0 hI.1.1) (g_at9 hI.1.1) hA u_X12_largest mw_1065 dL_largest_5 rfl rfl ⟨Nat.le_of_ble_eq_true rfl, Nat.le_of_ble_eq_true rfl⟩ ⟨Nat.le_of_ble_eq_true rfl, Nat.le_of_ble_eq_true rfl⟩ (Nat.le_of_ble_eq_true rfl) (fun hfa E K1 N1 I1 A1 R1 Q1 hp => ?_) (fun v K1 N1 I1 A1 R1 Q1 hp => ?_)
  · obtain ⟨q1, q2, rfl, rfl, rfl, rfl, rfl, rfl⟩ := hp
    rw [htab]
    have hc : code = 1 ∨ code = 2 := by omega
    rcases hc with hc | hc
    · have e : E = "java/lang/IndexOutOfBoundsException" := by rw [q2, hc]; rfl
      subst e
      refine ⟨13, (hPick0 (by decide) (by decide) mw_515 fc_ix), fun q => ?_⟩
      refine g_astore dL_largest_13 (by decide) ?_
      refine g_iconst dL_largest_15 ?_
      exact g_iret dL_largest_16 rfl (by decide) (by decide) (lwP.no ho.1 hc (by decide) hI gFm.rfl)
    · have e : E = "java/lang/IllegalArgumentException" := by rw [q2, hc]; rfl
      subst e
      refine ⟨17, (hPickS (by decide) mw_515 hfa.2.1 (hPick0 (by decide) (by decide) mw_516 fc_ar)), fun q => ?_⟩
      refine g_astore dL_largest_17 (by decide) ?_
      refine g_iconst dL_largest_19 ?_
      exact g_iret dL_largest_20 rfl (by decide) (by decide) (lwP.no ho.1 hc (by decide) hI gFm.rfl)
  · obtain ⟨h0, hv, G1, hI1, hf1⟩ := hp
    subst hv
    have ko := (hf1 out ho.1).1.trans ho.2.1
    have no := (hf1 out ho.1).2.1.trans ho.2.2
    refine g_i2lw dL_largest_8 ?_
    refine g_lastore dL_largest_9 ko (by rw [no]; decide) (by rw [no]; decide) (fun A9 hA9 => ?_)
    refine g_goto (tgt := 21) dL_largest_10 (by decide) ?_
    refine g_iconst dL_largest_21 ?_
    exact g_iret dL_largest_22 rfl (by decide) (by decide) (lwP.yes (G := G) ho.1 h0 hI1 hf1 hA9)
theorem u_L_possible : gUH yL_possible cL_possible 8 (some .int) [(0, 16, 19, 13), (0, 16, 23, 15)] 7 := ⟨⟨mw_1078, mw_1077, mw_62⟩, by decide, by decide, by decide +kernel⟩
set_option maxHeartbeats 4000000 in
set_option maxRecDepth 100000 in
theorem k_L_possible (Y : gEnv) {K N : Nat → Nat} {I : Nat → Nat → Int} {A : Nat → Int → Int} {R : Nat → Nat → Option Nat} {Q : Nat → Int → Option Nat} {G : Nat → Nat × Int} {M : Nat → Prop} {x s h hq sc sg ar : Nat} {W SV T : Int → Int} {n len : Int} {out : Nat} (hI : cI K N I A R Q G M x s h hq sc sg ar W n SV T len) (ho : M out ∧ K out = 14 ∧ N out = 1) (a b c d e : Int) {code val : Int} {W' : Int → Int} {n' : Int} {SV' T' : Int → Int} {len' : Int} (hr : 0 ≤ code ∧ code ≤ 2) (hA : gC Y yX12_possible cX12_possible 7 (some .int) ({ frames := 7, cells := 4, slots := 18, locals := 120 } : Room) [.ref x, vi a, vi b, vi c, vi d, vi e] K N I A R Q (cOpP K N I A R Q M x s h hq sc sg ar code (vi val) W' n' SV' T' len') (cOpX K N I A R Q code [xIx, xAr, xSt])) : gCH Y yL_possible cL_possible 8 (some .int) [(0, 16, 19, 13), (0, 16, 23, 15)] ({ frames := 8, cells := 4, slots := 18, locals := 146 } : Room) [.ref x, vi a, vi b, vi c, vi d, vi e, .ref out] K N I A R Q (lwP K N I A R Q M x s h hq sc sg ar out code (sI val) W' n' SV' T' len' W n SV T len) := by
  refine gCH_of (by decide) (Nat.le_of_ble_eq_true rfl) rfl (fun X htab => ?_)
  refine g_aload dL_possible_0 rfl ?_
  refine g_iconst dL_possible_2 ?_
  refine g_aload_n dL_possible_3 rfl rfl ?_
  refine g_iload_n dL_possible_4 rfl rfl ?_
  refine g_iload_n dL_possible_5 rfl rfl ?_
  refine g_iload_n dL_possible_6 rfl rfl ?_
  refine g_iload dL_possible_7 rfl ?_
  refine g_iload dL_possible_9 rfl ?_
  refine g_callVH (i := 9) rfl (gK0 hI.1.1) (g_at9 hI.1.1) hA u_X12_possible mw_1079 dL_possible_11 rfl rfl ⟨Nat.le_of_ble_eq_true rfl, Nat.le_of_ble_eq_true rfl⟩ ⟨Nat.le_of_ble_eq_true rfl, Nat.le_of_ble_eq_true rfl⟩ (Nat.le_of_ble_eq_true rfl) (fun hfa E K1 N1 I1 A1 R1 Q1 hp => ?_) (fun v K1 N1 I1 A1 R1 Q1 hp => ?_)
  · obtain ⟨q1, q2, rfl, rfl, rfl, rfl, rfl, rfl⟩ := hp
    rw [htab]
    have hc : code = 1 ∨ code = 2 := by omega
    rcases hc with hc | hc
    · have e : E = "java/lang/IndexOutOfBoundsException" := by rw [q2, hc]; rfl
      subst e
      refine ⟨19, (hPick0 (by decide) (by decide) mw_515 fc_ix), fun q => ?_⟩
      refine g_astore dL_possible_19 (by decide) ?_
      refine g_iconst dL_possible_21 ?_
      exact g_iret dL_possible_22 rfl (by decide) (by decide) (lwP.no ho.1 hc (by decide) hI gFm.rfl)
    · have e : E = "java/lang/IllegalArgumentException" := by rw [q2, hc]; rfl
      subst e
      refine ⟨23, (hPickS (by decide) mw_515 hfa.2.1 (hPick0 (by decide) (by decide) mw_516 fc_ar)), fun q => ?_⟩
      refine g_astore dL_possible_23 (by decide) ?_
      refine g_iconst dL_possible_25 ?_
      exact g_iret dL_possible_26 rfl (by decide) (by decide) (lwP.no ho.1 hc (by decide) hI gFm.rfl)
  · obtain ⟨h0, hv, G1, hI1, hf1⟩ := hp
    subst hv
    have ko := (hf1 out ho.1).1.trans ho.2.1
    have no := (hf1 out ho.1).2.1.trans ho.2.2
    refine g_i2lw dL_possible_14 ?_
    refine g_lastore dL_possible_15 ko (by rw [no]; decide) (by rw [no]; decide) (fun A9 hA9 => ?_)
    refine g_goto (tgt := 27) dL_possible_16 (by decide) ?_
    refine g_iconst dL_possible_27 ?_
    exact g_iret dL_possible_28 rfl (by decide) (by decide) (lwP.yes (G := G) ho.1 h0 hI1 hf1 hA9)
theorem u_L_wouldHide : gUH yL_wouldHide cL_wouldHide 4 (some .int) [(0, 9, 12, 15)] 3 := ⟨⟨mw_1090, mw_1089, mw_62⟩, by decide, by decide, by decide +kernel⟩
set_option maxHeartbeats 4000000 in
set_option maxRecDepth 100000 in
theorem k_L_wouldHide (Y : gEnv) {K N : Nat → Nat} {I : Nat → Nat → Int} {A : Nat → Int → Int} {R : Nat → Nat → Option Nat} {Q : Nat → Int → Option Nat} {G : Nat → Nat × Int} {M : Nat → Prop} {x s h hq sc sg ar : Nat} {W SV T : Int → Int} {n len : Int} {out : Nat} (hI : cI K N I A R Q G M x s h hq sc sg ar W n SV T len) (ho : M out ∧ K out = 14 ∧ N out = 1) (a : Int) {code val : Int} {W' : Int → Int} {n' : Int} {SV' T' : Int → Int} {len' : Int} (hr : 0 ≤ code ∧ code ≤ 1) (hA : gC Y yX12_wouldHide cX12_wouldHide 2 (some .int) ({ frames := 7, cells := 1, slots := 6, locals := 120 } : Room) [.ref x, vi a] K N I A R Q (cOpP K N I A R Q M x s h hq sc sg ar code (vi val) W' n' SV' T' len') (cOpX K N I A R Q code [xAr])) : gCH Y yL_wouldHide cL_wouldHide 4 (some .int) [(0, 9, 12, 15)] ({ frames := 8, cells := 1, slots := 6, locals := 141 } : Room) [.ref x, vi a, .ref out] K N I A R Q (lwP K N I A R Q M x s h hq sc sg ar out code (sI val) W' n' SV' T' len' W n SV T len) := by
  refine gCH_of (by decide) (Nat.le_of_ble_eq_true rfl) rfl (fun X htab => ?_)
  refine g_aload_n dL_wouldHide_0 rfl rfl ?_
  refine g_iconst dL_wouldHide_1 ?_
  refine g_aload_n dL_wouldHide_2 rfl rfl ?_
  refine g_iload_n dL_wouldHide_3 rfl rfl ?_
  refine g_callVH (i := 9) rfl (gK0 hI.1.1) (g_at9 hI.1.1) hA u_X12_wouldHide mw_1091 dL_wouldHide_4 rfl rfl ⟨Nat.le_of_ble_eq_true rfl, Nat.le_of_ble_eq_true rfl⟩ ⟨Nat.le_of_ble_eq_true rfl, Nat.le_of_ble_eq_true rfl⟩ (Nat.le_of_ble_eq_true rfl) (fun hfa E K1 N1 I1 A1 R1 Q1 hp => ?_) (fun v K1 N1 I1 A1 R1 Q1 hp => ?_)
  · obtain ⟨q1, q2, rfl, rfl, rfl, rfl, rfl, rfl⟩ := hp
    rw [htab]
    have hc : code = 1 := by omega
    have e : E = "java/lang/IllegalArgumentException" := by rw [q2, hc]; rfl
    subst e
    refine ⟨12, (hPick0 (by decide) (by decide) mw_516 fc_ar), fun q => ?_⟩
    refine g_astore_n dL_wouldHide_12 rfl (by decide) ?_
    refine g_iconst dL_wouldHide_13 ?_
    exact g_iret dL_wouldHide_14 rfl (by decide) (by decide) (lwP.no ho.1 hc (by decide) hI gFm.rfl)
  · obtain ⟨h0, hv, G1, hI1, hf1⟩ := hp
    subst hv
    have ko := (hf1 out ho.1).1.trans ho.2.1
    have no := (hf1 out ho.1).2.1.trans ho.2.2
    refine g_i2lw dL_wouldHide_7 ?_
    refine g_lastore dL_wouldHide_8 ko (by rw [no]; decide) (by rw [no]; decide) (fun A9 hA9 => ?_)
    refine g_goto (tgt := 15) dL_wouldHide_9 (by decide) ?_
    refine g_iconst dL_wouldHide_15 ?_
    exact g_iret dL_wouldHide_16 rfl (by decide) (by decide) (lwP.yes (G := G) ho.1 h0 hI1 hf1 hA9)
theorem u_L_append : gUH yL_append cL_append 4 (some .int) [(0, 9, 12, 15), (0, 9, 15, 31)] 3 := ⟨⟨mw_1101, mw_1100, mw_62⟩, by decide, by decide, by decide +kernel⟩
set_option maxHeartbeats 4000000 in
set_option maxRecDepth 100000 in
theorem k_L_append (Y : gEnv) {K N : Nat → Nat} {I : Nat → Nat → Int} {A : Nat → Int → Int} {R : Nat → Nat → Option Nat} {Q : Nat → Int → Option Nat} {G : Nat → Nat × Int} {M : Nat → Prop} {x s h hq sc sg ar : Nat} {W SV T : Int → Int} {n len : Int} {out : Nat} (hI : cI K N I A R Q G M x s h hq sc sg ar W n SV T len) (ho : M out ∧ K out = 14 ∧ N out = 1) (a : Int) {code val : Int} {W' : Int → Int} {n' : Int} {SV' T' : Int → Int} {len' : Int} (hr : 0 ≤ code ∧ code ≤ 2) (hA : gC Y yX12_append cX12_append 2 (some .int) ({ frames := 7, cells := 2, slots := 12, locals := 120 } : Room) [.ref x, vi a] K N I A R Q (cOpP K N I A R Q M x s h hq sc sg ar code (vi val) W' n' SV' T' len') (cOpX K N I A R Q code [xAr, xSt])) : gCH Y yL_append cL_append 4 (some .int) [(0, 9, 12, 15), (0, 9, 15, 31)] ({ frames := 8, cells := 2, slots := 12, locals := 141 } : Room) [.ref x, vi a, .ref out] K N I A R Q (lwP K N I A R Q M x s h hq sc sg ar out code (sI val) W' n' SV' T' len' W n SV T len) := by
  refine gCH_of (by decide) (Nat.le_of_ble_eq_true rfl) rfl (fun X htab => ?_)
  refine g_aload_n dL_append_0 rfl rfl ?_
  refine g_iconst dL_append_1 ?_
  refine g_aload_n dL_append_2 rfl rfl ?_
  refine g_iload_n dL_append_3 rfl rfl ?_
  refine g_callVH (i := 9) rfl (gK0 hI.1.1) (g_at9 hI.1.1) hA u_X12_append mw_1102 dL_append_4 rfl rfl ⟨Nat.le_of_ble_eq_true rfl, Nat.le_of_ble_eq_true rfl⟩ ⟨Nat.le_of_ble_eq_true rfl, Nat.le_of_ble_eq_true rfl⟩ (Nat.le_of_ble_eq_true rfl) (fun hfa E K1 N1 I1 A1 R1 Q1 hp => ?_) (fun v K1 N1 I1 A1 R1 Q1 hp => ?_)
  · obtain ⟨q1, q2, rfl, rfl, rfl, rfl, rfl, rfl⟩ := hp
    rw [htab]
    have hc : code = 1 ∨ code = 2 := by omega
    rcases hc with hc | hc
    · have e : E = "java/lang/IllegalArgumentException" := by rw [q2, hc]; rfl
      subst e
      refine ⟨12, (hPick0 (by decide) (by decide) mw_516 fc_ar), fun q => ?_⟩
      refine g_astore_n dL_append_12 rfl (by decide) ?_
      refine g_iconst dL_append_13 ?_
      exact g_iret dL_append_14 rfl (by decide) (by decide) (lwP.no ho.1 hc (by decide) hI gFm.rfl)
    · have e : E = "java/lang/IllegalStateException" := by rw [q2, hc]; rfl
      subst e
      refine ⟨15, (hPickS (by decide) mw_516 hfa.2.2.2 (hPick0 (by decide) (by decide) mw_650 fc_st)), fun q => ?_⟩
      refine g_astore_n dL_append_15 rfl (by decide) ?_
      refine g_iconst dL_append_16 ?_
      exact g_iret dL_append_17 rfl (by decide) (by decide) (lwP.no ho.1 hc (by decide) hI gFm.rfl)
  · obtain ⟨h0, hv, G1, hI1, hf1⟩ := hp
    subst hv
    have ko := (hf1 out ho.1).1.trans ho.2.1
    have no := (hf1 out ho.1).2.1.trans ho.2.2
    refine g_i2lw dL_append_7 ?_
    refine g_lastore dL_append_8 ko (by rw [no]; decide) (by rw [no]; decide) (fun A9 hA9 => ?_)
    refine g_goto (tgt := 18) dL_append_9 (by decide) ?_
    refine g_iconst dL_append_18 ?_
    exact g_iret dL_append_19 rfl (by decide) (by decide) (lwP.yes (G := G) ho.1 h0 hI1 hf1 hA9)
theorem u_L_execute : gUH yL_execute cL_execute 3 (some .int) [(0, 8, 11, 31)] 2 := ⟨⟨mw_1112, mw_1111, mw_62⟩, by decide, by decide, by decide +kernel⟩
set_option maxHeartbeats 4000000 in
set_option maxRecDepth 100000 in
theorem k_L_execute (Y : gEnv) {K N : Nat → Nat} {I : Nat → Nat → Int} {A : Nat → Int → Int} {R : Nat → Nat → Option Nat} {Q : Nat → Int → Option Nat} {G : Nat → Nat × Int} {M : Nat → Prop} {x s h hq sc sg ar : Nat} {W SV T : Int → Int} {n len : Int} {out : Nat} (hI : cI K N I A R Q G M x s h hq sc sg ar W n SV T len) (ho : M out ∧ K out = 14 ∧ N out = 1)  {code val : Int} {W' : Int → Int} {n' : Int} {SV' T' : Int → Int} {len' : Int} (hr : 0 ≤ code ∧ code ≤ 1) (hA : gC Y yX12_execute cX12_execute 2 (some .int) ({ frames := 9, cells := 318, slots := 1963, locals := 257 } : Room) [.ref x] K N I A R Q (cOpP K N I A R Q M x s h hq sc sg ar code (vi val) W' n' SV' T' len') (cOpY K N I A R Q M x s h hq sc sg ar code [xSt] W n SV T len)) : gCH Y yL_execute cL_execute 3 (some .int) [(0, 8, 11, 31)] ({ frames := 10, cells := 318, slots := 1963, locals := 278 } : Room) [.ref x, .ref out] K N I A R Q (lwP K N I A R Q M x s h hq sc sg ar out code (sI val) W' n' SV' T' len' W n SV T len) := by
  refine gCH_of (by decide) (Nat.le_of_ble_eq_true rfl) rfl (fun X htab => ?_)
  refine g_aload_n dL_execute_0 rfl rfl ?_
  refine g_iconst dL_execute_1 ?_
  refine g_aload_n dL_execute_2 rfl rfl ?_
  refine g_callVH (i := 9) rfl (gK0 hI.1.1) (g_at9 hI.1.1) hA u_X12_execute mw_1113 dL_execute_3 rfl rfl ⟨Nat.le_of_ble_eq_true rfl, Nat.le_of_ble_eq_true rfl⟩ ⟨Nat.le_of_ble_eq_true rfl, Nat.le_of_ble_eq_true rfl⟩ (Nat.le_of_ble_eq_true rfl) (fun hfa E K1 N1 I1 A1 R1 Q1 hp => ?_) (fun v K1 N1 I1 A1 R1 Q1 hp => ?_)
  · obtain ⟨q1, q2, G1, hI1, hf1⟩ := hp
    rw [htab]
    have hc : code = 1 := by omega
    have e : E = "java/lang/IllegalStateException" := by rw [q2, hc]; rfl
    subst e
    refine ⟨11, (hPick0 (by decide) (by decide) mw_650 fc_st), fun q => ?_⟩
    refine g_astore_n dL_execute_11 rfl (by decide) ?_
    refine g_iconst dL_execute_12 ?_
    exact g_iret dL_execute_13 rfl (by decide) (by decide) (lwP.no ho.1 hc (by decide) hI1 hf1)
  · obtain ⟨h0, hv, G1, hI1, hf1⟩ := hp
    subst hv
    have ko := (hf1 out ho.1).1.trans ho.2.1
    have no := (hf1 out ho.1).2.1.trans ho.2.2
    refine g_i2lw dL_execute_6 ?_
    refine g_lastore dL_execute_7 ko (by rw [no]; decide) (by rw [no]; decide) (fun A9 hA9 => ?_)
    refine g_goto (tgt := 14) dL_execute_8 (by decide) ?_
    refine g_iconst dL_execute_14 ?_
    exact g_iret dL_execute_15 rfl (by decide) (by decide) (lwP.yes (G := G) ho.1 h0 hI1 hf1 hA9)
