/-! ===== the law's calls of the class, with their handlers ===== -/
def lqI (code val : Int) (l : List Int) : Int := if code = 0 then val else l.getD (code - 1).toNat 0
theorem lqI_z (val : Int) (l : List Int) : lqI 0 val l = val := if_pos rfl
theorem lqI_0 {code val : Int} {l : List Int} (h : code = 0) : lqI code val l = val := by subst h; exact lqI_z _ _
section LQ
variable {K N : Nat → Nat} {I : Nat → Nat → Int} {A : Nat → Int → Int} {R : Nat → Nat → Option Nat} {Q : Nat → Int → Option Nat} {G : Nat → Nat × Int} {M : Nat → Prop} {x s h hq sc sg ar : Nat} {W SV T : Int → Int} {n len : Int}
theorem lqP.no {code c : Int} {val z : Int} {l : List Int} {W' : Int → Int} {n' : Int} {SV' T' : Int → Int} {len' : Int} (hc : code = c) (h0 : c ≠ 0) (hz : l.getD (c - 1).toNat 0 = z) (hI : cI K N I A R Q G M x s h hq sc sg ar W n SV T len) : lqP K N I A R Q M x s h hq sc sg ar (vi (lqI code val l)) (if code = 0 then W' else W) (if code = 0 then n' else n) (if code = 0 then SV' else SV) (if code = 0 then T' else T) (if code = 0 then len' else len) (some (vi z)) K N I A R Q := by
  subst hc hz
  refine ⟨by unfold lqI; rw [if_neg h0], G, ?_, gFm.rfl⟩
  rw [if_neg h0, if_neg h0, if_neg h0, if_neg h0, if_neg h0]
  exact hI
theorem lqP.yes {code : Int} {val : Int} {l : List Int} {W' : Int → Int} {n' : Int} {SV' T' : Int → Int} {len' : Int} {K1 N1 : Nat → Nat} {I1 : Nat → Nat → Int} {A1 : Nat → Int → Int} {R1 : Nat → Nat → Option Nat} {Q1 : Nat → Int → Option Nat} {G1 : Nat → Nat × Int} (h0 : code = 0) (hI : cI K1 N1 I1 A1 R1 Q1 G1 M x s h hq sc sg ar W' n' SV' T' len') (hf : gFm M K N I A R Q K1 N1 I1 A1 R1 Q1) : lqP K N I A R Q M x s h hq sc sg ar (vi (lqI code val l)) (if code = 0 then W' else W) (if code = 0 then n' else n) (if code = 0 then SV' else SV) (if code = 0 then T' else T) (if code = 0 then len' else len) (some (vi val)) K1 N1 I1 A1 R1 Q1 := by
  subst h0
  refine ⟨by rw [lqI_z], G1, ?_, hf⟩
  rw [if_pos rfl, if_pos rfl, if_pos rfl, if_pos rfl, if_pos rfl]
  exact hI
theorem lqP.noR {code c : Int} {val z : Int} {l : List Int} (f : Int → Value) (hc : code = c) (h0 : c ≠ 0) (hz : l.getD (c - 1).toNat 0 = z) (hI : cI K N I A R Q G M x s h hq sc sg ar W n SV T len) : lqP K N I A R Q M x s h hq sc sg ar (f (lqI code val l)) W n SV T len (some (f z)) K N I A R Q := by
  subst hc hz
  exact ⟨by unfold lqI; rw [if_neg h0], G, hI, gFm.rfl⟩
theorem lqP.yesR {code : Int} {val : Int} {l : List Int} (f : Int → Value) {K1 N1 : Nat → Nat} {I1 : Nat → Nat → Int} {A1 : Nat → Int → Int} {R1 : Nat → Nat → Option Nat} {Q1 : Nat → Int → Option Nat} {G1 : Nat → Nat × Int} (h0 : code = 0) (hI : cI K1 N1 I1 A1 R1 Q1 G1 M x s h hq sc sg ar W n SV T len) (hf : gFm M K N I A R Q K1 N1 I1 A1 R1 Q1) : lqP K N I A R Q M x s h hq sc sg ar (f (lqI code val l)) W n SV T len (some (f val)) K1 N1 I1 A1 R1 Q1 := by
  subst h0
  exact ⟨by rw [lqI_z], G1, hI, hf⟩
end LQ
theorem u_L_setGlaze : gUH yL_setGlaze cL_setGlaze 5 (some .int) [(0, 7, 8, 15), (0, 7, 13, 18)] 4 := ⟨⟨mw_323, mw_322, mw_19⟩, by decide, by decide, by decide +kernel⟩
set_option maxHeartbeats 4000000 in
set_option maxRecDepth 100000 in
theorem k_L_setGlaze (Y : gEnv) {K N : Nat → Nat} {I : Nat → Nat → Int} {A : Nat → Int → Int} {R : Nat → Nat → Option Nat} {Q : Nat → Int → Option Nat} {G : Nat → Nat × Int} {M : Nat → Prop} {x s h hq sc sg ar : Nat} {W SV T : Int → Int} {n len : Int} (hI : cI K N I A R Q G M x s h hq sc sg ar W n SV T len) (g a b : Int) {code val : Int} {W' : Int → Int} {n' : Int} {SV' T' : Int → Int} {len' : Int} (hr : 0 ≤ code ∧ code ≤ 2) (hA : gC Y yX12_setGlaze cX12_setGlaze 6 (some .int) ({ frames := 7, cells := 319, slots := 1969, locals := 184 } : Room) [.ref x, vi g, vi a, vi b] K N I A R Q (cOpP K N I A R Q M x s h hq sc sg ar code (vi val) W' n' SV' T' len') (cOpX K N I A R Q code [xIx, xAr, xSt])) : gCH Y yL_setGlaze cL_setGlaze 5 (some .int) [(0, 7, 8, 15), (0, 7, 13, 18)] ({ frames := 8, cells := 319, slots := 1969, locals := 209 } : Room) [.ref x, vi g, vi a, vi b] K N I A R Q (lqP K N I A R Q M x s h hq sc sg ar (vi (lqI code val [-2000001, -2000002, -2000003])) (if code = 0 then W' else W) (if code = 0 then n' else n) (if code = 0 then SV' else SV) (if code = 0 then T' else T) (if code = 0 then len' else len)) := by
  refine gCH_of (by decide) (Nat.le_of_ble_eq_true rfl) rfl (fun X htab => ?_)
  refine g_aload_n dL_setGlaze_0 rfl rfl ?_
  refine g_iload_n dL_setGlaze_1 rfl rfl ?_
  refine g_iload_n dL_setGlaze_2 rfl rfl ?_
  refine g_iload_n dL_setGlaze_3 rfl rfl ?_
  refine g_callVH (i := 9) rfl (gK0 hI.1.1) (g_at9 hI.1.1) hA u_X12_setGlaze mw_326 dL_setGlaze_4 rfl rfl ⟨Nat.le_of_ble_eq_true rfl, Nat.le_of_ble_eq_true rfl⟩ ⟨Nat.le_of_ble_eq_true rfl, Nat.le_of_ble_eq_true rfl⟩ (Nat.le_of_ble_eq_true rfl) (fun hfa E K1 N1 I1 A1 R1 Q1 hp => ?_) (fun v K1 N1 I1 A1 R1 Q1 hp => ?_)
  · obtain ⟨q1, q2, rfl, rfl, rfl, rfl, rfl, rfl⟩ := hp
    rw [htab]
    have hc : code = 1 ∨ code = 2 := by omega
    rcases hc with hc | hc
    · have e : E = "java/lang/IndexOutOfBoundsException" := by rw [q2, hc]; rfl
      subst e
      refine ⟨8, (hPick0 (by decide) (by decide) mw_324 fc_ix), fun q => ?_⟩
      refine g_astore dL_setGlaze_8 (by decide) ?_
      refine g_ldc (c := -2000001) dL_setGlaze_10 mw_466 (by decide) ?_
      exact g_iret dL_setGlaze_12 rfl (by decide) (by decide) (lqP.no hc (by decide) rfl hI)
    · have e : E = "java/lang/IllegalArgumentException" := by rw [q2, hc]; rfl
      subst e
      refine ⟨13, (hPickS (by decide) mw_324 hfa.2.1 (hPick0 (by decide) (by decide) mw_325 fc_ar)), fun q => ?_⟩
      refine g_astore dL_setGlaze_13 (by decide) ?_
      refine g_ldc (c := -2000002) dL_setGlaze_15 mw_467 (by decide) ?_
      exact g_iret dL_setGlaze_17 rfl (by decide) (by decide) (lqP.no hc (by decide) rfl hI)
  · obtain ⟨h0, hv, G1, hI1, hf1⟩ := hp
    subst hv
    exact g_iret dL_setGlaze_7 rfl (by decide) (by decide) (lqP.yes h0 hI1 hf1)
theorem u_L_setQuality : gUH yL_setQuality cL_setQuality 5 (some .int) [(0, 7, 8, 15), (0, 7, 13, 18)] 4 := ⟨⟨mw_470, mw_469, mw_19⟩, by decide, by decide, by decide +kernel⟩
set_option maxHeartbeats 4000000 in
set_option maxRecDepth 100000 in
theorem k_L_setQuality (Y : gEnv) {K N : Nat → Nat} {I : Nat → Nat → Int} {A : Nat → Int → Int} {R : Nat → Nat → Option Nat} {Q : Nat → Int → Option Nat} {G : Nat → Nat × Int} {M : Nat → Prop} {x s h hq sc sg ar : Nat} {W SV T : Int → Int} {n len : Int} (hI : cI K N I A R Q G M x s h hq sc sg ar W n SV T len) (g a b : Int) {code val : Int} {W' : Int → Int} {n' : Int} {SV' T' : Int → Int} {len' : Int} (hr : 0 ≤ code ∧ code ≤ 2) (hA : gC Y yX12_setQuality cX12_setQuality 6 (some .int) ({ frames := 7, cells := 319, slots := 1969, locals := 184 } : Room) [.ref x, vi g, vi a, vi b] K N I A R Q (cOpP K N I A R Q M x s h hq sc sg ar code (vi val) W' n' SV' T' len') (cOpX K N I A R Q code [xIx, xAr, xSt])) : gCH Y yL_setQuality cL_setQuality 5 (some .int) [(0, 7, 8, 15), (0, 7, 13, 18)] ({ frames := 8, cells := 319, slots := 1969, locals := 209 } : Room) [.ref x, vi g, vi a, vi b] K N I A R Q (lqP K N I A R Q M x s h hq sc sg ar (vi (lqI code val [-2000001, -2000002, -2000003])) (if code = 0 then W' else W) (if code = 0 then n' else n) (if code = 0 then SV' else SV) (if code = 0 then T' else T) (if code = 0 then len' else len)) := by
  refine gCH_of (by decide) (Nat.le_of_ble_eq_true rfl) rfl (fun X htab => ?_)
  refine g_aload_n dL_setQuality_0 rfl rfl ?_
  refine g_iload_n dL_setQuality_1 rfl rfl ?_
  refine g_iload_n dL_setQuality_2 rfl rfl ?_
  refine g_iload_n dL_setQuality_3 rfl rfl ?_
  refine g_callVH (i := 9) rfl (gK0 hI.1.1) (g_at9 hI.1.1) hA u_X12_setQuality mw_471 dL_setQuality_4 rfl rfl ⟨Nat.le_of_ble_eq_true rfl, Nat.le_of_ble_eq_true rfl⟩ ⟨Nat.le_of_ble_eq_true rfl, Nat.le_of_ble_eq_true rfl⟩ (Nat.le_of_ble_eq_true rfl) (fun hfa E K1 N1 I1 A1 R1 Q1 hp => ?_) (fun v K1 N1 I1 A1 R1 Q1 hp => ?_)
  · obtain ⟨q1, q2, rfl, rfl, rfl, rfl, rfl, rfl⟩ := hp
    rw [htab]
    have hc : code = 1 ∨ code = 2 := by omega
    rcases hc with hc | hc
    · have e : E = "java/lang/IndexOutOfBoundsException" := by rw [q2, hc]; rfl
      subst e
      refine ⟨8, (hPick0 (by decide) (by decide) mw_324 fc_ix), fun q => ?_⟩
      refine g_astore dL_setQuality_8 (by decide) ?_
      refine g_ldc (c := -2000001) dL_setQuality_10 mw_466 (by decide) ?_
      exact g_iret dL_setQuality_12 rfl (by decide) (by decide) (lqP.no hc (by decide) rfl hI)
    · have e : E = "java/lang/IllegalArgumentException" := by rw [q2, hc]; rfl
      subst e
      refine ⟨13, (hPickS (by decide) mw_324 hfa.2.1 (hPick0 (by decide) (by decide) mw_325 fc_ar)), fun q => ?_⟩
      refine g_astore dL_setQuality_13 (by decide) ?_
      refine g_ldc (c := -2000002) dL_setQuality_15 mw_467 (by decide) ?_
      exact g_iret dL_setQuality_17 rfl (by decide) (by decide) (lqP.no hc (by decide) rfl hI)
  · obtain ⟨h0, hv, G1, hI1, hf1⟩ := hp
    subst hv
    exact g_iret dL_setQuality_7 rfl (by decide) (by decide) (lqP.yes h0 hI1 hf1)
theorem u_L_setPosition : gUH yL_setPosition cL_setPosition 6 (some .int) [(0, 9, 10, 15), (0, 9, 15, 18)] 5 := ⟨⟨mw_480, mw_479, mw_19⟩, by decide, by decide, by decide +kernel⟩
set_option maxHeartbeats 4000000 in
set_option maxRecDepth 100000 in
theorem k_L_setPosition (Y : gEnv) {K N : Nat → Nat} {I : Nat → Nat → Int} {A : Nat → Int → Int} {R : Nat → Nat → Option Nat} {Q : Nat → Int → Option Nat} {G : Nat → Nat × Int} {M : Nat → Prop} {x s h hq sc sg ar : Nat} {W SV T : Int → Int} {n len : Int} (hI : cI K N I A R Q G M x s h hq sc sg ar W n SV T len) (k p a b : Int) {code val : Int} {W' : Int → Int} {n' : Int} {SV' T' : Int → Int} {len' : Int} (hr : 0 ≤ code ∧ code ≤ 2) (hA : gC Y yX12_setPosition cX12_setPosition 7 (some .int) ({ frames := 7, cells := 319, slots := 1969, locals := 184 } : Room) [.ref x, vi k, vi p, vi a, vi b] K N I A R Q (cOpP K N I A R Q M x s h hq sc sg ar code (vi val) W' n' SV' T' len') (cOpX K N I A R Q code [xIx, xAr, xSt])) : gCH Y yL_setPosition cL_setPosition 6 (some .int) [(0, 9, 10, 15), (0, 9, 15, 18)] ({ frames := 8, cells := 319, slots := 1969, locals := 210 } : Room) [.ref x, vi k, vi p, vi a, vi b] K N I A R Q (lqP K N I A R Q M x s h hq sc sg ar (vi (lqI code val [-2000001, -2000002, -2000003])) (if code = 0 then W' else W) (if code = 0 then n' else n) (if code = 0 then SV' else SV) (if code = 0 then T' else T) (if code = 0 then len' else len)) := by
  refine gCH_of (by decide) (Nat.le_of_ble_eq_true rfl) rfl (fun X htab => ?_)
  refine g_aload_n dL_setPosition_0 rfl rfl ?_
  refine g_iload_n dL_setPosition_1 rfl rfl ?_
  refine g_iload_n dL_setPosition_2 rfl rfl ?_
  refine g_iload_n dL_setPosition_3 rfl rfl ?_
  refine g_iload dL_setPosition_4 rfl ?_
  refine g_callVH (i := 9) rfl (gK0 hI.1.1) (g_at9 hI.1.1) hA u_X12_setPosition mw_481 dL_setPosition_6 rfl rfl ⟨Nat.le_of_ble_eq_true rfl, Nat.le_of_ble_eq_true rfl⟩ ⟨Nat.le_of_ble_eq_true rfl, Nat.le_of_ble_eq_true rfl⟩ (Nat.le_of_ble_eq_true rfl) (fun hfa E K1 N1 I1 A1 R1 Q1 hp => ?_) (fun v K1 N1 I1 A1 R1 Q1 hp => ?_)
  · obtain ⟨q1, q2, rfl, rfl, rfl, rfl, rfl, rfl⟩ := hp
    rw [htab]
    have hc : code = 1 ∨ code = 2 := by omega
    rcases hc with hc | hc
    · have e : E = "java/lang/IndexOutOfBoundsException" := by rw [q2, hc]; rfl
      subst e
      refine ⟨10, (hPick0 (by decide) (by decide) mw_324 fc_ix), fun q => ?_⟩
      refine g_astore dL_setPosition_10 (by decide) ?_
      refine g_ldc (c := -2000001) dL_setPosition_12 mw_466 (by decide) ?_
      exact g_iret dL_setPosition_14 rfl (by decide) (by decide) (lqP.no hc (by decide) rfl hI)
    · have e : E = "java/lang/IllegalArgumentException" := by rw [q2, hc]; rfl
      subst e
      refine ⟨15, (hPickS (by decide) mw_324 hfa.2.1 (hPick0 (by decide) (by decide) mw_325 fc_ar)), fun q => ?_⟩
      refine g_astore dL_setPosition_15 (by decide) ?_
      refine g_ldc (c := -2000002) dL_setPosition_17 mw_467 (by decide) ?_
      exact g_iret dL_setPosition_19 rfl (by decide) (by decide) (lqP.no hc (by decide) rfl hI)
  · obtain ⟨h0, hv, G1, hI1, hf1⟩ := hp
    subst hv
    exact g_iret dL_setPosition_9 rfl (by decide) (by decide) (lqP.yes h0 hI1 hf1)
theorem u_L_setSharpness : gUH yL_setSharpness cL_setSharpness 3 (some .int) [(0, 5, 6, 18)] 2 := ⟨⟨mw_493, mw_492, mw_19⟩, by decide, by decide, by decide +kernel⟩
set_option maxHeartbeats 4000000 in
set_option maxRecDepth 100000 in
theorem k_L_setSharpness (Y : gEnv) {K N : Nat → Nat} {I : Nat → Nat → Int} {A : Nat → Int → Int} {R : Nat → Nat → Option Nat} {Q : Nat → Int → Option Nat} {G : Nat → Nat × Int} {M : Nat → Prop} {x s h hq sc sg ar : Nat} {W SV T : Int → Int} {n len : Int} (hI : cI K N I A R Q G M x s h hq sc sg ar W n SV T len) (a : Int) {code val : Int} {W' : Int → Int} {n' : Int} {SV' T' : Int → Int} {len' : Int} (hr : 0 ≤ code ∧ code ≤ 1) (hA : gC Y yX12_setSharpness cX12_setSharpness 3 (some .int) ({ frames := 7, cells := 318, slots := 1963, locals := 184 } : Room) [.ref x, vi a] K N I A R Q (cOpP K N I A R Q M x s h hq sc sg ar code (vi val) W' n' SV' T' len') (cOpX K N I A R Q code [xAr, xSt])) : gCH Y yL_setSharpness cL_setSharpness 3 (some .int) [(0, 5, 6, 18)] ({ frames := 8, cells := 318, slots := 1963, locals := 206 } : Room) [.ref x, vi a] K N I A R Q (lqP K N I A R Q M x s h hq sc sg ar (vi (lqI code val [-2000002, -2000003])) (if code = 0 then W' else W) (if code = 0 then n' else n) (if code = 0 then SV' else SV) (if code = 0 then T' else T) (if code = 0 then len' else len)) := by
  refine gCH_of (by decide) (Nat.le_of_ble_eq_true rfl) rfl (fun X htab => ?_)
  refine g_aload_n dL_setSharpness_0 rfl rfl ?_
  refine g_iload_n dL_setSharpness_1 rfl rfl ?_
  refine g_callVH (i := 9) rfl (gK0 hI.1.1) (g_at9 hI.1.1) hA u_X12_setSharpness mw_494 dL_setSharpness_2 rfl rfl ⟨Nat.le_of_ble_eq_true rfl, Nat.le_of_ble_eq_true rfl⟩ ⟨Nat.le_of_ble_eq_true rfl, Nat.le_of_ble_eq_true rfl⟩ (Nat.le_of_ble_eq_true rfl) (fun hfa E K1 N1 I1 A1 R1 Q1 hp => ?_) (fun v K1 N1 I1 A1 R1 Q1 hp => ?_)
  · obtain ⟨q1, q2, rfl, rfl, rfl, rfl, rfl, rfl⟩ := hp
    rw [htab]
    have hc : code = 1 := by omega
    have e : E = "java/lang/IllegalArgumentException" := by rw [q2, hc]; rfl
    subst e
    refine ⟨6, (hPick0 (by decide) (by decide) mw_325 fc_ar), fun q => ?_⟩
    refine g_astore_n dL_setSharpness_6 rfl (by decide) ?_
    refine g_ldc (c := -2000002) dL_setSharpness_7 mw_467 (by decide) ?_
    exact g_iret dL_setSharpness_9 rfl (by decide) (by decide) (lqP.no hc (by decide) rfl hI)
  · obtain ⟨h0, hv, G1, hI1, hf1⟩ := hp
    subst hv
    exact g_iret dL_setSharpness_5 rfl (by decide) (by decide) (lqP.yes h0 hI1 hf1)
theorem u_L_setBoxSize : gUH yL_setBoxSize cL_setBoxSize 3 (some .int) [(0, 5, 6, 18), (0, 5, 10, 35)] 2 := ⟨⟨mw_500, mw_499, mw_19⟩, by decide, by decide, by decide +kernel⟩
set_option maxHeartbeats 4000000 in
set_option maxRecDepth 100000 in
theorem k_L_setBoxSize (Y : gEnv) {K N : Nat → Nat} {I : Nat → Nat → Int} {A : Nat → Int → Int} {R : Nat → Nat → Option Nat} {Q : Nat → Int → Option Nat} {G : Nat → Nat × Int} {M : Nat → Prop} {x s h hq sc sg ar : Nat} {W SV T : Int → Int} {n len : Int} (hI : cI K N I A R Q G M x s h hq sc sg ar W n SV T len) (a : Int) {code val : Int} {W' : Int → Int} {n' : Int} {SV' T' : Int → Int} {len' : Int} (hr : 0 ≤ code ∧ code ≤ 2) (hA : gC Y yX12_setBoxSize cX12_setBoxSize 3 (some .int) ({ frames := 7, cells := 319, slots := 1969, locals := 184 } : Room) [.ref x, vi a] K N I A R Q (cOpP K N I A R Q M x s h hq sc sg ar code (vi val) W' n' SV' T' len') (cOpX K N I A R Q code [xAr, xSt])) : gCH Y yL_setBoxSize cL_setBoxSize 3 (some .int) [(0, 5, 6, 18), (0, 5, 10, 35)] ({ frames := 8, cells := 319, slots := 1969, locals := 206 } : Room) [.ref x, vi a] K N I A R Q (lqP K N I A R Q M x s h hq sc sg ar (vi (lqI code val [-2000002, -2000003])) (if code = 0 then W' else W) (if code = 0 then n' else n) (if code = 0 then SV' else SV) (if code = 0 then T' else T) (if code = 0 then len' else len)) := by
  refine gCH_of (by decide) (Nat.le_of_ble_eq_true rfl) rfl (fun X htab => ?_)
  refine g_aload_n dL_setBoxSize_0 rfl rfl ?_
  refine g_iload_n dL_setBoxSize_1 rfl rfl ?_
  refine g_callVH (i := 9) rfl (gK0 hI.1.1) (g_at9 hI.1.1) hA u_X12_setBoxSize mw_502 dL_setBoxSize_2 rfl rfl ⟨Nat.le_of_ble_eq_true rfl, Nat.le_of_ble_eq_true rfl⟩ ⟨Nat.le_of_ble_eq_true rfl, Nat.le_of_ble_eq_true rfl⟩ (Nat.le_of_ble_eq_true rfl) (fun hfa E K1 N1 I1 A1 R1 Q1 hp => ?_) (fun v K1 N1 I1 A1 R1 Q1 hp => ?_)
  · obtain ⟨q1, q2, rfl, rfl, rfl, rfl, rfl, rfl⟩ := hp
    rw [htab]
    have hc : code = 1 ∨ code = 2 := by omega
    rcases hc with hc | hc
    · have e : E = "java/lang/IllegalArgumentException" := by rw [q2, hc]; rfl
      subst e
      refine ⟨6, (hPick0 (by decide) (by decide) mw_325 fc_ar), fun q => ?_⟩
      refine g_astore_n dL_setBoxSize_6 rfl (by decide) ?_
      refine g_ldc (c := -2000002) dL_setBoxSize_7 mw_467 (by decide) ?_
      exact g_iret dL_setBoxSize_9 rfl (by decide) (by decide) (lqP.no hc (by decide) rfl hI)
    · have e : E = "java/lang/IllegalStateException" := by rw [q2, hc]; rfl
      subst e
      refine ⟨10, (hPickS (by decide) mw_325 hfa.2.2.2 (hPick0 (by decide) (by decide) mw_501 fc_st)), fun q => ?_⟩
      refine g_astore_n dL_setBoxSize_10 rfl (by decide) ?_
      refine g_ldc (c := -2000003) dL_setBoxSize_11 mw_533 (by decide) ?_
      exact g_iret dL_setBoxSize_13 rfl (by decide) (by decide) (lqP.no hc (by decide) rfl hI)
  · obtain ⟨h0, hv, G1, hI1, hf1⟩ := hp
    subst hv
    exact g_iret dL_setBoxSize_5 rfl (by decide) (by decide) (lqP.yes h0 hI1 hf1)
theorem u_L_fire : gUH yL_fire cL_fire 6 (some .int) [(0, 9, 10, 15), (0, 9, 15, 18), (0, 9, 20, 35)] 5 := ⟨⟨mw_536, mw_535, mw_19⟩, by decide, by decide, by decide +kernel⟩
set_option maxHeartbeats 4000000 in
set_option maxRecDepth 100000 in
theorem k_L_fire (Y : gEnv) {K N : Nat → Nat} {I : Nat → Nat → Int} {A : Nat → Int → Int} {R : Nat → Nat → Option Nat} {Q : Nat → Int → Option Nat} {G : Nat → Nat × Int} {M : Nat → Prop} {x s h hq sc sg ar : Nat} {W SV T : Int → Int} {n len : Int} (hI : cI K N I A R Q G M x s h hq sc sg ar W n SV T len) (a b c d : Int) {code val : Int} {W' : Int → Int} {n' : Int} {SV' T' : Int → Int} {len' : Int} (hr : 0 ≤ code ∧ code ≤ 3) (hA : gC Y yX12_fire cX12_fire 5 (some .int) ({ frames := 8, cells := 320, slots := 1975, locals := 184 } : Room) [.ref x, vi a, vi b, vi c, vi d] K N I A R Q (cOpP K N I A R Q M x s h hq sc sg ar code (vi val) W' n' SV' T' len') (cOpX K N I A R Q code [xIx, xAr, xSt])) : gCH Y yL_fire cL_fire 6 (some .int) [(0, 9, 10, 15), (0, 9, 15, 18), (0, 9, 20, 35)] ({ frames := 9, cells := 320, slots := 1975, locals := 208 } : Room) [.ref x, vi a, vi b, vi c, vi d] K N I A R Q (lqP K N I A R Q M x s h hq sc sg ar (vi (lqI code val [-2000001, -2000002, -2000003])) (if code = 0 then W' else W) (if code = 0 then n' else n) (if code = 0 then SV' else SV) (if code = 0 then T' else T) (if code = 0 then len' else len)) := by
  refine gCH_of (by decide) (Nat.le_of_ble_eq_true rfl) rfl (fun X htab => ?_)
  refine g_aload_n dL_fire_0 rfl rfl ?_
  refine g_iload_n dL_fire_1 rfl rfl ?_
  refine g_iload_n dL_fire_2 rfl rfl ?_
  refine g_iload_n dL_fire_3 rfl rfl ?_
  refine g_iload dL_fire_4 rfl ?_
  refine g_callVH (i := 9) rfl (gK0 hI.1.1) (g_at9 hI.1.1) hA u_X12_fire mw_537 dL_fire_6 rfl rfl ⟨Nat.le_of_ble_eq_true rfl, Nat.le_of_ble_eq_true rfl⟩ ⟨Nat.le_of_ble_eq_true rfl, Nat.le_of_ble_eq_true rfl⟩ (Nat.le_of_ble_eq_true rfl) (fun hfa E K1 N1 I1 A1 R1 Q1 hp => ?_) (fun v K1 N1 I1 A1 R1 Q1 hp => ?_)
  · obtain ⟨q1, q2, rfl, rfl, rfl, rfl, rfl, rfl⟩ := hp
    rw [htab]
    have hc : code = 1 ∨ code = 2 ∨ code = 3 := by omega
    rcases hc with hc | hc | hc
    · have e : E = "java/lang/IndexOutOfBoundsException" := by rw [q2, hc]; rfl
      subst e
      refine ⟨10, (hPick0 (by decide) (by decide) mw_324 fc_ix), fun q => ?_⟩
      refine g_astore dL_fire_10 (by decide) ?_
      refine g_ldc (c := -2000001) dL_fire_12 mw_466 (by decide) ?_
      exact g_iret dL_fire_14 rfl (by decide) (by decide) (lqP.no hc (by decide) rfl hI)
    · have e : E = "java/lang/IllegalArgumentException" := by rw [q2, hc]; rfl
      subst e
      refine ⟨15, (hPickS (by decide) mw_324 hfa.2.1 (hPick0 (by decide) (by decide) mw_325 fc_ar)), fun q => ?_⟩
      refine g_astore dL_fire_15 (by decide) ?_
      refine g_ldc (c := -2000002) dL_fire_17 mw_467 (by decide) ?_
      exact g_iret dL_fire_19 rfl (by decide) (by decide) (lqP.no hc (by decide) rfl hI)
    · have e : E = "java/lang/IllegalStateException" := by rw [q2, hc]; rfl
      subst e
      refine ⟨20, (hPickS (by decide) mw_324 hfa.2.2.1 (hPickS (by decide) mw_325 hfa.2.2.2 (hPick0 (by decide) (by decide) mw_501 fc_st))), fun q => ?_⟩
      refine g_astore dL_fire_20 (by decide) ?_
      refine g_ldc (c := -2000003) dL_fire_22 mw_533 (by decide) ?_
      exact g_iret dL_fire_24 rfl (by decide) (by decide) (lqP.no hc (by decide) rfl hI)
  · obtain ⟨h0, hv, G1, hI1, hf1⟩ := hp
    subst hv
    exact g_iret dL_fire_9 rfl (by decide) (by decide) (lqP.yes h0 hI1 hf1)
theorem u_L_grade : gUH yL_grade cL_grade 3 (some .int) [(0, 5, 6, 18), (0, 5, 10, 35)] 2 := ⟨⟨mw_617, mw_616, mw_19⟩, by decide, by decide, by decide +kernel⟩
set_option maxHeartbeats 4000000 in
set_option maxRecDepth 100000 in
theorem k_L_grade (Y : gEnv) {K N : Nat → Nat} {I : Nat → Nat → Int} {A : Nat → Int → Int} {R : Nat → Nat → Option Nat} {Q : Nat → Int → Option Nat} {G : Nat → Nat × Int} {M : Nat → Prop} {x s h hq sc sg ar : Nat} {W SV T : Int → Int} {n len : Int} (hI : cI K N I A R Q G M x s h hq sc sg ar W n SV T len) (a : Int) {code val : Int} {W' : Int → Int} {n' : Int} {SV' T' : Int → Int} {len' : Int} (hr : 0 ≤ code ∧ code ≤ 2) (hA : gC Y yX12_grade cX12_grade 2 (some .int) ({ frames := 8, cells := 320, slots := 1975, locals := 184 } : Room) [.ref x, vi a] K N I A R Q (cOpP K N I A R Q M x s h hq sc sg ar code (vi val) W' n' SV' T' len') (cOpX K N I A R Q code [xAr, xSt])) : gCH Y yL_grade cL_grade 3 (some .int) [(0, 5, 6, 18), (0, 5, 10, 35)] ({ frames := 9, cells := 320, slots := 1975, locals := 205 } : Room) [.ref x, vi a] K N I A R Q (lqP K N I A R Q M x s h hq sc sg ar (vi (lqI code val [-2000002, -2000003])) (if code = 0 then W' else W) (if code = 0 then n' else n) (if code = 0 then SV' else SV) (if code = 0 then T' else T) (if code = 0 then len' else len)) := by
  refine gCH_of (by decide) (Nat.le_of_ble_eq_true rfl) rfl (fun X htab => ?_)
  refine g_aload_n dL_grade_0 rfl rfl ?_
  refine g_iload_n dL_grade_1 rfl rfl ?_
  refine g_callVH (i := 9) rfl (gK0 hI.1.1) (g_at9 hI.1.1) hA u_X12_grade mw_618 dL_grade_2 rfl rfl ⟨Nat.le_of_ble_eq_true rfl, Nat.le_of_ble_eq_true rfl⟩ ⟨Nat.le_of_ble_eq_true rfl, Nat.le_of_ble_eq_true rfl⟩ (Nat.le_of_ble_eq_true rfl) (fun hfa E K1 N1 I1 A1 R1 Q1 hp => ?_) (fun v K1 N1 I1 A1 R1 Q1 hp => ?_)
  · obtain ⟨q1, q2, rfl, rfl, rfl, rfl, rfl, rfl⟩ := hp
    rw [htab]
    have hc : code = 1 ∨ code = 2 := by omega
    rcases hc with hc | hc
    · have e : E = "java/lang/IllegalArgumentException" := by rw [q2, hc]; rfl
      subst e
      refine ⟨6, (hPick0 (by decide) (by decide) mw_325 fc_ar), fun q => ?_⟩
      refine g_astore_n dL_grade_6 rfl (by decide) ?_
      refine g_ldc (c := -2000002) dL_grade_7 mw_467 (by decide) ?_
      exact g_iret dL_grade_9 rfl (by decide) (by decide) (lqP.no hc (by decide) rfl hI)
    · have e : E = "java/lang/IllegalStateException" := by rw [q2, hc]; rfl
      subst e
      refine ⟨10, (hPickS (by decide) mw_325 hfa.2.2.2 (hPick0 (by decide) (by decide) mw_501 fc_st)), fun q => ?_⟩
      refine g_astore_n dL_grade_10 rfl (by decide) ?_
      refine g_ldc (c := -2000003) dL_grade_11 mw_533 (by decide) ?_
      exact g_iret dL_grade_13 rfl (by decide) (by decide) (lqP.no hc (by decide) rfl hI)
  · obtain ⟨h0, hv, G1, hI1, hf1⟩ := hp
    subst hv
    exact g_iret dL_grade_5 rfl (by decide) (by decide) (lqP.yes h0 hI1 hf1)
theorem u_L_deliver : gUH yL_deliver cL_deliver 5 (some .int) [(0, 7, 8, 15), (0, 7, 13, 18), (0, 7, 18, 35)] 4 := ⟨⟨mw_668, mw_667, mw_19⟩, by decide, by decide, by decide +kernel⟩
set_option maxHeartbeats 4000000 in
set_option maxRecDepth 100000 in
theorem k_L_deliver (Y : gEnv) {K N : Nat → Nat} {I : Nat → Nat → Int} {A : Nat → Int → Int} {R : Nat → Nat → Option Nat} {Q : Nat → Int → Option Nat} {G : Nat → Nat × Int} {M : Nat → Prop} {x s h hq sc sg ar : Nat} {W SV T : Int → Int} {n len : Int} (hI : cI K N I A R Q G M x s h hq sc sg ar W n SV T len) (a b c : Int) {code val : Int} {W' : Int → Int} {n' : Int} {SV' T' : Int → Int} {len' : Int} (hr : 0 ≤ code ∧ code ≤ 3) (hA : gC Y yX12_deliver cX12_deliver 4 (some .int) ({ frames := 8, cells := 320, slots := 1975, locals := 184 } : Room) [.ref x, vi a, vi b, vi c] K N I A R Q (cOpP K N I A R Q M x s h hq sc sg ar code (vi val) W' n' SV' T' len') (cOpX K N I A R Q code [xIx, xAr, xSt])) : gCH Y yL_deliver cL_deliver 5 (some .int) [(0, 7, 8, 15), (0, 7, 13, 18), (0, 7, 18, 35)] ({ frames := 9, cells := 320, slots := 1975, locals := 207 } : Room) [.ref x, vi a, vi b, vi c] K N I A R Q (lqP K N I A R Q M x s h hq sc sg ar (vi (lqI code val [-2000001, -2000002, -2000003])) (if code = 0 then W' else W) (if code = 0 then n' else n) (if code = 0 then SV' else SV) (if code = 0 then T' else T) (if code = 0 then len' else len)) := by
  refine gCH_of (by decide) (Nat.le_of_ble_eq_true rfl) rfl (fun X htab => ?_)
  refine g_aload_n dL_deliver_0 rfl rfl ?_
  refine g_iload_n dL_deliver_1 rfl rfl ?_
  refine g_iload_n dL_deliver_2 rfl rfl ?_
  refine g_iload_n dL_deliver_3 rfl rfl ?_
  refine g_callVH (i := 9) rfl (gK0 hI.1.1) (g_at9 hI.1.1) hA u_X12_deliver mw_669 dL_deliver_4 rfl rfl ⟨Nat.le_of_ble_eq_true rfl, Nat.le_of_ble_eq_true rfl⟩ ⟨Nat.le_of_ble_eq_true rfl, Nat.le_of_ble_eq_true rfl⟩ (Nat.le_of_ble_eq_true rfl) (fun hfa E K1 N1 I1 A1 R1 Q1 hp => ?_) (fun v K1 N1 I1 A1 R1 Q1 hp => ?_)
  · obtain ⟨q1, q2, rfl, rfl, rfl, rfl, rfl, rfl⟩ := hp
    rw [htab]
    have hc : code = 1 ∨ code = 2 ∨ code = 3 := by omega
    rcases hc with hc | hc | hc
    · have e : E = "java/lang/IndexOutOfBoundsException" := by rw [q2, hc]; rfl
      subst e
      refine ⟨8, (hPick0 (by decide) (by decide) mw_324 fc_ix), fun q => ?_⟩
      refine g_astore dL_deliver_8 (by decide) ?_
      refine g_ldc (c := -2000001) dL_deliver_10 mw_466 (by decide) ?_
      exact g_iret dL_deliver_12 rfl (by decide) (by decide) (lqP.no hc (by decide) rfl hI)
    · have e : E = "java/lang/IllegalArgumentException" := by rw [q2, hc]; rfl
      subst e
      refine ⟨13, (hPickS (by decide) mw_324 hfa.2.1 (hPick0 (by decide) (by decide) mw_325 fc_ar)), fun q => ?_⟩
      refine g_astore dL_deliver_13 (by decide) ?_
      refine g_ldc (c := -2000002) dL_deliver_15 mw_467 (by decide) ?_
      exact g_iret dL_deliver_17 rfl (by decide) (by decide) (lqP.no hc (by decide) rfl hI)
    · have e : E = "java/lang/IllegalStateException" := by rw [q2, hc]; rfl
      subst e
      refine ⟨18, (hPickS (by decide) mw_324 hfa.2.2.1 (hPickS (by decide) mw_325 hfa.2.2.2 (hPick0 (by decide) (by decide) mw_501 fc_st))), fun q => ?_⟩
      refine g_astore dL_deliver_18 (by decide) ?_
      refine g_ldc (c := -2000003) dL_deliver_20 mw_533 (by decide) ?_
      exact g_iret dL_deliver_22 rfl (by decide) (by decide) (lqP.no hc (by decide) rfl hI)
  · obtain ⟨h0, hv, G1, hI1, hf1⟩ := hp
    subst hv
    exact g_iret dL_deliver_7 rfl (by decide) (by decide) (lqP.yes h0 hI1 hf1)
theorem u_L_drop : gUH yL_drop cL_drop 6 (some .int) [(0, 9, 10, 15), (0, 9, 15, 18), (0, 9, 20, 35)] 5 := ⟨⟨mw_726, mw_725, mw_19⟩, by decide, by decide, by decide +kernel⟩
set_option maxHeartbeats 4000000 in
set_option maxRecDepth 100000 in
theorem k_L_drop (Y : gEnv) {K N : Nat → Nat} {I : Nat → Nat → Int} {A : Nat → Int → Int} {R : Nat → Nat → Option Nat} {Q : Nat → Int → Option Nat} {G : Nat → Nat × Int} {M : Nat → Prop} {x s h hq sc sg ar : Nat} {W SV T : Int → Int} {n len : Int} (hI : cI K N I A R Q G M x s h hq sc sg ar W n SV T len) (a b c d : Int) {code val : Int} {W' : Int → Int} {n' : Int} {SV' T' : Int → Int} {len' : Int} (hr : 0 ≤ code ∧ code ≤ 3) (hA : gC Y yX12_drop cX12_drop 5 (some .int) ({ frames := 8, cells := 320, slots := 1975, locals := 189 } : Room) [.ref x, vi a, vi b, vi c, vi d] K N I A R Q (cOpP K N I A R Q M x s h hq sc sg ar code (vi val) W' n' SV' T' len') (cOpX K N I A R Q code [xIx, xAr, xSt])) : gCH Y yL_drop cL_drop 6 (some .int) [(0, 9, 10, 15), (0, 9, 15, 18), (0, 9, 20, 35)] ({ frames := 9, cells := 320, slots := 1975, locals := 213 } : Room) [.ref x, vi a, vi b, vi c, vi d] K N I A R Q (lqP K N I A R Q M x s h hq sc sg ar (vi (lqI code val [-2000001, -2000002, -2000003])) (if code = 0 then W' else W) (if code = 0 then n' else n) (if code = 0 then SV' else SV) (if code = 0 then T' else T) (if code = 0 then len' else len)) := by
  refine gCH_of (by decide) (Nat.le_of_ble_eq_true rfl) rfl (fun X htab => ?_)
  refine g_aload_n dL_drop_0 rfl rfl ?_
  refine g_iload_n dL_drop_1 rfl rfl ?_
  refine g_iload_n dL_drop_2 rfl rfl ?_
  refine g_iload_n dL_drop_3 rfl rfl ?_
  refine g_iload dL_drop_4 rfl ?_
  refine g_callVH (i := 9) rfl (gK0 hI.1.1) (g_at9 hI.1.1) hA u_X12_drop mw_727 dL_drop_6 rfl rfl ⟨Nat.le_of_ble_eq_true rfl, Nat.le_of_ble_eq_true rfl⟩ ⟨Nat.le_of_ble_eq_true rfl, Nat.le_of_ble_eq_true rfl⟩ (Nat.le_of_ble_eq_true rfl) (fun hfa E K1 N1 I1 A1 R1 Q1 hp => ?_) (fun v K1 N1 I1 A1 R1 Q1 hp => ?_)
  · obtain ⟨q1, q2, rfl, rfl, rfl, rfl, rfl, rfl⟩ := hp
    rw [htab]
    have hc : code = 1 ∨ code = 2 ∨ code = 3 := by omega
    rcases hc with hc | hc | hc
    · have e : E = "java/lang/IndexOutOfBoundsException" := by rw [q2, hc]; rfl
      subst e
      refine ⟨10, (hPick0 (by decide) (by decide) mw_324 fc_ix), fun q => ?_⟩
      refine g_astore dL_drop_10 (by decide) ?_
      refine g_ldc (c := -2000001) dL_drop_12 mw_466 (by decide) ?_
      exact g_iret dL_drop_14 rfl (by decide) (by decide) (lqP.no hc (by decide) rfl hI)
    · have e : E = "java/lang/IllegalArgumentException" := by rw [q2, hc]; rfl
      subst e
      refine ⟨15, (hPickS (by decide) mw_324 hfa.2.1 (hPick0 (by decide) (by decide) mw_325 fc_ar)), fun q => ?_⟩
      refine g_astore dL_drop_15 (by decide) ?_
      refine g_ldc (c := -2000002) dL_drop_17 mw_467 (by decide) ?_
      exact g_iret dL_drop_19 rfl (by decide) (by decide) (lqP.no hc (by decide) rfl hI)
    · have e : E = "java/lang/IllegalStateException" := by rw [q2, hc]; rfl
      subst e
      refine ⟨20, (hPickS (by decide) mw_324 hfa.2.2.1 (hPickS (by decide) mw_325 hfa.2.2.2 (hPick0 (by decide) (by decide) mw_501 fc_st))), fun q => ?_⟩
      refine g_astore dL_drop_20 (by decide) ?_
      refine g_ldc (c := -2000003) dL_drop_22 mw_533 (by decide) ?_
      exact g_iret dL_drop_24 rfl (by decide) (by decide) (lqP.no hc (by decide) rfl hI)
  · obtain ⟨h0, hv, G1, hI1, hf1⟩ := hp
    subst hv
    exact g_iret dL_drop_9 rfl (by decide) (by decide) (lqP.yes h0 hI1 hf1)
theorem u_L_takeBack : gUH yL_takeBack cL_takeBack 5 (some .int) [(0, 7, 8, 15), (0, 7, 13, 18), (0, 7, 18, 35)] 4 := ⟨⟨mw_746, mw_745, mw_19⟩, by decide, by decide, by decide +kernel⟩
set_option maxHeartbeats 4000000 in
set_option maxRecDepth 100000 in
theorem k_L_takeBack (Y : gEnv) {K N : Nat → Nat} {I : Nat → Nat → Int} {A : Nat → Int → Int} {R : Nat → Nat → Option Nat} {Q : Nat → Int → Option Nat} {G : Nat → Nat × Int} {M : Nat → Prop} {x s h hq sc sg ar : Nat} {W SV T : Int → Int} {n len : Int} (hI : cI K N I A R Q G M x s h hq sc sg ar W n SV T len) (a b c : Int) {code val : Int} {W' : Int → Int} {n' : Int} {SV' T' : Int → Int} {len' : Int} (hr : 0 ≤ code ∧ code ≤ 3) (hA : gC Y yX12_takeBack cX12_takeBack 4 (some .int) ({ frames := 8, cells := 320, slots := 1975, locals := 187 } : Room) [.ref x, vi a, vi b, vi c] K N I A R Q (cOpP K N I A R Q M x s h hq sc sg ar code (vi val) W' n' SV' T' len') (cOpX K N I A R Q code [xIx, xAr, xSt])) : gCH Y yL_takeBack cL_takeBack 5 (some .int) [(0, 7, 8, 15), (0, 7, 13, 18), (0, 7, 18, 35)] ({ frames := 9, cells := 320, slots := 1975, locals := 210 } : Room) [.ref x, vi a, vi b, vi c] K N I A R Q (lqP K N I A R Q M x s h hq sc sg ar (vi (lqI code val [-2000001, -2000002, -2000003])) (if code = 0 then W' else W) (if code = 0 then n' else n) (if code = 0 then SV' else SV) (if code = 0 then T' else T) (if code = 0 then len' else len)) := by
  refine gCH_of (by decide) (Nat.le_of_ble_eq_true rfl) rfl (fun X htab => ?_)
  refine g_aload_n dL_takeBack_0 rfl rfl ?_
  refine g_iload_n dL_takeBack_1 rfl rfl ?_
  refine g_iload_n dL_takeBack_2 rfl rfl ?_
  refine g_iload_n dL_takeBack_3 rfl rfl ?_
  refine g_callVH (i := 9) rfl (gK0 hI.1.1) (g_at9 hI.1.1) hA u_X12_takeBack mw_747 dL_takeBack_4 rfl rfl ⟨Nat.le_of_ble_eq_true rfl, Nat.le_of_ble_eq_true rfl⟩ ⟨Nat.le_of_ble_eq_true rfl, Nat.le_of_ble_eq_true rfl⟩ (Nat.le_of_ble_eq_true rfl) (fun hfa E K1 N1 I1 A1 R1 Q1 hp => ?_) (fun v K1 N1 I1 A1 R1 Q1 hp => ?_)
  · obtain ⟨q1, q2, rfl, rfl, rfl, rfl, rfl, rfl⟩ := hp
    rw [htab]
    have hc : code = 1 ∨ code = 2 ∨ code = 3 := by omega
    rcases hc with hc | hc | hc
    · have e : E = "java/lang/IndexOutOfBoundsException" := by rw [q2, hc]; rfl
      subst e
      refine ⟨8, (hPick0 (by decide) (by decide) mw_324 fc_ix), fun q => ?_⟩
      refine g_astore dL_takeBack_8 (by decide) ?_
      refine g_ldc (c := -2000001) dL_takeBack_10 mw_466 (by decide) ?_
      exact g_iret dL_takeBack_12 rfl (by decide) (by decide) (lqP.no hc (by decide) rfl hI)
    · have e : E = "java/lang/IllegalArgumentException" := by rw [q2, hc]; rfl
      subst e
      refine ⟨13, (hPickS (by decide) mw_324 hfa.2.1 (hPick0 (by decide) (by decide) mw_325 fc_ar)), fun q => ?_⟩
      refine g_astore dL_takeBack_13 (by decide) ?_
      refine g_ldc (c := -2000002) dL_takeBack_15 mw_467 (by decide) ?_
      exact g_iret dL_takeBack_17 rfl (by decide) (by decide) (lqP.no hc (by decide) rfl hI)
    · have e : E = "java/lang/IllegalStateException" := by rw [q2, hc]; rfl
      subst e
      refine ⟨18, (hPickS (by decide) mw_324 hfa.2.2.1 (hPickS (by decide) mw_325 hfa.2.2.2 (hPick0 (by decide) (by decide) mw_501 fc_st))), fun q => ?_⟩
      refine g_astore dL_takeBack_18 (by decide) ?_
      refine g_ldc (c := -2000003) dL_takeBack_20 mw_533 (by decide) ?_
      exact g_iret dL_takeBack_22 rfl (by decide) (by decide) (lqP.no hc (by decide) rfl hI)
  · obtain ⟨h0, hv, G1, hI1, hf1⟩ := hp
    subst hv
    exact g_iret dL_takeBack_7 rfl (by decide) (by decide) (lqP.yes h0 hI1 hf1)
theorem u_L_replace : gUH yL_replace cL_replace 3 (some .int) [(0, 5, 6, 15), (0, 5, 10, 35)] 2 := ⟨⟨mw_765, mw_764, mw_19⟩, by decide, by decide, by decide +kernel⟩
set_option maxHeartbeats 4000000 in
set_option maxRecDepth 100000 in
theorem k_L_replace (Y : gEnv) {K N : Nat → Nat} {I : Nat → Nat → Int} {A : Nat → Int → Int} {R : Nat → Nat → Option Nat} {Q : Nat → Int → Option Nat} {G : Nat → Nat × Int} {M : Nat → Prop} {x s h hq sc sg ar : Nat} {W SV T : Int → Int} {n len : Int} (hI : cI K N I A R Q G M x s h hq sc sg ar W n SV T len) (a : Int) {code val : Int} {W' : Int → Int} {n' : Int} {SV' T' : Int → Int} {len' : Int} (hr : 0 ≤ code ∧ code ≤ 2) (hA : gC Y yX12_replace cX12_replace 2 (some .int) ({ frames := 8, cells := 320, slots := 1975, locals := 187 } : Room) [.ref x, vi a] K N I A R Q (cOpP K N I A R Q M x s h hq sc sg ar code (vi val) W' n' SV' T' len') (cOpX K N I A R Q code [xIx, xSt])) : gCH Y yL_replace cL_replace 3 (some .int) [(0, 5, 6, 15), (0, 5, 10, 35)] ({ frames := 9, cells := 320, slots := 1975, locals := 208 } : Room) [.ref x, vi a] K N I A R Q (lqP K N I A R Q M x s h hq sc sg ar (vi (lqI code val [-2000001, -2000003])) (if code = 0 then W' else W) (if code = 0 then n' else n) (if code = 0 then SV' else SV) (if code = 0 then T' else T) (if code = 0 then len' else len)) := by
  refine gCH_of (by decide) (Nat.le_of_ble_eq_true rfl) rfl (fun X htab => ?_)
  refine g_aload_n dL_replace_0 rfl rfl ?_
  refine g_iload_n dL_replace_1 rfl rfl ?_
  refine g_callVH (i := 9) rfl (gK0 hI.1.1) (g_at9 hI.1.1) hA u_X12_replace mw_766 dL_replace_2 rfl rfl ⟨Nat.le_of_ble_eq_true rfl, Nat.le_of_ble_eq_true rfl⟩ ⟨Nat.le_of_ble_eq_true rfl, Nat.le_of_ble_eq_true rfl⟩ (Nat.le_of_ble_eq_true rfl) (fun hfa E K1 N1 I1 A1 R1 Q1 hp => ?_) (fun v K1 N1 I1 A1 R1 Q1 hp => ?_)
  · obtain ⟨q1, q2, rfl, rfl, rfl, rfl, rfl, rfl⟩ := hp
    rw [htab]
    have hc : code = 1 ∨ code = 2 := by omega
    rcases hc with hc | hc
    · have e : E = "java/lang/IndexOutOfBoundsException" := by rw [q2, hc]; rfl
      subst e
      refine ⟨6, (hPick0 (by decide) (by decide) mw_324 fc_ix), fun q => ?_⟩
      refine g_astore_n dL_replace_6 rfl (by decide) ?_
      refine g_ldc (c := -2000001) dL_replace_7 mw_466 (by decide) ?_
      exact g_iret dL_replace_9 rfl (by decide) (by decide) (lqP.no hc (by decide) rfl hI)
    · have e : E = "java/lang/IllegalStateException" := by rw [q2, hc]; rfl
      subst e
      refine ⟨10, (hPickS (by decide) mw_324 hfa.2.2.1 (hPick0 (by decide) (by decide) mw_501 fc_st)), fun q => ?_⟩
      refine g_astore_n dL_replace_10 rfl (by decide) ?_
      refine g_ldc (c := -2000003) dL_replace_11 mw_533 (by decide) ?_
      exact g_iret dL_replace_13 rfl (by decide) (by decide) (lqP.no hc (by decide) rfl hI)
  · obtain ⟨h0, hv, G1, hI1, hf1⟩ := hp
    subst hv
    exact g_iret dL_replace_5 rfl (by decide) (by decide) (lqP.yes h0 hI1 hf1)
theorem u_L_undo : gUH yL_undo cL_undo 2 (some .int) [(0, 4, 5, 35)] 1 := ⟨⟨mw_780, mw_779, mw_19⟩, by decide, by decide, by decide +kernel⟩
set_option maxHeartbeats 4000000 in
set_option maxRecDepth 100000 in
theorem k_L_undo (Y : gEnv) {K N : Nat → Nat} {I : Nat → Nat → Int} {A : Nat → Int → Int} {R : Nat → Nat → Option Nat} {Q : Nat → Int → Option Nat} {G : Nat → Nat × Int} {M : Nat → Prop} {x s h hq sc sg ar : Nat} {W SV T : Int → Int} {n len : Int} (hI : cI K N I A R Q G M x s h hq sc sg ar W n SV T len)  {code val : Int} {W' : Int → Int} {n' : Int} {SV' T' : Int → Int} {len' : Int} (hr : 0 ≤ code ∧ code ≤ 1) (hA : gC Y yX12_undo cX12_undo 1 (some .int) ({ frames := 7, cells := 1, slots := 6, locals := 184 } : Room) [.ref x] K N I A R Q (cOpP K N I A R Q M x s h hq sc sg ar code (vi val) W' n' SV' T' len') (cOpX K N I A R Q code [xSt])) : gCH Y yL_undo cL_undo 2 (some .int) [(0, 4, 5, 35)] ({ frames := 8, cells := 1, slots := 6, locals := 204 } : Room) [.ref x] K N I A R Q (lqP K N I A R Q M x s h hq sc sg ar (vi (lqI code val [-2000003])) (if code = 0 then W' else W) (if code = 0 then n' else n) (if code = 0 then SV' else SV) (if code = 0 then T' else T) (if code = 0 then len' else len)) := by
  refine gCH_of (by decide) (Nat.le_of_ble_eq_true rfl) rfl (fun X htab => ?_)
  refine g_aload_n dL_undo_0 rfl rfl ?_
  refine g_callVH (i := 9) rfl (gK0 hI.1.1) (g_at9 hI.1.1) hA u_X12_undo mw_781 dL_undo_1 rfl rfl ⟨Nat.le_of_ble_eq_true rfl, Nat.le_of_ble_eq_true rfl⟩ ⟨Nat.le_of_ble_eq_true rfl, Nat.le_of_ble_eq_true rfl⟩ (Nat.le_of_ble_eq_true rfl) (fun hfa E K1 N1 I1 A1 R1 Q1 hp => ?_) (fun v K1 N1 I1 A1 R1 Q1 hp => ?_)
  · obtain ⟨q1, q2, rfl, rfl, rfl, rfl, rfl, rfl⟩ := hp
    rw [htab]
    have hc : code = 1 := by omega
    have e : E = "java/lang/IllegalStateException" := by rw [q2, hc]; rfl
    subst e
    refine ⟨5, (hPick0 (by decide) (by decide) mw_501 fc_st), fun q => ?_⟩
    refine g_astore_n dL_undo_5 rfl (by decide) ?_
    refine g_ldc (c := -2000003) dL_undo_6 mw_533 (by decide) ?_
    exact g_iret dL_undo_8 rfl (by decide) (by decide) (lqP.no hc (by decide) rfl hI)
  · obtain ⟨h0, hv, G1, hI1, hf1⟩ := hp
    subst hv
    exact g_iret dL_undo_4 rfl (by decide) (by decide) (lqP.yes h0 hI1 hf1)
theorem u_L_lot : gUH yL_lot cL_lot 4 (some .int) [(0, 6, 7, 15), (0, 6, 11, 18)] 3 := ⟨⟨mw_714, mw_713, mw_19⟩, by decide, by decide, by decide +kernel⟩
set_option maxHeartbeats 4000000 in
set_option maxRecDepth 100000 in
theorem k_L_lot (Y : gEnv) {K N : Nat → Nat} {I : Nat → Nat → Int} {A : Nat → Int → Int} {R : Nat → Nat → Option Nat} {Q : Nat → Int → Option Nat} {G : Nat → Nat × Int} {M : Nat → Prop} {x s h hq sc sg ar : Nat} {W SV T : Int → Int} {n len : Int} (hI : cI K N I A R Q G M x s h hq sc sg ar W n SV T len) (i p : Int) {code val : Int} (hr : 0 ≤ code ∧ code ≤ 2) (hA : gC Y yX12_lot cX12_lot 3 (some .int) ({ frames := 7, cells := 2, slots := 12, locals := 120 } : Room) [.ref x, vi i, vi p] K N I A R Q (cOpP K N I A R Q M x s h hq sc sg ar code (vi val) W n SV T len) (cOpX K N I A R Q code [xIx, xAr, xSt])) : gCH Y yL_lot cL_lot 4 (some .int) [(0, 6, 7, 15), (0, 6, 11, 18)] ({ frames := 8, cells := 2, slots := 12, locals := 142 } : Room) [.ref x, vi i, vi p] K N I A R Q (lqP K N I A R Q M x s h hq sc sg ar (vi (lqI code val [-2000001, -2000002, -2000003])) W n SV T len) := by
  refine gCH_of (by decide) (Nat.le_of_ble_eq_true rfl) rfl (fun X htab => ?_)
  refine g_aload_n dL_lot_0 rfl rfl ?_
  refine g_iload_n dL_lot_1 rfl rfl ?_
  refine g_iload_n dL_lot_2 rfl rfl ?_
  refine g_callVH (i := 9) rfl (gK0 hI.1.1) (g_at9 hI.1.1) hA u_X12_lot mw_715 dL_lot_3 rfl rfl ⟨Nat.le_of_ble_eq_true rfl, Nat.le_of_ble_eq_true rfl⟩ ⟨Nat.le_of_ble_eq_true rfl, Nat.le_of_ble_eq_true rfl⟩ (Nat.le_of_ble_eq_true rfl) (fun hfa E K1 N1 I1 A1 R1 Q1 hp => ?_) (fun v K1 N1 I1 A1 R1 Q1 hp => ?_)
  · obtain ⟨q1, q2, rfl, rfl, rfl, rfl, rfl, rfl⟩ := hp
    rw [htab]
    have hc : code = 1 ∨ code = 2 := by omega
    rcases hc with hc | hc
    · have e : E = "java/lang/IndexOutOfBoundsException" := by rw [q2, hc]; rfl
      subst e
      refine ⟨7, (hPick0 (by decide) (by decide) mw_324 fc_ix), fun q => ?_⟩
      refine g_astore_n dL_lot_7 rfl (by decide) ?_
      refine g_ldc (c := -2000001) dL_lot_8 mw_466 (by decide) ?_
      exact g_iret dL_lot_10 rfl (by decide) (by decide) (lqP.noR vi hc (by decide) rfl hI)
    · have e : E = "java/lang/IllegalArgumentException" := by rw [q2, hc]; rfl
      subst e
      refine ⟨11, (hPickS (by decide) mw_324 hfa.2.1 (hPick0 (by decide) (by decide) mw_325 fc_ar)), fun q => ?_⟩
      refine g_astore_n dL_lot_11 rfl (by decide) ?_
      refine g_ldc (c := -2000002) dL_lot_12 mw_467 (by decide) ?_
      exact g_iret dL_lot_14 rfl (by decide) (by decide) (lqP.noR vi hc (by decide) rfl hI)
  · obtain ⟨h0, hv, G1, hI1, hf1⟩ := hp
    subst hv
    exact g_iret dL_lot_6 rfl (by decide) (by decide) (lqP.yesR vi h0 hI1 hf1)
theorem u_L_delivery : gUH yL_delivery cL_delivery 4 (some .long) [(0, 6, 7, 15), (0, 6, 12, 18)] 3 := ⟨⟨mw_1014, mw_1013, mw_19⟩, by decide, by decide, by decide +kernel⟩
set_option maxHeartbeats 4000000 in
set_option maxRecDepth 100000 in
theorem k_L_delivery (Y : gEnv) {K N : Nat → Nat} {I : Nat → Nat → Int} {A : Nat → Int → Int} {R : Nat → Nat → Option Nat} {Q : Nat → Int → Option Nat} {G : Nat → Nat × Int} {M : Nat → Prop} {x s h hq sc sg ar : Nat} {W SV T : Int → Int} {n len : Int} (hI : cI K N I A R Q G M x s h hq sc sg ar W n SV T len) (i p : Int) {code val : Int} (hr : 0 ≤ code ∧ code ≤ 2) (hA : gC Y yX12_delivery cX12_delivery 3 (some .long) ({ frames := 7, cells := 2, slots := 12, locals := 120 } : Room) [.ref x, vi i, vi p] K N I A R Q (cOpP K N I A R Q M x s h hq sc sg ar code (vl val) W n SV T len) (cOpX K N I A R Q code [xIx, xAr, xSt])) : gCH Y yL_delivery cL_delivery 4 (some .long) [(0, 6, 7, 15), (0, 6, 12, 18)] ({ frames := 8, cells := 2, slots := 12, locals := 142 } : Room) [.ref x, vi i, vi p] K N I A R Q (lqP K N I A R Q M x s h hq sc sg ar (vl (lqI code val [-2000001, -2000002, -2000003])) W n SV T len) := by
  refine gCH_of (by decide) (Nat.le_of_ble_eq_true rfl) rfl (fun X htab => ?_)
  refine g_aload_n dL_delivery_0 rfl rfl ?_
  refine g_iload_n dL_delivery_1 rfl rfl ?_
  refine g_iload_n dL_delivery_2 rfl rfl ?_
  refine g_callVH (i := 9) rfl (gK0 hI.1.1) (g_at9 hI.1.1) hA u_X12_delivery mw_1015 dL_delivery_3 rfl rfl ⟨Nat.le_of_ble_eq_true rfl, Nat.le_of_ble_eq_true rfl⟩ ⟨Nat.le_of_ble_eq_true rfl, Nat.le_of_ble_eq_true rfl⟩ (Nat.le_of_ble_eq_true rfl) (fun hfa E K1 N1 I1 A1 R1 Q1 hp => ?_) (fun v K1 N1 I1 A1 R1 Q1 hp => ?_)
  · obtain ⟨q1, q2, rfl, rfl, rfl, rfl, rfl, rfl⟩ := hp
    rw [htab]
    have hc : code = 1 ∨ code = 2 := by omega
    rcases hc with hc | hc
    · have e : E = "java/lang/IndexOutOfBoundsException" := by rw [q2, hc]; rfl
      subst e
      refine ⟨7, (hPick0 (by decide) (by decide) mw_324 fc_ix), fun q => ?_⟩
      refine g_astore_n dL_delivery_7 rfl (by decide) ?_
      refine g_ldc2 (c := -2000001) dL_delivery_8 mw_1024 (by decide) ?_
      exact g_lret dL_delivery_11 rfl (by decide) (by decide) (lqP.noR vl hc (by decide) rfl hI)
    · have e : E = "java/lang/IllegalArgumentException" := by rw [q2, hc]; rfl
      subst e
      refine ⟨12, (hPickS (by decide) mw_324 hfa.2.1 (hPick0 (by decide) (by decide) mw_325 fc_ar)), fun q => ?_⟩
      refine g_astore_n dL_delivery_12 rfl (by decide) ?_
      refine g_ldc2 (c := -2000002) dL_delivery_13 mw_1008 (by decide) ?_
      exact g_lret dL_delivery_16 rfl (by decide) (by decide) (lqP.noR vl hc (by decide) rfl hI)
  · obtain ⟨h0, hv, G1, hI1, hf1⟩ := hp
    subst hv
    exact g_lret dL_delivery_6 rfl (by decide) (by decide) (lqP.yesR vl h0 hI1 hf1)
theorem u_L_event : gUH yL_event cL_event 4 (some .int) [(0, 6, 7, 18)] 3 := ⟨⟨mw_856, mw_855, mw_19⟩, by decide, by decide, by decide +kernel⟩
set_option maxHeartbeats 4000000 in
set_option maxRecDepth 100000 in
theorem k_L_event (Y : gEnv) {K N : Nat → Nat} {I : Nat → Nat → Int} {A : Nat → Int → Int} {R : Nat → Nat → Option Nat} {Q : Nat → Int → Option Nat} {G : Nat → Nat × Int} {M : Nat → Prop} {x s h hq sc sg ar : Nat} {W SV T : Int → Int} {n len : Int} (hI : cI K N I A R Q G M x s h hq sc sg ar W n SV T len) (i p : Int) {code val : Int} (hr : 0 ≤ code ∧ code ≤ 1) (hA : gC Y yX12_event cX12_event 3 (some .int) ({ frames := 7, cells := 1, slots := 6, locals := 120 } : Room) [.ref x, vi i, vi p] K N I A R Q (cOpP K N I A R Q M x s h hq sc sg ar code (vi val) W n SV T len) (cOpX K N I A R Q code [xAr])) : gCH Y yL_event cL_event 4 (some .int) [(0, 6, 7, 18)] ({ frames := 8, cells := 1, slots := 6, locals := 142 } : Room) [.ref x, vi i, vi p] K N I A R Q (lqP K N I A R Q M x s h hq sc sg ar (vi (lqI code val [-2000002])) W n SV T len) := by
  refine gCH_of (by decide) (Nat.le_of_ble_eq_true rfl) rfl (fun X htab => ?_)
  refine g_aload_n dL_event_0 rfl rfl ?_
  refine g_iload_n dL_event_1 rfl rfl ?_
  refine g_iload_n dL_event_2 rfl rfl ?_
  refine g_callVH (i := 9) rfl (gK0 hI.1.1) (g_at9 hI.1.1) hA u_X12_event mw_857 dL_event_3 rfl rfl ⟨Nat.le_of_ble_eq_true rfl, Nat.le_of_ble_eq_true rfl⟩ ⟨Nat.le_of_ble_eq_true rfl, Nat.le_of_ble_eq_true rfl⟩ (Nat.le_of_ble_eq_true rfl) (fun hfa E K1 N1 I1 A1 R1 Q1 hp => ?_) (fun v K1 N1 I1 A1 R1 Q1 hp => ?_)
  · obtain ⟨q1, q2, rfl, rfl, rfl, rfl, rfl, rfl⟩ := hp
    rw [htab]
    have hc : code = 1 := by omega
    have e : E = "java/lang/IllegalArgumentException" := by rw [q2, hc]; rfl
    subst e
    refine ⟨7, (hPick0 (by decide) (by decide) mw_325 fc_ar), fun q => ?_⟩
    refine g_astore_n dL_event_7 rfl (by decide) ?_
    refine g_ldc (c := -2000002) dL_event_8 mw_467 (by decide) ?_
    exact g_iret dL_event_10 rfl (by decide) (by decide) (lqP.noR vi hc (by decide) rfl hI)
  · obtain ⟨h0, hv, G1, hI1, hf1⟩ := hp
    subst hv
    exact g_iret dL_event_6 rfl (by decide) (by decide) (lqP.yesR vi h0 hI1 hf1)
theorem u_L_total : gUH yL_total cL_total 3 (some .long) [(0, 5, 6, 18)] 2 := ⟨⟨mw_976, mw_975, mw_19⟩, by decide, by decide, by decide +kernel⟩
set_option maxHeartbeats 4000000 in
set_option maxRecDepth 100000 in
theorem k_L_total (Y : gEnv) {K N : Nat → Nat} {I : Nat → Nat → Int} {A : Nat → Int → Int} {R : Nat → Nat → Option Nat} {Q : Nat → Int → Option Nat} {G : Nat → Nat × Int} {M : Nat → Prop} {x s h hq sc sg ar : Nat} {W SV T : Int → Int} {n len : Int} (hI : cI K N I A R Q G M x s h hq sc sg ar W n SV T len) (p : Int) {code val : Int} (hr : 0 ≤ code ∧ code ≤ 1) (hA : gC Y yX12_total cX12_total 2 (some .long) ({ frames := 7, cells := 1, slots := 6, locals := 120 } : Room) [.ref x, vi p] K N I A R Q (cOpP K N I A R Q M x s h hq sc sg ar code (vl val) W n SV T len) (cOpX K N I A R Q code [xAr])) : gCH Y yL_total cL_total 3 (some .long) [(0, 5, 6, 18)] ({ frames := 8, cells := 1, slots := 6, locals := 141 } : Room) [.ref x, vi p] K N I A R Q (lqP K N I A R Q M x s h hq sc sg ar (vl (lqI code val [-2000002])) W n SV T len) := by
  refine gCH_of (by decide) (Nat.le_of_ble_eq_true rfl) rfl (fun X htab => ?_)
  refine g_aload_n dL_total_0 rfl rfl ?_
  refine g_iload_n dL_total_1 rfl rfl ?_
  refine g_callVH (i := 9) rfl (gK0 hI.1.1) (g_at9 hI.1.1) hA u_X12_total mw_977 dL_total_2 rfl rfl ⟨Nat.le_of_ble_eq_true rfl, Nat.le_of_ble_eq_true rfl⟩ ⟨Nat.le_of_ble_eq_true rfl, Nat.le_of_ble_eq_true rfl⟩ (Nat.le_of_ble_eq_true rfl) (fun hfa E K1 N1 I1 A1 R1 Q1 hp => ?_) (fun v K1 N1 I1 A1 R1 Q1 hp => ?_)
  · obtain ⟨q1, q2, rfl, rfl, rfl, rfl, rfl, rfl⟩ := hp
    rw [htab]
    have hc : code = 1 := by omega
    have e : E = "java/lang/IllegalArgumentException" := by rw [q2, hc]; rfl
    subst e
    refine ⟨6, (hPick0 (by decide) (by decide) mw_325 fc_ar), fun q => ?_⟩
    refine g_astore_n dL_total_6 rfl (by decide) ?_
    refine g_ldc2 (c := -2000002) dL_total_7 mw_1008 (by decide) ?_
    exact g_lret dL_total_10 rfl (by decide) (by decide) (lqP.noR vl hc (by decide) rfl hI)
  · obtain ⟨h0, hv, G1, hI1, hf1⟩ := hp
    subst hv
    exact g_lret dL_total_5 rfl (by decide) (by decide) (lqP.yesR vl h0 hI1 hf1)
theorem u_L_shadeAt : gUH yL_shadeAt cL_shadeAt 6 (some .int) [(0, 9, 10, 15), (0, 9, 15, 18)] 5 := ⟨⟨mw_794, mw_793, mw_19⟩, by decide, by decide, by decide +kernel⟩
set_option maxHeartbeats 4000000 in
set_option maxRecDepth 100000 in
theorem k_L_shadeAt (Y : gEnv) {K N : Nat → Nat} {I : Nat → Nat → Int} {A : Nat → Int → Int} {R : Nat → Nat → Option Nat} {Q : Nat → Int → Option Nat} {G : Nat → Nat × Int} {M : Nat → Prop} {x s h hq sc sg ar : Nat} {W SV T : Int → Int} {n len : Int} (hI : cI K N I A R Q G M x s h hq sc sg ar W n SV T len) (k i g p : Int) {code val : Int} (hr : 0 ≤ code ∧ code ≤ 2) (hA : gC Y yX12_shadeAt cX12_shadeAt 6 (some .int) ({ frames := 7, cells := 2, slots := 12, locals := 120 } : Room) [.ref x, vi k, vi i, vi g, vi p] K N I A R Q (cOpP K N I A R Q M x s h hq sc sg ar code (vi val) W n SV T len) (cOpX K N I A R Q code [xIx, xAr, xSt])) : gCH Y yL_shadeAt cL_shadeAt 6 (some .int) [(0, 9, 10, 15), (0, 9, 15, 18)] ({ frames := 8, cells := 2, slots := 12, locals := 145 } : Room) [.ref x, vi k, vi i, vi g, vi p] K N I A R Q (lqP K N I A R Q M x s h hq sc sg ar (vi (lqI code val [-2000001, -2000002, -2000003])) W n SV T len) := by
  refine gCH_of (by decide) (Nat.le_of_ble_eq_true rfl) rfl (fun X htab => ?_)
  refine g_aload_n dL_shadeAt_0 rfl rfl ?_
  refine g_iload_n dL_shadeAt_1 rfl rfl ?_
  refine g_iload_n dL_shadeAt_2 rfl rfl ?_
  refine g_iload_n dL_shadeAt_3 rfl rfl ?_
  refine g_iload dL_shadeAt_4 rfl ?_
  refine g_callVH (i := 9) rfl (gK0 hI.1.1) (g_at9 hI.1.1) hA u_X12_shadeAt mw_795 dL_shadeAt_6 rfl rfl ⟨Nat.le_of_ble_eq_true rfl, Nat.le_of_ble_eq_true rfl⟩ ⟨Nat.le_of_ble_eq_true rfl, Nat.le_of_ble_eq_true rfl⟩ (Nat.le_of_ble_eq_true rfl) (fun hfa E K1 N1 I1 A1 R1 Q1 hp => ?_) (fun v K1 N1 I1 A1 R1 Q1 hp => ?_)
  · obtain ⟨q1, q2, rfl, rfl, rfl, rfl, rfl, rfl⟩ := hp
    rw [htab]
    have hc : code = 1 ∨ code = 2 := by omega
    rcases hc with hc | hc
    · have e : E = "java/lang/IndexOutOfBoundsException" := by rw [q2, hc]; rfl
      subst e
      refine ⟨10, (hPick0 (by decide) (by decide) mw_324 fc_ix), fun q => ?_⟩
      refine g_astore dL_shadeAt_10 (by decide) ?_
      refine g_ldc (c := -2000001) dL_shadeAt_12 mw_466 (by decide) ?_
      exact g_iret dL_shadeAt_14 rfl (by decide) (by decide) (lqP.noR vi hc (by decide) rfl hI)
    · have e : E = "java/lang/IllegalArgumentException" := by rw [q2, hc]; rfl
      subst e
      refine ⟨15, (hPickS (by decide) mw_324 hfa.2.1 (hPick0 (by decide) (by decide) mw_325 fc_ar)), fun q => ?_⟩
      refine g_astore dL_shadeAt_15 (by decide) ?_
      refine g_ldc (c := -2000002) dL_shadeAt_17 mw_467 (by decide) ?_
      exact g_iret dL_shadeAt_19 rfl (by decide) (by decide) (lqP.noR vi hc (by decide) rfl hI)
  · obtain ⟨h0, hv, G1, hI1, hf1⟩ := hp
    subst hv
    exact g_iret dL_shadeAt_9 rfl (by decide) (by decide) (lqP.yesR vi h0 hI1 hf1)
theorem u_L_bestPeak : gUH yL_bestPeak cL_bestPeak 5 (some .int) [(0, 7, 8, 15), (0, 7, 13, 18)] 4 := ⟨⟨mw_804, mw_803, mw_19⟩, by decide, by decide, by decide +kernel⟩
set_option maxHeartbeats 4000000 in
set_option maxRecDepth 100000 in
theorem k_L_bestPeak (Y : gEnv) {K N : Nat → Nat} {I : Nat → Nat → Int} {A : Nat → Int → Int} {R : Nat → Nat → Option Nat} {Q : Nat → Int → Option Nat} {G : Nat → Nat × Int} {M : Nat → Prop} {x s h hq sc sg ar : Nat} {W SV T : Int → Int} {n len : Int} (hI : cI K N I A R Q G M x s h hq sc sg ar W n SV T len) (k g t : Int) {code val : Int} (hr : 0 ≤ code ∧ code ≤ 2) (hA : gC Y yX12_bestPeak cX12_bestPeak 8 (some .int) ({ frames := 7, cells := 2, slots := 12, locals := 120 } : Room) [.ref x, vi k, vi g, vi t] K N I A R Q (cOpP K N I A R Q M x s h hq sc sg ar code (vi val) W n SV T len) (cOpX K N I A R Q code [xIx, xAr, xSt])) : gCH Y yL_bestPeak cL_bestPeak 5 (some .int) [(0, 7, 8, 15), (0, 7, 13, 18)] ({ frames := 8, cells := 2, slots := 12, locals := 147 } : Room) [.ref x, vi k, vi g, vi t] K N I A R Q (lqP K N I A R Q M x s h hq sc sg ar (vi (lqI code val [-2000001, -2000002, -2000003])) W n SV T len) := by
  refine gCH_of (by decide) (Nat.le_of_ble_eq_true rfl) rfl (fun X htab => ?_)
  refine g_aload_n dL_bestPeak_0 rfl rfl ?_
  refine g_iload_n dL_bestPeak_1 rfl rfl ?_
  refine g_iload_n dL_bestPeak_2 rfl rfl ?_
  refine g_iload_n dL_bestPeak_3 rfl rfl ?_
  refine g_callVH (i := 9) rfl (gK0 hI.1.1) (g_at9 hI.1.1) hA u_X12_bestPeak mw_805 dL_bestPeak_4 rfl rfl ⟨Nat.le_of_ble_eq_true rfl, Nat.le_of_ble_eq_true rfl⟩ ⟨Nat.le_of_ble_eq_true rfl, Nat.le_of_ble_eq_true rfl⟩ (Nat.le_of_ble_eq_true rfl) (fun hfa E K1 N1 I1 A1 R1 Q1 hp => ?_) (fun v K1 N1 I1 A1 R1 Q1 hp => ?_)
  · obtain ⟨q1, q2, rfl, rfl, rfl, rfl, rfl, rfl⟩ := hp
    rw [htab]
    have hc : code = 1 ∨ code = 2 := by omega
    rcases hc with hc | hc
    · have e : E = "java/lang/IndexOutOfBoundsException" := by rw [q2, hc]; rfl
      subst e
      refine ⟨8, (hPick0 (by decide) (by decide) mw_324 fc_ix), fun q => ?_⟩
      refine g_astore dL_bestPeak_8 (by decide) ?_
      refine g_ldc (c := -2000001) dL_bestPeak_10 mw_466 (by decide) ?_
      exact g_iret dL_bestPeak_12 rfl (by decide) (by decide) (lqP.noR vi hc (by decide) rfl hI)
    · have e : E = "java/lang/IllegalArgumentException" := by rw [q2, hc]; rfl
      subst e
      refine ⟨13, (hPickS (by decide) mw_324 hfa.2.1 (hPick0 (by decide) (by decide) mw_325 fc_ar)), fun q => ?_⟩
      refine g_astore dL_bestPeak_13 (by decide) ?_
      refine g_ldc (c := -2000002) dL_bestPeak_15 mw_467 (by decide) ?_
      exact g_iret dL_bestPeak_17 rfl (by decide) (by decide) (lqP.noR vi hc (by decide) rfl hI)
  · obtain ⟨h0, hv, G1, hI1, hf1⟩ := hp
    subst hv
    exact g_iret dL_bestPeak_7 rfl (by decide) (by decide) (lqP.yesR vi h0 hI1 hf1)
theorem u_L_largest : gUH yL_largest cL_largest 4 (some .int) [(0, 6, 7, 15), (0, 6, 11, 18)] 3 := ⟨⟨mw_818, mw_817, mw_19⟩, by decide, by decide, by decide +kernel⟩
set_option maxHeartbeats 4000000 in
set_option maxRecDepth 100000 in
theorem k_L_largest (Y : gEnv) {K N : Nat → Nat} {I : Nat → Nat → Int} {A : Nat → Int → Int} {R : Nat → Nat → Option Nat} {Q : Nat → Int → Option Nat} {G : Nat → Nat × Int} {M : Nat → Prop} {x s h hq sc sg ar : Nat} {W SV T : Int → Int} {n len : Int} (hI : cI K N I A R Q G M x s h hq sc sg ar W n SV T len) (g r : Int) {code val : Int} (hr : 0 ≤ code ∧ code ≤ 2) (hA : gC Y yX12_largest cX12_largest 3 (some .int) ({ frames := 7, cells := 3, slots := 15, locals := 120 } : Room) [.ref x, vi g, vi r] K N I A R Q (cOpP K N I A R Q M x s h hq sc sg ar code (vi val) W n SV T len) (cOpX K N I A R Q code [xIx, xAr, xSt])) : gCH Y yL_largest cL_largest 4 (some .int) [(0, 6, 7, 15), (0, 6, 11, 18)] ({ frames := 8, cells := 3, slots := 15, locals := 142 } : Room) [.ref x, vi g, vi r] K N I A R Q (lqP K N I A R Q M x s h hq sc sg ar (vi (lqI code val [-2000001, -2000002, -2000003])) W n SV T len) := by
  refine gCH_of (by decide) (Nat.le_of_ble_eq_true rfl) rfl (fun X htab => ?_)
  refine g_aload_n dL_largest_0 rfl rfl ?_
  refine g_iload_n dL_largest_1 rfl rfl ?_
  refine g_iload_n dL_largest_2 rfl rfl ?_
  refine g_callVH (i := 9) rfl (gK0 hI.1.1) (g_at9 hI.1.1) hA u_X12_largest mw_819 dL_largest_3 rfl rfl ⟨Nat.le_of_ble_eq_true rfl, Nat.le_of_ble_eq_true rfl⟩ ⟨Nat.le_of_ble_eq_true rfl, Nat.le_of_ble_eq_true rfl⟩ (Nat.le_of_ble_eq_true rfl) (fun hfa E K1 N1 I1 A1 R1 Q1 hp => ?_) (fun v K1 N1 I1 A1 R1 Q1 hp => ?_)
  · obtain ⟨q1, q2, rfl, rfl, rfl, rfl, rfl, rfl⟩ := hp
    rw [htab]
    have hc : code = 1 ∨ code = 2 := by omega
    rcases hc with hc | hc
    · have e : E = "java/lang/IndexOutOfBoundsException" := by rw [q2, hc]; rfl
      subst e
      refine ⟨7, (hPick0 (by decide) (by decide) mw_324 fc_ix), fun q => ?_⟩
      refine g_astore_n dL_largest_7 rfl (by decide) ?_
      refine g_ldc (c := -2000001) dL_largest_8 mw_466 (by decide) ?_
      exact g_iret dL_largest_10 rfl (by decide) (by decide) (lqP.noR vi hc (by decide) rfl hI)
    · have e : E = "java/lang/IllegalArgumentException" := by rw [q2, hc]; rfl
      subst e
      refine ⟨11, (hPickS (by decide) mw_324 hfa.2.1 (hPick0 (by decide) (by decide) mw_325 fc_ar)), fun q => ?_⟩
      refine g_astore_n dL_largest_11 rfl (by decide) ?_
      refine g_ldc (c := -2000002) dL_largest_12 mw_467 (by decide) ?_
      exact g_iret dL_largest_14 rfl (by decide) (by decide) (lqP.noR vi hc (by decide) rfl hI)
  · obtain ⟨h0, hv, G1, hI1, hf1⟩ := hp
    subst hv
    exact g_iret dL_largest_6 rfl (by decide) (by decide) (lqP.yesR vi h0 hI1 hf1)
theorem u_L_possible : gUH yL_possible cL_possible 7 (some .int) [(0, 11, 12, 15), (0, 11, 17, 18)] 6 := ⟨⟨mw_833, mw_832, mw_19⟩, by decide, by decide, by decide +kernel⟩
set_option maxHeartbeats 4000000 in
set_option maxRecDepth 100000 in
theorem k_L_possible (Y : gEnv) {K N : Nat → Nat} {I : Nat → Nat → Int} {A : Nat → Int → Int} {R : Nat → Nat → Option Nat} {Q : Nat → Int → Option Nat} {G : Nat → Nat × Int} {M : Nat → Prop} {x s h hq sc sg ar : Nat} {W SV T : Int → Int} {n len : Int} (hI : cI K N I A R Q G M x s h hq sc sg ar W n SV T len) (g r a b c : Int) {code val : Int} (hr : 0 ≤ code ∧ code ≤ 2) (hA : gC Y yX12_possible cX12_possible 7 (some .int) ({ frames := 7, cells := 4, slots := 18, locals := 120 } : Room) [.ref x, vi g, vi r, vi a, vi b, vi c] K N I A R Q (cOpP K N I A R Q M x s h hq sc sg ar code (vi val) W n SV T len) (cOpX K N I A R Q code [xIx, xAr, xSt])) : gCH Y yL_possible cL_possible 7 (some .int) [(0, 11, 12, 15), (0, 11, 17, 18)] ({ frames := 8, cells := 4, slots := 18, locals := 146 } : Room) [.ref x, vi g, vi r, vi a, vi b, vi c] K N I A R Q (lqP K N I A R Q M x s h hq sc sg ar (vi (lqI code val [-2000001, -2000002, -2000003])) W n SV T len) := by
  refine gCH_of (by decide) (Nat.le_of_ble_eq_true rfl) rfl (fun X htab => ?_)
  refine g_aload_n dL_possible_0 rfl rfl ?_
  refine g_iload_n dL_possible_1 rfl rfl ?_
  refine g_iload_n dL_possible_2 rfl rfl ?_
  refine g_iload_n dL_possible_3 rfl rfl ?_
  refine g_iload dL_possible_4 rfl ?_
  refine g_iload dL_possible_6 rfl ?_
  refine g_callVH (i := 9) rfl (gK0 hI.1.1) (g_at9 hI.1.1) hA u_X12_possible mw_834 dL_possible_8 rfl rfl ⟨Nat.le_of_ble_eq_true rfl, Nat.le_of_ble_eq_true rfl⟩ ⟨Nat.le_of_ble_eq_true rfl, Nat.le_of_ble_eq_true rfl⟩ (Nat.le_of_ble_eq_true rfl) (fun hfa E K1 N1 I1 A1 R1 Q1 hp => ?_) (fun v K1 N1 I1 A1 R1 Q1 hp => ?_)
  · obtain ⟨q1, q2, rfl, rfl, rfl, rfl, rfl, rfl⟩ := hp
    rw [htab]
    have hc : code = 1 ∨ code = 2 := by omega
    rcases hc with hc | hc
    · have e : E = "java/lang/IndexOutOfBoundsException" := by rw [q2, hc]; rfl
      subst e
      refine ⟨12, (hPick0 (by decide) (by decide) mw_324 fc_ix), fun q => ?_⟩
      refine g_astore dL_possible_12 (by decide) ?_
      refine g_ldc (c := -2000001) dL_possible_14 mw_466 (by decide) ?_
      exact g_iret dL_possible_16 rfl (by decide) (by decide) (lqP.noR vi hc (by decide) rfl hI)
    · have e : E = "java/lang/IllegalArgumentException" := by rw [q2, hc]; rfl
      subst e
      refine ⟨17, (hPickS (by decide) mw_324 hfa.2.1 (hPick0 (by decide) (by decide) mw_325 fc_ar)), fun q => ?_⟩
      refine g_astore dL_possible_17 (by decide) ?_
      refine g_ldc (c := -2000002) dL_possible_19 mw_467 (by decide) ?_
      exact g_iret dL_possible_21 rfl (by decide) (by decide) (lqP.noR vi hc (by decide) rfl hI)
  · obtain ⟨h0, hv, G1, hI1, hf1⟩ := hp
    subst hv
    exact g_iret dL_possible_11 rfl (by decide) (by decide) (lqP.yesR vi h0 hI1 hf1)
theorem u_L_wouldHide : gUH yL_wouldHide cL_wouldHide 3 (some .int) [(0, 5, 6, 18)] 2 := ⟨⟨mw_845, mw_844, mw_19⟩, by decide, by decide, by decide +kernel⟩
set_option maxHeartbeats 4000000 in
set_option maxRecDepth 100000 in
theorem k_L_wouldHide (Y : gEnv) {K N : Nat → Nat} {I : Nat → Nat → Int} {A : Nat → Int → Int} {R : Nat → Nat → Option Nat} {Q : Nat → Int → Option Nat} {G : Nat → Nat × Int} {M : Nat → Prop} {x s h hq sc sg ar : Nat} {W SV T : Int → Int} {n len : Int} (hI : cI K N I A R Q G M x s h hq sc sg ar W n SV T len) (p : Int) {code val : Int} (hr : 0 ≤ code ∧ code ≤ 1) (hA : gC Y yX12_wouldHide cX12_wouldHide 2 (some .int) ({ frames := 7, cells := 1, slots := 6, locals := 120 } : Room) [.ref x, vi p] K N I A R Q (cOpP K N I A R Q M x s h hq sc sg ar code (vi val) W n SV T len) (cOpX K N I A R Q code [xAr])) : gCH Y yL_wouldHide cL_wouldHide 3 (some .int) [(0, 5, 6, 18)] ({ frames := 8, cells := 1, slots := 6, locals := 141 } : Room) [.ref x, vi p] K N I A R Q (lqP K N I A R Q M x s h hq sc sg ar (vi (lqI code val [-2000002])) W n SV T len) := by
  refine gCH_of (by decide) (Nat.le_of_ble_eq_true rfl) rfl (fun X htab => ?_)
  refine g_aload_n dL_wouldHide_0 rfl rfl ?_
  refine g_iload_n dL_wouldHide_1 rfl rfl ?_
  refine g_callVH (i := 9) rfl (gK0 hI.1.1) (g_at9 hI.1.1) hA u_X12_wouldHide mw_846 dL_wouldHide_2 rfl rfl ⟨Nat.le_of_ble_eq_true rfl, Nat.le_of_ble_eq_true rfl⟩ ⟨Nat.le_of_ble_eq_true rfl, Nat.le_of_ble_eq_true rfl⟩ (Nat.le_of_ble_eq_true rfl) (fun hfa E K1 N1 I1 A1 R1 Q1 hp => ?_) (fun v K1 N1 I1 A1 R1 Q1 hp => ?_)
  · obtain ⟨q1, q2, rfl, rfl, rfl, rfl, rfl, rfl⟩ := hp
    rw [htab]
    have hc : code = 1 := by omega
    have e : E = "java/lang/IllegalArgumentException" := by rw [q2, hc]; rfl
    subst e
    refine ⟨6, (hPick0 (by decide) (by decide) mw_325 fc_ar), fun q => ?_⟩
    refine g_astore_n dL_wouldHide_6 rfl (by decide) ?_
    refine g_ldc (c := -2000002) dL_wouldHide_7 mw_467 (by decide) ?_
    exact g_iret dL_wouldHide_9 rfl (by decide) (by decide) (lqP.noR vi hc (by decide) rfl hI)
  · obtain ⟨h0, hv, G1, hI1, hf1⟩ := hp
    subst hv
    exact g_iret dL_wouldHide_5 rfl (by decide) (by decide) (lqP.yesR vi h0 hI1 hf1)
