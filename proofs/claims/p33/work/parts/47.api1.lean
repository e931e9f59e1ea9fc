set_option maxHeartbeats 1000000 in
set_option maxRecDepth 100000 in
theorem k_K_refuse (Y : gEnv) {K N : Nat → Nat} {I : Nat → Nat → Int} {A : Nat → Int → Int} {R : Nat → Nat → Option Nat} {Q : Nat → Int → Option Nat} (c : Int) (hc : 0 ≤ c ∧ c ≤ 3) : gC Y yX12_refuse cX12_refuse 1 none ({ frames := 7, cells := 3, slots := 18, locals := 120 } : Room) [.ref (Y.2.2.1 (20 + c.toNat))] K N I A R Q (cKo (c = 0) K N I A R Q) (cKx (fun E => (c = 1 ∧ E = xIx) ∨ (c = 2 ∧ E = xAr) ∨ (c = 3 ∧ E = xSt)) K N I A R Q) := by
  refine gC_of (by decide) (Nat.le_of_ble_eq_true rfl) (fun X => ?_)
  refine gJ_st (fun hst => ?_)
  obtain ⟨U, H, hst⟩ := hst
  refine g_aload_n dX12_refuse_0 rfl rfl ?_
  refine g_fault (i := 1) dX12_refuse_1 mw_562 (by decide) rfl ?_
  refine g_acmp_eq (tgt := 11) dX12_refuse_4 (by decide) (fun c_4 => ?_) (fun c_4 => ?_)
  · have e4 := gFault_ne hst (by omega) (by omega) c_4
    refine g_iconst dX12_refuse_11 ?_
    refine g_callSXc (k_K_Index Y _ (by omega)) u_X12_checkIndex mw_336 rfl dX12_refuse_12 rfl rfl ⟨Nat.le_of_ble_eq_true rfl, Nat.le_of_ble_eq_true rfl⟩ ⟨Nat.le_of_ble_eq_true rfl, Nat.le_of_ble_eq_true rfl⟩ (Nat.le_of_ble_eq_true rfl) (by decide) (fun E hh => by
      obtain ⟨q1, q2⟩ := hh
      first
      | (exfalso; omega)
      | exact ⟨Or.inl ⟨by omega, q2⟩, cSame.rfl⟩) (fun h12 => ?_)
    refine g_aload_n dX12_refuse_15 rfl rfl ?_
    refine g_fault (i := 2) dX12_refuse_16 mw_563 (by decide) rfl ?_
    refine g_acmp_eq (tgt := 26) dX12_refuse_19 (by decide) (fun c_19 => ?_) (fun c_19 => ?_)
    · have e19 := gFault_ne hst (by omega) (by omega) c_19
      refine g_iconst dX12_refuse_26 ?_
      refine g_callSXc (k_K_Argument Y _ (by omega)) u_X12_checkArgument mw_407 rfl dX12_refuse_27 rfl rfl ⟨Nat.le_of_ble_eq_true rfl, Nat.le_of_ble_eq_true rfl⟩ ⟨Nat.le_of_ble_eq_true rfl, Nat.le_of_ble_eq_true rfl⟩ (Nat.le_of_ble_eq_true rfl) (by decide) (fun E hh => by
      obtain ⟨q1, q2⟩ := hh
      first
      | (exfalso; omega)
      | exact ⟨Or.inr (Or.inl ⟨by omega, q2⟩), cSame.rfl⟩) (fun h27 => ?_)
      refine g_aload_n dX12_refuse_30 rfl rfl ?_
      refine g_fault (i := 3) dX12_refuse_31 mw_564 (by decide) rfl ?_
      refine g_acmp_eq (tgt := 41) dX12_refuse_34 (by decide) (fun c_34 => ?_) (fun c_34 => ?_)
      · have e34 := gFault_ne hst (by omega) (by omega) c_34
        refine g_iconst dX12_refuse_41 ?_
        refine g_callSXc (k_K_State Y _ (by omega)) u_X12_checkState mw_514 rfl dX12_refuse_42 rfl rfl ⟨Nat.le_of_ble_eq_true rfl, Nat.le_of_ble_eq_true rfl⟩ ⟨Nat.le_of_ble_eq_true rfl, Nat.le_of_ble_eq_true rfl⟩ (Nat.le_of_ble_eq_true rfl) (by decide) (fun E hh => by
      obtain ⟨q1, q2⟩ := hh
      first
      | (exfalso; omega)
      | exact ⟨Or.inr (Or.inr ⟨by omega, q2⟩), cSame.rfl⟩) (fun h42 => ?_)
        exact g_vret dX12_refuse_45 rfl (by decide) (by decide) ⟨rfl, by omega, cSame.rfl⟩
      · have e34 : ¬ c.toNat = 3 := fun e => c_34 (by rw [e])
        refine g_iconst dX12_refuse_37 ?_
        refine g_goto (tgt := 42) dX12_refuse_38 (by decide) ?_
        refine g_callSXc (k_K_State Y _ (by omega)) u_X12_checkState mw_514 rfl dX12_refuse_42 rfl rfl ⟨Nat.le_of_ble_eq_true rfl, Nat.le_of_ble_eq_true rfl⟩ ⟨Nat.le_of_ble_eq_true rfl, Nat.le_of_ble_eq_true rfl⟩ (Nat.le_of_ble_eq_true rfl) (by decide) (fun E hh => by
      obtain ⟨q1, q2⟩ := hh
      first
      | (exfalso; omega)
      | exact ⟨Or.inr (Or.inr ⟨by omega, q2⟩), cSame.rfl⟩) (fun h42 => ?_)
        exact g_vret dX12_refuse_45 rfl (by decide) (by decide) ⟨rfl, by omega, cSame.rfl⟩
    · have e19 : ¬ c.toNat = 2 := fun e => c_19 (by rw [e])
      refine g_iconst dX12_refuse_22 ?_
      refine g_goto (tgt := 27) dX12_refuse_23 (by decide) ?_
      refine g_callSXc (k_K_Argument Y _ (by omega)) u_X12_checkArgument mw_407 rfl dX12_refuse_27 rfl rfl ⟨Nat.le_of_ble_eq_true rfl, Nat.le_of_ble_eq_true rfl⟩ ⟨Nat.le_of_ble_eq_true rfl, Nat.le_of_ble_eq_true rfl⟩ (Nat.le_of_ble_eq_true rfl) (by decide) (fun E hh => by
      obtain ⟨q1, q2⟩ := hh
      first
      | (exfalso; omega)
      | exact ⟨Or.inr (Or.inl ⟨by omega, q2⟩), cSame.rfl⟩) (fun h27 => ?_)
      refine g_aload_n dX12_refuse_30 rfl rfl ?_
      refine g_fault (i := 3) dX12_refuse_31 mw_564 (by decide) rfl ?_
      refine g_acmp_eq (tgt := 41) dX12_refuse_34 (by decide) (fun c_34 => ?_) (fun c_34 => ?_)
      · have e34 := gFault_ne hst (by omega) (by omega) c_34
        refine g_iconst dX12_refuse_41 ?_
        refine g_callSXc (k_K_State Y _ (by omega)) u_X12_checkState mw_514 rfl dX12_refuse_42 rfl rfl ⟨Nat.le_of_ble_eq_true rfl, Nat.le_of_ble_eq_true rfl⟩ ⟨Nat.le_of_ble_eq_true rfl, Nat.le_of_ble_eq_true rfl⟩ (Nat.le_of_ble_eq_true rfl) (by decide) (fun E hh => by
      obtain ⟨q1, q2⟩ := hh
      first
      | (exfalso; omega)
      | exact ⟨Or.inr (Or.inr ⟨by omega, q2⟩), cSame.rfl⟩) (fun h42 => ?_)
        exact g_vret dX12_refuse_45 rfl (by decide) (by decide) ⟨rfl, by omega, cSame.rfl⟩
      · have e34 : ¬ c.toNat = 3 := fun e => c_34 (by rw [e])
        refine g_iconst dX12_refuse_37 ?_
        refine g_goto (tgt := 42) dX12_refuse_38 (by decide) ?_
        refine g_callSXc (k_K_State Y _ (by omega)) u_X12_checkState mw_514 rfl dX12_refuse_42 rfl rfl ⟨Nat.le_of_ble_eq_true rfl, Nat.le_of_ble_eq_true rfl⟩ ⟨Nat.le_of_ble_eq_true rfl, Nat.le_of_ble_eq_true rfl⟩ (Nat.le_of_ble_eq_true rfl) (by decide) (fun E hh => by
      obtain ⟨q1, q2⟩ := hh
      first
      | (exfalso; omega)
      | exact ⟨Or.inr (Or.inr ⟨by omega, q2⟩), cSame.rfl⟩) (fun h42 => ?_)
        exact g_vret dX12_refuse_45 rfl (by decide) (by decide) ⟨rfl, by omega, cSame.rfl⟩
  · have e4 : ¬ c.toNat = 1 := fun e => c_4 (by rw [e])
    refine g_iconst dX12_refuse_7 ?_
    refine g_goto (tgt := 12) dX12_refuse_8 (by decide) ?_
    refine g_callSXc (k_K_Index Y _ (by omega)) u_X12_checkIndex mw_336 rfl dX12_refuse_12 rfl rfl ⟨Nat.le_of_ble_eq_true rfl, Nat.le_of_ble_eq_true rfl⟩ ⟨Nat.le_of_ble_eq_true rfl, Nat.le_of_ble_eq_true rfl⟩ (Nat.le_of_ble_eq_true rfl) (by decide) (fun E hh => by
      obtain ⟨q1, q2⟩ := hh
      first
      | (exfalso; omega)
      | exact ⟨Or.inl ⟨by omega, q2⟩, cSame.rfl⟩) (fun h12 => ?_)
    refine g_aload_n dX12_refuse_15 rfl rfl ?_
    refine g_fault (i := 2) dX12_refuse_16 mw_563 (by decide) rfl ?_
    refine g_acmp_eq (tgt := 26) dX12_refuse_19 (by decide) (fun c_19 => ?_) (fun c_19 => ?_)
    · have e19 := gFault_ne hst (by omega) (by omega) c_19
      refine g_iconst dX12_refuse_26 ?_
      refine g_callSXc (k_K_Argument Y _ (by omega)) u_X12_checkArgument mw_407 rfl dX12_refuse_27 rfl rfl ⟨Nat.le_of_ble_eq_true rfl, Nat.le_of_ble_eq_true rfl⟩ ⟨Nat.le_of_ble_eq_true rfl, Nat.le_of_ble_eq_true rfl⟩ (Nat.le_of_ble_eq_true rfl) (by decide) (fun E hh => by
      obtain ⟨q1, q2⟩ := hh
      first
      | (exfalso; omega)
      | exact ⟨Or.inr (Or.inl ⟨by omega, q2⟩), cSame.rfl⟩) (fun h27 => ?_)
      refine g_aload_n dX12_refuse_30 rfl rfl ?_
      refine g_fault (i := 3) dX12_refuse_31 mw_564 (by decide) rfl ?_
      refine g_acmp_eq (tgt := 41) dX12_refuse_34 (by decide) (fun c_34 => ?_) (fun c_34 => ?_)
      · have e34 := gFault_ne hst (by omega) (by omega) c_34
        refine g_iconst dX12_refuse_41 ?_
        refine g_callSXc (k_K_State Y _ (by omega)) u_X12_checkState mw_514 rfl dX12_refuse_42 rfl rfl ⟨Nat.le_of_ble_eq_true rfl, Nat.le_of_ble_eq_true rfl⟩ ⟨Nat.le_of_ble_eq_true rfl, Nat.le_of_ble_eq_true rfl⟩ (Nat.le_of_ble_eq_true rfl) (by decide) (fun E hh => by
      obtain ⟨q1, q2⟩ := hh
      first
      | (exfalso; omega)
      | exact ⟨Or.inr (Or.inr ⟨by omega, q2⟩), cSame.rfl⟩) (fun h42 => ?_)
        exact g_vret dX12_refuse_45 rfl (by decide) (by decide) ⟨rfl, by omega, cSame.rfl⟩
      · have e34 : ¬ c.toNat = 3 := fun e => c_34 (by rw [e])
        refine g_iconst dX12_refuse_37 ?_
        refine g_goto (tgt := 42) dX12_refuse_38 (by decide) ?_
        refine g_callSXc (k_K_State Y _ (by omega)) u_X12_checkState mw_514 rfl dX12_refuse_42 rfl rfl ⟨Nat.le_of_ble_eq_true rfl, Nat.le_of_ble_eq_true rfl⟩ ⟨Nat.le_of_ble_eq_true rfl, Nat.le_of_ble_eq_true rfl⟩ (Nat.le_of_ble_eq_true rfl) (by decide) (fun E hh => by
      obtain ⟨q1, q2⟩ := hh
      first
      | (exfalso; omega)
      | exact ⟨Or.inr (Or.inr ⟨by omega, q2⟩), cSame.rfl⟩) (fun h42 => ?_)
        exact g_vret dX12_refuse_45 rfl (by decide) (by decide) ⟨rfl, by omega, cSame.rfl⟩
    · have e19 : ¬ c.toNat = 2 := fun e => c_19 (by rw [e])
      refine g_iconst dX12_refuse_22 ?_
      refine g_goto (tgt := 27) dX12_refuse_23 (by decide) ?_
      refine g_callSXc (k_K_Argument Y _ (by omega)) u_X12_checkArgument mw_407 rfl dX12_refuse_27 rfl rfl ⟨Nat.le_of_ble_eq_true rfl, Nat.le_of_ble_eq_true rfl⟩ ⟨Nat.le_of_ble_eq_true rfl, Nat.le_of_ble_eq_true rfl⟩ (Nat.le_of_ble_eq_true rfl) (by decide) (fun E hh => by
      obtain ⟨q1, q2⟩ := hh
      first
      | (exfalso; omega)
      | exact ⟨Or.inr (Or.inl ⟨by omega, q2⟩), cSame.rfl⟩) (fun h27 => ?_)
      refine g_aload_n dX12_refuse_30 rfl rfl ?_
      refine g_fault (i := 3) dX12_refuse_31 mw_564 (by decide) rfl ?_
      refine g_acmp_eq (tgt := 41) dX12_refuse_34 (by decide) (fun c_34 => ?_) (fun c_34 => ?_)
      · have e34 := gFault_ne hst (by omega) (by omega) c_34
        refine g_iconst dX12_refuse_41 ?_
        refine g_callSXc (k_K_State Y _ (by omega)) u_X12_checkState mw_514 rfl dX12_refuse_42 rfl rfl ⟨Nat.le_of_ble_eq_true rfl, Nat.le_of_ble_eq_true rfl⟩ ⟨Nat.le_of_ble_eq_true rfl, Nat.le_of_ble_eq_true rfl⟩ (Nat.le_of_ble_eq_true rfl) (by decide) (fun E hh => by
      obtain ⟨q1, q2⟩ := hh
      first
      | (exfalso; omega)
      | exact ⟨Or.inr (Or.inr ⟨by omega, q2⟩), cSame.rfl⟩) (fun h42 => ?_)
        exact g_vret dX12_refuse_45 rfl (by decide) (by decide) ⟨rfl, by omega, cSame.rfl⟩
      · have e34 : ¬ c.toNat = 3 := fun e => c_34 (by rw [e])
        refine g_iconst dX12_refuse_37 ?_
        refine g_goto (tgt := 42) dX12_refuse_38 (by decide) ?_
        refine g_callSXc (k_K_State Y _ (by omega)) u_X12_checkState mw_514 rfl dX12_refuse_42 rfl rfl ⟨Nat.le_of_ble_eq_true rfl, Nat.le_of_ble_eq_true rfl⟩ ⟨Nat.le_of_ble_eq_true rfl, Nat.le_of_ble_eq_true rfl⟩ (Nat.le_of_ble_eq_true rfl) (by decide) (fun E hh => by
      obtain ⟨q1, q2⟩ := hh
      first
      | (exfalso; omega)
      | exact ⟨Or.inr (Or.inr ⟨by omega, q2⟩), cSame.rfl⟩) (fun h42 => ?_)
        exact g_vret dX12_refuse_45 rfl (by decide) (by decide) ⟨rfl, by omega, cSame.rfl⟩
set_option maxHeartbeats 1000000 in
set_option maxRecDepth 100000 in
theorem k_H_restore (Y : gEnv) {K N : Nat → Nat} {I : Nat → Nat → Int} {A : Nat → Int → Int} {R : Nat → Nat → Option Nat} {Q : Nat → Int → Option Nat} {G : Nat → Nat × Int} {M : Nat → Prop} {x s h hq sc sg ar : Nat} {W SV T : Int → Int} {n len : Int} (hI : cI K N I A R Q G M x s h hq sc sg ar W n SV T len) (hn : 0 < n) : gC Y yX5_restore cX5_restore 2 none ({ frames := 3, cells := 0, slots := 0, locals := 163 } : Room) [.ref h, .ref s] K N I A R Q (fun v K' N' I' A' R' Q' => v = none ∧ cI K' N' I' A' R' Q' G M x s h hq sc sg ar (sBack SV W (n - 1) 1618) (n - 1) SV T len ∧ gFm M K N I A R Q K' N' I' A' R' Q') gno := by
  refine gC_of (by decide) (Nat.le_of_ble_eq_true rfl) (fun X => ?_)
  obtain ⟨⟨x1, x2, x3, x4⟩, ⟨h1, h2, h3, h4, h5, h6, h7⟩, ⟨c1, c2, c3⟩, st, sv, hs, gg, hM⟩ := id hI
  obtain ⟨h0, hag, ev, kq, nq, hev, hE⟩ := id sv
  have hsh := st.1
  obtain ⟨t, ht, tv⟩ := hs.2 (n - 1) (by omega) (by omega)
  obtain ⟨t1, t2, t3⟩ := hs.1 (n - 1) (by omega) (by omega) t ht
  obtain ⟨t4, t5, ev1, kq1, nq1, t6⟩ := id t1
  refine g_aload_n dX5_restore_0 rfl rfl ?_
  refine g_get_History_count dX5_restore_1 mw_263 (by assumption) ?_
  refine g_iconst dX5_restore_4 ?_
  refine g_icmp_lt (tgt := 34) dX5_restore_5 (by decide) (by omega) (by omega) (fun c_5 => ?_) (fun c_5 => ?_)
  · first
    | (exfalso; omega)
    | (exfalso
       have c2 := c_31
       rw [h5, ht] at c2
       cases c2)
  · refine g_aload_n dX5_restore_8 rfl rfl ?_
    refine g_get_History_count dX5_restore_9 mw_263 (by assumption) ?_
    refine g_aload_n dX5_restore_12 rfl rfl ?_
    refine g_get_History_saved dX5_restore_13 mw_262 (by assumption) h2 ?_
    refine g_alen_State dX5_restore_16 (by assumption) ?_
    refine g_icmp_gt (tgt := 34) dX5_restore_17 (by decide) (by omega) (by omega) (fun c_17 => ?_) (fun c_17 => ?_)
    · first
      | (exfalso; omega)
      | (exfalso
         have c2 := c_31
         rw [h5, ht] at c2
         cases c2)
    · refine g_aload_n dX5_restore_20 rfl rfl ?_
      refine g_get_History_saved dX5_restore_21 mw_262 (by assumption) h2 ?_
      refine g_aload_n dX5_restore_24 rfl rfl ?_
      refine g_get_History_count dX5_restore_25 mw_263 (by assumption) ?_
      refine g_iconst dX5_restore_28 ?_
      refine g_isub dX5_restore_29 ?_
      refine g_aaldR_State dX5_restore_30 (by assumption) (by omega) (by omega) ?_
      refine g_ifnonnull (tgt := 35) dX5_restore_31 (by decide) (fun b_31 c_31 => ?_) (fun c_31 => ?_)
      · refine g_aload_n dX5_restore_35 rfl rfl ?_
        refine g_dup dX5_restore_36 rfl ?_
        refine g_get_History_count dX5_restore_37 mw_263 (by assumption) ?_
        refine g_iconst dX5_restore_40 ?_
        refine g_isub dX5_restore_41 ?_
        refine g_put_History_count dX5_restore_42 mw_263 (by assumption) (fun I42 hI42 => ?_)
        have hx42 : gEx h K N I A R Q G K N I42 A R Q G := gEx.upI hI42
        have hk4 : sKd (K h) := by rw [h1]; unfold sKd; omega
        have e42 : I42 61 h = n - 1 := by rw [hI42, h5]; simp [g_up]
        have hH0 := hs.cnt h7 h1 hI42
        obtain ⟨r1, r2⟩ := hI.cnt (n' := n - 1) (SV' := SV) (by rw [hI42, h5]) (by omega) ⟨hH0.1, fun i a b => hH0.2 i a (by omega)⟩
        obtain ⟨v0, v1, ev2, kq2, nq2, v2, v3⟩ := tv.keep t4 hx42 hk4
        refine g_aload_n dX5_restore_45 rfl rfl ?_
        refine g_aload_n dX5_restore_46 rfl rfl ?_
        refine g_get_History_saved dX5_restore_47 mw_262 (by assumption) h2 ?_
        refine g_aload_n dX5_restore_50 rfl rfl ?_
        refine g_get_History_count dX5_restore_51 mw_263 (by assumption) ?_
        rw [e42]
        refine g_aald_State dX5_restore_54 (by assumption) (by omega) (by omega) ht ?_
        refine g_callVw (i := 8) rfl (gK0 st.1.1) (g_at8 st.1.1) (k_S_copyFrom Y t2 st.1 t4 v1 v0 hev v2 v3) u_X10_copyFrom mw_435 dX5_restore_55 rfl rfl ⟨Nat.le_of_ble_eq_true rfl, Nat.le_of_ble_eq_true rfl⟩ ⟨Nat.le_of_ble_eq_true rfl, Nat.le_of_ble_eq_true rfl⟩ (Nat.le_of_ble_eq_true rfl) (fun v55 I55 A55 h55 => ?_)
        obtain ⟨rfl, p1, p2, p3⟩ := h55
        exact g_vret dX5_restore_58 rfl (by decide) (by decide) (by
      have cv : cSv K N I55 A55 R Q G s (sBack SV W (n - 1) 1618) := cSv.cg (W := sW SV (n - 1)) ⟨v0, p2, ev, kq, nq, hev, p3⟩ (fun j a b => by
        rw [sW_in a b]
        simp only [sBack]
        rw [if_pos ⟨a, b⟩])
      obtain ⟨r3, r4⟩ := r1.st p1 cv
      exact ⟨rfl, r3, r2.trans r4⟩)
      · first
        | (exfalso; omega)
        | (exfalso
           have c2 := c_31
           rw [h5, ht] at c2
           cases c2)
set_option maxHeartbeats 1000000 in
set_option maxRecDepth 100000 in
theorem jp_A_setGlaze_32 {Y : gEnv} {X : gCtx} {K N : Nat → Nat} {I : Nat → Nat → Int} {A : Nat → Int → Int} {R : Nat → Nat → Option Nat} {Q : Nat → Int → Option Nat} {G : Nat → Nat × Int} {M : Nat → Prop} {x s h hq sc sg ar : Nat} {W SV T : Int → Int} {n len : Int} (hI : cI K N I A R Q G M x s h hq sc sg ar W n SV T len) (g : Int) (hg : (-2147483648 ≤ g ∧ g ≤ 2147483647)) (a : Int) (ha : (-2147483648 ≤ a ∧ a ≤ 2147483647)) (b : Int) (hb : (-2147483648 ≤ b ∧ b ≤ 2147483647)) (hW : ((if ¬ (0 ≤ g ∧ g ≤ 3) then 1 else if ¬ ((0 ≤ a ∧ a ≤ 19) ∧ (0 ≤ b ∧ b ≤ 20)) then 2 else 0) : Int) = 0 → iN (sU (sU W g a) (4 + g) b)) (f0 : 0 ≤ g ∧ g ≤ 3) (z : Int) (hz : z = if (0 ≤ a ∧ a ≤ 19) ∧ (0 ≤ b ∧ b ≤ 20) then 1 else 0) : gJ Y X yX12_setGlaze cX12_setGlaze 6 (some .int) ({ frames := 7, cells := 319, slots := 1969, locals := 184 } : Room) (cOpP K N I A R Q M x s h hq sc sg ar (if ¬ (0 ≤ g ∧ g ≤ 3) then 1 else if ¬ ((0 ≤ a ∧ a ≤ 19) ∧ (0 ≤ b ∧ b ≤ 20)) then 2 else 0) (vi (W g)) (sU (sU W g a) (4 + g) b) (sCnt n) (sSvd SV W n) (T) (len)) (cOpX K N I A R Q (if ¬ (0 ≤ g ∧ g ≤ 3) then 1 else if ¬ ((0 ≤ a ∧ a ≤ 19) ∧ (0 ≤ b ∧ b ≤ 20)) then 2 else 0) [xIx, xAr, xSt]) 1 6 32 [(0, .ref x), (1, vi g), (2, vi a), (3, vi b)] [vi z] K N I A R Q := by
  obtain ⟨⟨x1, x2, x3, x4⟩, ⟨h1, h2, h3, h4, h5, h6, h7⟩, ⟨c1, c2, c3⟩, st, sv, hs, gg, hM⟩ := id hI
  obtain ⟨h0, hag, ev, kq, nq, hev, hE⟩ := id sv
  have hsh := st.1
  refine g_callSXc (k_K_Argument Y _ (by first | omega | (split <;> omega))) u_X12_checkArgument mw_407 rfl dX12_setGlaze_32 rfl rfl ⟨Nat.le_of_ble_eq_true rfl, Nat.le_of_ble_eq_true rfl⟩ ⟨Nat.le_of_ble_eq_true rfl, Nat.le_of_ble_eq_true rfl⟩ (Nat.le_of_ble_eq_true rfl) (by decide) (fun E hh => by
    obtain ⟨q1, q2⟩ := hh
    have hc : ((if ¬ (0 ≤ g ∧ g ≤ 3) then 1 else if ¬ ((0 ≤ a ∧ a ≤ 19) ∧ (0 ≤ b ∧ b ≤ 20)) then 2 else 0) : Int) = 2 := by repeat (first | omega | split)
    exact ⟨by rw [hc]; decide, by rw [hc, q2]; rfl, cSame.rfl⟩) (fun h32 => ?_)
  refine g_aload_n dX12_setGlaze_35 rfl rfl ?_
  refine g_get_TileFactory_history dX12_setGlaze_36 mw_301 (by assumption) x3 ?_
  refine g_aload_n dX12_setGlaze_39 rfl rfl ?_
  refine g_get_TileFactory_state dX12_setGlaze_40 mw_300 (by assumption) x2 ?_
  refine g_callV (i := 3) rfl (gK0 h1) (g_at3 h1) (k_H_save Y hI) u_X5_save mw_426 dX12_setGlaze_43 rfl rfl ⟨Nat.le_of_ble_eq_true rfl, Nat.le_of_ble_eq_true rfl⟩ ⟨Nat.le_of_ble_eq_true rfl, Nat.le_of_ble_eq_true rfl⟩ (Nat.le_of_ble_eq_true rfl) (fun v43 K43 N43 I43 A43 R43 Q43 h43 => ?_)
  obtain ⟨rfl, G43, hI43, hf43⟩ := h43
  obtain ⟨⟨x1p, x2p, x3p, x4p⟩, ⟨h1p, h2p, h3p, h4p, h5p, h6p, h7p⟩, ⟨c1p, c2p, c3p⟩, stp, svp, hsp, ggp, hMp⟩ := id hI43
  obtain ⟨h0p, hagp, evp, kqp, nqp, hevp, hEp⟩ := id svp
  have hshp := stp.1
  have r5 := hshp.2.2.1.2.2.2.2 g (by omega) (by omega)
  refine g_aload_n dX12_setGlaze_46 rfl rfl ?_
  refine g_get_TileFactory_state dX12_setGlaze_47 mw_300 (by assumption) x2p ?_
  refine g_get_State_glazes dX12_setGlaze_50 mw_205 hshp.1 hshp.2.2.1.1 ?_
  refine g_iload_n dX12_setGlaze_53 rfl rfl ?_
  refine g_aald_Glaze dX12_setGlaze_54 hshp.2.2.1.2.1 (by rw [hshp.2.2.1.2.2.1]; decide) (by rw [hshp.2.2.1.2.2.1]; omega) r5.1 ?_
  refine g_astore dX12_setGlaze_55 (by decide) ?_
  refine g_aload dX12_setGlaze_57 rfl ?_
  refine g_get_Glaze_base dX12_setGlaze_59 mw_91 r5.2.1 ?_
  refine g_istore dX12_setGlaze_62 (by decide) ?_
  refine g_aload dX12_setGlaze_64 rfl ?_
  refine g_iload_n dX12_setGlaze_66 rfl rfl ?_
  refine g_put_Glaze_base dX12_setGlaze_67 mw_91 r5.2.1 (fun I67 hI67 => ?_)
  refine g_aload dX12_setGlaze_70 rfl ?_
  refine g_iload_n dX12_setGlaze_72 rfl rfl ?_
  refine g_put_Glaze_sensitivity dX12_setGlaze_73 mw_93 r5.2.1 (fun I73 hI73 => ?_)
  refine g_iload dX12_setGlaze_76 rfl ?_
  exact g_iret dX12_setGlaze_78 rfl (by decide) (by decide) (by
      have hc0 : ((if ¬ (0 ≤ g ∧ g ≤ 3) then 1 else if ¬ ((0 ≤ a ∧ a ≤ 19) ∧ (0 ≤ b ∧ b ≤ 20)) then 2 else 0) : Int) = 0 := by repeat (first | omega | split)
      have hcf : cFr G43 s I43 I73 A43 A43 := (cFr.up (by rw [r5.2.2]) (by decide) hI67).trans (cFr.up (by rw [r5.2.2]) (by decide) hI73)
      obtain ⟨r1, r2⟩ := hI43.st hcf (W' := sU (sU W g a) (4 + g) b) ⟨hW hc0, by rw [cu_41 hshp (i := g) (by omega) (by omega) hI73, cu_40 hshp (i := g) (by omega) (by omega) hI67]; exact (ag.put hagp (by omega)).put (by omega), evp, kqp, nqp, hevp, cE.of hEp h0p.2.2.2.2.2.2.2.2 (by rw [hI73, g_up_ne1 _ _ (by decide), hI67, g_up_ne1 _ _ (by decide)]) (fun j a b => by rw [sU_ne _ _ (by omega), sU_ne _ _ (by omega)])⟩
      exact ⟨hc0, by rw [ar_40 hagp (i := g) (by omega) (by omega)], G43, r1, hf43.trans r2⟩)
set_option maxHeartbeats 1000000 in
set_option maxRecDepth 100000 in
theorem k_A_setGlaze (Y : gEnv) {K N : Nat → Nat} {I : Nat → Nat → Int} {A : Nat → Int → Int} {R : Nat → Nat → Option Nat} {Q : Nat → Int → Option Nat} {G : Nat → Nat × Int} {M : Nat → Prop} {x s h hq sc sg ar : Nat} {W SV T : Int → Int} {n len : Int} (hI : cI K N I A R Q G M x s h hq sc sg ar W n SV T len) (g : Int) (hg : (-2147483648 ≤ g ∧ g ≤ 2147483647)) (a : Int) (ha : (-2147483648 ≤ a ∧ a ≤ 2147483647)) (b : Int) (hb : (-2147483648 ≤ b ∧ b ≤ 2147483647)) (hW : ((if ¬ (0 ≤ g ∧ g ≤ 3) then 1 else if ¬ ((0 ≤ a ∧ a ≤ 19) ∧ (0 ≤ b ∧ b ≤ 20)) then 2 else 0) : Int) = 0 → iN (sU (sU W g a) (4 + g) b)) : gC Y yX12_setGlaze cX12_setGlaze 6 (some .int) ({ frames := 7, cells := 319, slots := 1969, locals := 184 } : Room) [.ref x, vi g, vi a, vi b] K N I A R Q (cOpP K N I A R Q M x s h hq sc sg ar (if ¬ (0 ≤ g ∧ g ≤ 3) then 1 else if ¬ ((0 ≤ a ∧ a ≤ 19) ∧ (0 ≤ b ∧ b ≤ 20)) then 2 else 0) (vi (W g)) (sU (sU W g a) (4 + g) b) (sCnt n) (sSvd SV W n) (T) (len)) (cOpX K N I A R Q (if ¬ (0 ≤ g ∧ g ≤ 3) then 1 else if ¬ ((0 ≤ a ∧ a ≤ 19) ∧ (0 ≤ b ∧ b ≤ 20)) then 2 else 0) [xIx, xAr, xSt]) := by
  refine gC_of (by decide) (Nat.le_of_ble_eq_true rfl) (fun X => ?_)
  obtain ⟨⟨x1, x2, x3, x4⟩, ⟨h1, h2, h3, h4, h5, h6, h7⟩, ⟨c1, c2, c3⟩, st, sv, hs, gg, hM⟩ := id hI
  obtain ⟨h0, hag, ev, kq, nq, hev, hE⟩ := id sv
  have hsh := st.1
  refine g_iload_n dX12_setGlaze_0 rfl rfl ?_
  refine g_callSp (k_isGlaze Y _ (by omega)) u_X12_isGlaze mw_330 rfl dX12_setGlaze_1 rfl rfl ⟨Nat.le_of_ble_eq_true rfl, Nat.le_of_ble_eq_true rfl⟩ ⟨Nat.le_of_ble_eq_true rfl, Nat.le_of_ble_eq_true rfl⟩ (Nat.le_of_ble_eq_true rfl) ?_
  refine g_callSXc (k_K_Index Y _ (by first | omega | (split <;> omega))) u_X12_checkIndex mw_336 rfl dX12_setGlaze_4 rfl rfl ⟨Nat.le_of_ble_eq_true rfl, Nat.le_of_ble_eq_true rfl⟩ ⟨Nat.le_of_ble_eq_true rfl, Nat.le_of_ble_eq_true rfl⟩ (Nat.le_of_ble_eq_true rfl) (by decide) (fun E hh => by
    obtain ⟨q1, q2⟩ := hh
    have hc : ((if ¬ (0 ≤ g ∧ g ≤ 3) then 1 else if ¬ ((0 ≤ a ∧ a ≤ 19) ∧ (0 ≤ b ∧ b ≤ 20)) then 2 else 0) : Int) = 1 := by repeat (first | omega | split)
    exact ⟨by rw [hc]; decide, by rw [hc, q2]; rfl, cSame.rfl⟩) (fun h4 => ?_)
  refine g_iload_n dX12_setGlaze_7 rfl rfl ?_
  refine g_iconst dX12_setGlaze_8 ?_
  refine g_bipush dX12_setGlaze_9 (by decide) ?_
  refine g_callSp (k_isWithin Y _ _ _ (by omega) (by omega) (by omega)) u_X12_isWithin mw_333 rfl dX12_setGlaze_11 rfl rfl ⟨Nat.le_of_ble_eq_true rfl, Nat.le_of_ble_eq_true rfl⟩ ⟨Nat.le_of_ble_eq_true rfl, Nat.le_of_ble_eq_true rfl⟩ (Nat.le_of_ble_eq_true rfl) ?_
  refine g_if_eq (tgt := 31) dX12_setGlaze_14 (by decide) (by omega) (fun c_14 => ?_) (fun c_14 => ?_)
  · refine g_iconst dX12_setGlaze_31 ?_
    exact jp_A_setGlaze_32 hI g hg a ha b hb hW (by omega) _ (by repeat (first | omega | split))
  · refine g_iload_n dX12_setGlaze_17 rfl rfl ?_
    refine g_iconst dX12_setGlaze_18 ?_
    refine g_bipush dX12_setGlaze_19 (by decide) ?_
    refine g_callSp (k_isWithin Y _ _ _ (by omega) (by omega) (by omega)) u_X12_isWithin mw_333 rfl dX12_setGlaze_21 rfl rfl ⟨Nat.le_of_ble_eq_true rfl, Nat.le_of_ble_eq_true rfl⟩ ⟨Nat.le_of_ble_eq_true rfl, Nat.le_of_ble_eq_true rfl⟩ (Nat.le_of_ble_eq_true rfl) ?_
    refine g_if_eq (tgt := 31) dX12_setGlaze_24 (by decide) (by omega) (fun c_24 => ?_) (fun c_24 => ?_)
    · refine g_iconst dX12_setGlaze_31 ?_
      exact jp_A_setGlaze_32 hI g hg a ha b hb hW (by omega) _ (by repeat (first | omega | split))
    · refine g_iconst dX12_setGlaze_27 ?_
      refine g_goto (tgt := 32) dX12_setGlaze_28 (by decide) ?_
      exact jp_A_setGlaze_32 hI g hg a ha b hb hW (by omega) _ (by repeat (first | omega | split))
set_option maxHeartbeats 1000000 in
set_option maxRecDepth 100000 in
theorem jp_A_setQuality_30 {Y : gEnv} {X : gCtx} {K N : Nat → Nat} {I : Nat → Nat → Int} {A : Nat → Int → Int} {R : Nat → Nat → Option Nat} {Q : Nat → Int → Option Nat} {G : Nat → Nat × Int} {M : Nat → Prop} {x s h hq sc sg ar : Nat} {W SV T : Int → Int} {n len : Int} (hI : cI K N I A R Q G M x s h hq sc sg ar W n SV T len) (g : Int) (hg : (-2147483648 ≤ g ∧ g ≤ 2147483647)) (a : Int) (ha : (-2147483648 ≤ a ∧ a ≤ 2147483647)) (b : Int) (hb : (-2147483648 ≤ b ∧ b ≤ 2147483647)) (hW : ((if ¬ (0 ≤ g ∧ g ≤ 3) then 1 else if ¬ ((0 ≤ a ∧ a ≤ 100) ∧ (0 ≤ b ∧ b ≤ 9999)) then 2 else 0) : Int) = 0 → iN (sU (sU W (8 + g) a) (12 + g) b)) (f0 : 0 ≤ g ∧ g ≤ 3) (z : Int) (hz : z = if (0 ≤ a ∧ a ≤ 100) ∧ (0 ≤ b ∧ b ≤ 9999) then 1 else 0) : gJ Y X yX12_setQuality cX12_setQuality 6 (some .int) ({ frames := 7, cells := 319, slots := 1969, locals := 184 } : Room) (cOpP K N I A R Q M x s h hq sc sg ar (if ¬ (0 ≤ g ∧ g ≤ 3) then 1 else if ¬ ((0 ≤ a ∧ a ≤ 100) ∧ (0 ≤ b ∧ b ≤ 9999)) then 2 else 0) (vi (W (8 + g))) (sU (sU W (8 + g) a) (12 + g) b) (sCnt n) (sSvd SV W n) (T) (len)) (cOpX K N I A R Q (if ¬ (0 ≤ g ∧ g ≤ 3) then 1 else if ¬ ((0 ≤ a ∧ a ≤ 100) ∧ (0 ≤ b ∧ b ≤ 9999)) then 2 else 0) [xIx, xAr, xSt]) 1 6 30 [(0, .ref x), (1, vi g), (2, vi a), (3, vi b)] [vi z] K N I A R Q := by
  obtain ⟨⟨x1, x2, x3, x4⟩, ⟨h1, h2, h3, h4, h5, h6, h7⟩, ⟨c1, c2, c3⟩, st, sv, hs, gg, hM⟩ := id hI
  obtain ⟨h0, hag, ev, kq, nq, hev, hE⟩ := id sv
  have hsh := st.1
  refine g_callSXc (k_K_Argument Y _ (by first | omega | (split <;> omega))) u_X12_checkArgument mw_407 rfl dX12_setQuality_30 rfl rfl ⟨Nat.le_of_ble_eq_true rfl, Nat.le_of_ble_eq_true rfl⟩ ⟨Nat.le_of_ble_eq_true rfl, Nat.le_of_ble_eq_true rfl⟩ (Nat.le_of_ble_eq_true rfl) (by decide) (fun E hh => by
    obtain ⟨q1, q2⟩ := hh
    have hc : ((if ¬ (0 ≤ g ∧ g ≤ 3) then 1 else if ¬ ((0 ≤ a ∧ a ≤ 100) ∧ (0 ≤ b ∧ b ≤ 9999)) then 2 else 0) : Int) = 2 := by repeat (first | omega | split)
    exact ⟨by rw [hc]; decide, by rw [hc, q2]; rfl, cSame.rfl⟩) (fun h30 => ?_)
  refine g_aload_n dX12_setQuality_33 rfl rfl ?_
  refine g_get_TileFactory_history dX12_setQuality_34 mw_301 (by assumption) x3 ?_
  refine g_aload_n dX12_setQuality_37 rfl rfl ?_
  refine g_get_TileFactory_state dX12_setQuality_38 mw_300 (by assumption) x2 ?_
  refine g_callV (i := 3) rfl (gK0 h1) (g_at3 h1) (k_H_save Y hI) u_X5_save mw_426 dX12_setQuality_41 rfl rfl ⟨Nat.le_of_ble_eq_true rfl, Nat.le_of_ble_eq_true rfl⟩ ⟨Nat.le_of_ble_eq_true rfl, Nat.le_of_ble_eq_true rfl⟩ (Nat.le_of_ble_eq_true rfl) (fun v41 K41 N41 I41 A41 R41 Q41 h41 => ?_)
  obtain ⟨rfl, G41, hI41, hf41⟩ := h41
  obtain ⟨⟨x1p, x2p, x3p, x4p⟩, ⟨h1p, h2p, h3p, h4p, h5p, h6p, h7p⟩, ⟨c1p, c2p, c3p⟩, stp, svp, hsp, ggp, hMp⟩ := id hI41
  obtain ⟨h0p, hagp, evp, kqp, nqp, hevp, hEp⟩ := id svp
  have hshp := stp.1
  have r5 := hshp.2.2.1.2.2.2.2 g (by omega) (by omega)
  refine g_aload_n dX12_setQuality_44 rfl rfl ?_
  refine g_get_TileFactory_state dX12_setQuality_45 mw_300 (by assumption) x2p ?_
  refine g_get_State_glazes dX12_setQuality_48 mw_205 hshp.1 hshp.2.2.1.1 ?_
  refine g_iload_n dX12_setQuality_51 rfl rfl ?_
  refine g_aald_Glaze dX12_setQuality_52 hshp.2.2.1.2.1 (by rw [hshp.2.2.1.2.2.1]; decide) (by rw [hshp.2.2.1.2.2.1]; omega) r5.1 ?_
  refine g_astore dX12_setQuality_53 (by decide) ?_
  refine g_aload dX12_setQuality_55 rfl ?_
  refine g_get_Glaze_defects dX12_setQuality_57 mw_95 r5.2.1 ?_
  refine g_istore dX12_setQuality_60 (by decide) ?_
  refine g_aload dX12_setQuality_62 rfl ?_
  refine g_iload_n dX12_setQuality_64 rfl rfl ?_
  refine g_put_Glaze_defects dX12_setQuality_65 mw_95 r5.2.1 (fun I65 hI65 => ?_)
  refine g_aload dX12_setQuality_68 rfl ?_
  refine g_iload_n dX12_setQuality_70 rfl rfl ?_
  refine g_put_Glaze_price dX12_setQuality_71 mw_98 r5.2.1 (fun I71 hI71 => ?_)
  refine g_iload dX12_setQuality_74 rfl ?_
  exact g_iret dX12_setQuality_76 rfl (by decide) (by decide) (by
      have hc0 : ((if ¬ (0 ≤ g ∧ g ≤ 3) then 1 else if ¬ ((0 ≤ a ∧ a ≤ 100) ∧ (0 ≤ b ∧ b ≤ 9999)) then 2 else 0) : Int) = 0 := by repeat (first | omega | split)
      have hcf : cFr G41 s I41 I71 A41 A41 := (cFr.up (by rw [r5.2.2]) (by decide) hI65).trans (cFr.up (by rw [r5.2.2]) (by decide) hI71)
      obtain ⟨r1, r2⟩ := hI41.st hcf (W' := sU (sU W (8 + g) a) (12 + g) b) ⟨hW hc0, by rw [cu_43 hshp (i := g) (by omega) (by omega) hI71, cu_42 hshp (i := g) (by omega) (by omega) hI65]; exact (ag.put hagp (by omega)).put (by omega), evp, kqp, nqp, hevp, cE.of hEp h0p.2.2.2.2.2.2.2.2 (by rw [hI71, g_up_ne1 _ _ (by decide), hI65, g_up_ne1 _ _ (by decide)]) (fun j a b => by rw [sU_ne _ _ (by omega), sU_ne _ _ (by omega)])⟩
      exact ⟨hc0, by rw [ar_42 hagp (i := g) (by omega) (by omega)], G41, r1, hf41.trans r2⟩)
set_option maxHeartbeats 1000000 in
set_option maxRecDepth 100000 in
theorem k_A_setQuality (Y : gEnv) {K N : Nat → Nat} {I : Nat → Nat → Int} {A : Nat → Int → Int} {R : Nat → Nat → Option Nat} {Q : Nat → Int → Option Nat} {G : Nat → Nat × Int} {M : Nat → Prop} {x s h hq sc sg ar : Nat} {W SV T : Int → Int} {n len : Int} (hI : cI K N I A R Q G M x s h hq sc sg ar W n SV T len) (g : Int) (hg : (-2147483648 ≤ g ∧ g ≤ 2147483647)) (a : Int) (ha : (-2147483648 ≤ a ∧ a ≤ 2147483647)) (b : Int) (hb : (-2147483648 ≤ b ∧ b ≤ 2147483647)) (hW : ((if ¬ (0 ≤ g ∧ g ≤ 3) then 1 else if ¬ ((0 ≤ a ∧ a ≤ 100) ∧ (0 ≤ b ∧ b ≤ 9999)) then 2 else 0) : Int) = 0 → iN (sU (sU W (8 + g) a) (12 + g) b)) : gC Y yX12_setQuality cX12_setQuality 6 (some .int) ({ frames := 7, cells := 319, slots := 1969, locals := 184 } : Room) [.ref x, vi g, vi a, vi b] K N I A R Q (cOpP K N I A R Q M x s h hq sc sg ar (if ¬ (0 ≤ g ∧ g ≤ 3) then 1 else if ¬ ((0 ≤ a ∧ a ≤ 100) ∧ (0 ≤ b ∧ b ≤ 9999)) then 2 else 0) (vi (W (8 + g))) (sU (sU W (8 + g) a) (12 + g) b) (sCnt n) (sSvd SV W n) (T) (len)) (cOpX K N I A R Q (if ¬ (0 ≤ g ∧ g ≤ 3) then 1 else if ¬ ((0 ≤ a ∧ a ≤ 100) ∧ (0 ≤ b ∧ b ≤ 9999)) then 2 else 0) [xIx, xAr, xSt]) := by
  refine gC_of (by decide) (Nat.le_of_ble_eq_true rfl) (fun X => ?_)
  obtain ⟨⟨x1, x2, x3, x4⟩, ⟨h1, h2, h3, h4, h5, h6, h7⟩, ⟨c1, c2, c3⟩, st, sv, hs, gg, hM⟩ := id hI
  obtain ⟨h0, hag, ev, kq, nq, hev, hE⟩ := id sv
  have hsh := st.1
  refine g_iload_n dX12_setQuality_0 rfl rfl ?_
  refine g_callSp (k_isGlaze Y _ (by omega)) u_X12_isGlaze mw_330 rfl dX12_setQuality_1 rfl rfl ⟨Nat.le_of_ble_eq_true rfl, Nat.le_of_ble_eq_true rfl⟩ ⟨Nat.le_of_ble_eq_true rfl, Nat.le_of_ble_eq_true rfl⟩ (Nat.le_of_ble_eq_true rfl) ?_
  refine g_callSXc (k_K_Index Y _ (by first | omega | (split <;> omega))) u_X12_checkIndex mw_336 rfl dX12_setQuality_4 rfl rfl ⟨Nat.le_of_ble_eq_true rfl, Nat.le_of_ble_eq_true rfl⟩ ⟨Nat.le_of_ble_eq_true rfl, Nat.le_of_ble_eq_true rfl⟩ (Nat.le_of_ble_eq_true rfl) (by decide) (fun E hh => by
    obtain ⟨q1, q2⟩ := hh
    have hc : ((if ¬ (0 ≤ g ∧ g ≤ 3) then 1 else if ¬ ((0 ≤ a ∧ a ≤ 100) ∧ (0 ≤ b ∧ b ≤ 9999)) then 2 else 0) : Int) = 1 := by repeat (first | omega | split)
    exact ⟨by rw [hc]; decide, by rw [hc, q2]; rfl, cSame.rfl⟩) (fun h4 => ?_)
  refine g_iload_n dX12_setQuality_7 rfl rfl ?_
  refine g_callSp (k_isPercentage Y _ (by omega)) u_X12_isPercentage mw_475 rfl dX12_setQuality_8 rfl rfl ⟨Nat.le_of_ble_eq_true rfl, Nat.le_of_ble_eq_true rfl⟩ ⟨Nat.le_of_ble_eq_true rfl, Nat.le_of_ble_eq_true rfl⟩ (Nat.le_of_ble_eq_true rfl) ?_
  refine g_if_eq (tgt := 29) dX12_setQuality_11 (by decide) (by omega) (fun c_11 => ?_) (fun c_11 => ?_)
  · refine g_iconst dX12_setQuality_29 ?_
    exact jp_A_setQuality_30 hI g hg a ha b hb hW (by omega) _ (by repeat (first | omega | split))
  · refine g_iload_n dX12_setQuality_14 rfl rfl ?_
    refine g_iconst dX12_setQuality_15 ?_
    refine g_sipush dX12_setQuality_16 (by decide) ?_
    refine g_callSp (k_isWithin Y _ _ _ (by omega) (by omega) (by omega)) u_X12_isWithin mw_333 rfl dX12_setQuality_19 rfl rfl ⟨Nat.le_of_ble_eq_true rfl, Nat.le_of_ble_eq_true rfl⟩ ⟨Nat.le_of_ble_eq_true rfl, Nat.le_of_ble_eq_true rfl⟩ (Nat.le_of_ble_eq_true rfl) ?_
    refine g_if_eq (tgt := 29) dX12_setQuality_22 (by decide) (by omega) (fun c_22 => ?_) (fun c_22 => ?_)
    · refine g_iconst dX12_setQuality_29 ?_
      exact jp_A_setQuality_30 hI g hg a ha b hb hW (by omega) _ (by repeat (first | omega | split))
    · refine g_iconst dX12_setQuality_25 ?_
      refine g_goto (tgt := 30) dX12_setQuality_26 (by decide) ?_
      exact jp_A_setQuality_30 hI g hg a ha b hb hW (by omega) _ (by repeat (first | omega | split))
set_option maxHeartbeats 1000000 in
set_option maxRecDepth 100000 in
theorem jp_A_setPosition_46 {Y : gEnv} {X : gCtx} {K N : Nat → Nat} {I : Nat → Nat → Int} {A : Nat → Int → Int} {R : Nat → Nat → Option Nat} {Q : Nat → Int → Option Nat} {G : Nat → Nat × Int} {M : Nat → Prop} {x s h hq sc sg ar : Nat} {W SV T : Int → Int} {n len : Int} (hI : cI K N I A R Q G M x s h hq sc sg ar W n SV T len) (k : Int) (hk : (-2147483648 ≤ k ∧ k ≤ 2147483647)) (p : Int) (hp : (-2147483648 ≤ p ∧ p ≤ 2147483647)) (a : Int) (ha : (-2147483648 ≤ a ∧ a ≤ 2147483647)) (b : Int) (hb : (-2147483648 ≤ b ∧ b ≤ 2147483647)) (hW : ((if ¬ ((0 ≤ k ∧ k ≤ 2) ∧ (0 ≤ p ∧ p ≤ 7)) then 1 else if ¬ ((-40 ≤ a ∧ a ≤ 40) ∧ (0 ≤ b ∧ b ≤ 100)) then 2 else 0) : Int) = 0 → iN (sU (sU W (16 + (8 * k + p)) a) (40 + (8 * k + p)) b)) (f0 : (0 ≤ k ∧ k ≤ 2) ∧ (0 ≤ p ∧ p ≤ 7)) (z : Int) (hz : z = if (-40 ≤ a ∧ a ≤ 40) ∧ (0 ≤ b ∧ b ≤ 100) then 1 else 0) : gJ Y X yX12_setPosition cX12_setPosition 7 (some .int) ({ frames := 7, cells := 319, slots := 1969, locals := 184 } : Room) (cOpP K N I A R Q M x s h hq sc sg ar (if ¬ ((0 ≤ k ∧ k ≤ 2) ∧ (0 ≤ p ∧ p ≤ 7)) then 1 else if ¬ ((-40 ≤ a ∧ a ≤ 40) ∧ (0 ≤ b ∧ b ≤ 100)) then 2 else 0) (vi (W (16 + (8 * k + p)))) (sU (sU W (16 + (8 * k + p)) a) (40 + (8 * k + p)) b) (sCnt n) (sSvd SV W n) (T) (len)) (cOpX K N I A R Q (if ¬ ((0 ≤ k ∧ k ≤ 2) ∧ (0 ≤ p ∧ p ≤ 7)) then 1 else if ¬ ((-40 ≤ a ∧ a ≤ 40) ∧ (0 ≤ b ∧ b ≤ 100)) then 2 else 0) [xIx, xAr, xSt]) 1 6 46 [(0, .ref x), (1, vi k), (2, vi p), (3, vi a), (4, vi b)] [vi z] K N I A R Q := by
  obtain ⟨⟨x1, x2, x3, x4⟩, ⟨h1, h2, h3, h4, h5, h6, h7⟩, ⟨c1, c2, c3⟩, st, sv, hs, gg, hM⟩ := id hI
  obtain ⟨h0, hag, ev, kq, nq, hev, hE⟩ := id sv
  have hsh := st.1
  refine g_callSXc (k_K_Argument Y _ (by first | omega | (split <;> omega))) u_X12_checkArgument mw_407 rfl dX12_setPosition_46 rfl rfl ⟨Nat.le_of_ble_eq_true rfl, Nat.le_of_ble_eq_true rfl⟩ ⟨Nat.le_of_ble_eq_true rfl, Nat.le_of_ble_eq_true rfl⟩ (Nat.le_of_ble_eq_true rfl) (by decide) (fun E hh => by
    obtain ⟨q1, q2⟩ := hh
    have hc : ((if ¬ ((0 ≤ k ∧ k ≤ 2) ∧ (0 ≤ p ∧ p ≤ 7)) then 1 else if ¬ ((-40 ≤ a ∧ a ≤ 40) ∧ (0 ≤ b ∧ b ≤ 100)) then 2 else 0) : Int) = 2 := by repeat (first | omega | split)
    exact ⟨by rw [hc]; decide, by rw [hc, q2]; rfl, cSame.rfl⟩) (fun h46 => ?_)
  refine g_aload_n dX12_setPosition_49 rfl rfl ?_
  refine g_get_TileFactory_history dX12_setPosition_50 mw_301 (by assumption) x3 ?_
  refine g_aload_n dX12_setPosition_53 rfl rfl ?_
  refine g_get_TileFactory_state dX12_setPosition_54 mw_300 (by assumption) x2 ?_
  refine g_callV (i := 3) rfl (gK0 h1) (g_at3 h1) (k_H_save Y hI) u_X5_save mw_426 dX12_setPosition_57 rfl rfl ⟨Nat.le_of_ble_eq_true rfl, Nat.le_of_ble_eq_true rfl⟩ ⟨Nat.le_of_ble_eq_true rfl, Nat.le_of_ble_eq_true rfl⟩ (Nat.le_of_ble_eq_true rfl) (fun v57 K57 N57 I57 A57 R57 Q57 h57 => ?_)
  obtain ⟨rfl, G57, hI57, hf57⟩ := h57
  obtain ⟨⟨x1p, x2p, x3p, x4p⟩, ⟨h1p, h2p, h3p, h4p, h5p, h6p, h7p⟩, ⟨c1p, c2p, c3p⟩, stp, svp, hsp, ggp, hMp⟩ := id hI57
  obtain ⟨h0p, hagp, evp, kqp, nqp, hevp, hEp⟩ := id svp
  have hshp := stp.1
  have r5 := hshp.2.2.2.1.2.2.2.2 (8 * k + p) (by omega) (by omega)
  refine g_aload_n dX12_setPosition_60 rfl rfl ?_
  refine g_get_TileFactory_state dX12_setPosition_61 mw_300 (by assumption) x2p ?_
  refine g_get_State_positions dX12_setPosition_64 mw_207 hshp.1 hshp.2.2.2.1.1 ?_
  refine g_iload_n dX12_setPosition_67 rfl rfl ?_
  refine g_bipush dX12_setPosition_68 (by decide) ?_
  refine g_imul dX12_setPosition_70 ?_
  refine g_iload_n dX12_setPosition_71 rfl rfl ?_
  refine g_iadd dX12_setPosition_72 ?_
  rw [show k * 8 + p = 8 * k + p by omega]
  refine g_aald_Position dX12_setPosition_73 hshp.2.2.2.1.2.1 (by rw [hshp.2.2.2.1.2.2.1]; decide) (by rw [hshp.2.2.2.1.2.2.1]; omega) r5.1 ?_
  refine g_astore dX12_setPosition_74 (by decide) ?_
  refine g_aload dX12_setPosition_76 rfl ?_
  refine g_get_Position_offset dX12_setPosition_78 mw_115 r5.2.1 ?_
  refine g_istore dX12_setPosition_81 (by decide) ?_
  refine g_aload dX12_setPosition_83 rfl ?_
  refine g_iload_n dX12_setPosition_85 rfl rfl ?_
  refine g_put_Position_offset dX12_setPosition_86 mw_115 r5.2.1 (fun I86 hI86 => ?_)
  refine g_aload dX12_setPosition_89 rfl ?_
  refine g_iload dX12_setPosition_91 rfl ?_
  refine g_put_Position_breakage dX12_setPosition_93 mw_117 r5.2.1 (fun I93 hI93 => ?_)
  refine g_iload dX12_setPosition_96 rfl ?_
  exact g_iret dX12_setPosition_98 rfl (by decide) (by decide) (by
      have hc0 : ((if ¬ ((0 ≤ k ∧ k ≤ 2) ∧ (0 ≤ p ∧ p ≤ 7)) then 1 else if ¬ ((-40 ≤ a ∧ a ≤ 40) ∧ (0 ≤ b ∧ b ≤ 100)) then 2 else 0) : Int) = 0 := by repeat (first | omega | split)
      have hcf : cFr G57 s I57 I93 A57 A57 := (cFr.up (by rw [r5.2.2]) (by decide) hI86).trans (cFr.up (by rw [r5.2.2]) (by decide) hI93)
      obtain ⟨r1, r2⟩ := hI57.st hcf (W' := sU (sU W (16 + (8 * k + p)) a) (40 + (8 * k + p)) b) ⟨hW hc0, by rw [cu_122 hshp (i := 8 * k + p) (by omega) (by omega) hI93, cu_121 hshp (i := 8 * k + p) (by omega) (by omega) hI86]; exact (ag.put hagp (by omega)).put (by omega), evp, kqp, nqp, hevp, cE.of hEp h0p.2.2.2.2.2.2.2.2 (by rw [hI93, g_up_ne1 _ _ (by decide), hI86, g_up_ne1 _ _ (by decide)]) (fun j a b => by rw [sU_ne _ _ (by omega), sU_ne _ _ (by omega)])⟩
      exact ⟨hc0, by rw [ar_121 hagp (i := 8 * k + p) (by omega) (by omega)], G57, r1, hf57.trans r2⟩)
set_option maxHeartbeats 1000000 in
set_option maxRecDepth 100000 in
theorem jp_A_setPosition_19 {Y : gEnv} {X : gCtx} {K N : Nat → Nat} {I : Nat → Nat → Int} {A : Nat → Int → Int} {R : Nat → Nat → Option Nat} {Q : Nat → Int → Option Nat} {G : Nat → Nat × Int} {M : Nat → Prop} {x s h hq sc sg ar : Nat} {W SV T : Int → Int} {n len : Int} (hI : cI K N I A R Q G M x s h hq sc sg ar W n SV T len) (k : Int) (hk : (-2147483648 ≤ k ∧ k ≤ 2147483647)) (p : Int) (hp : (-2147483648 ≤ p ∧ p ≤ 2147483647)) (a : Int) (ha : (-2147483648 ≤ a ∧ a ≤ 2147483647)) (b : Int) (hb : (-2147483648 ≤ b ∧ b ≤ 2147483647)) (hW : ((if ¬ ((0 ≤ k ∧ k ≤ 2) ∧ (0 ≤ p ∧ p ≤ 7)) then 1 else if ¬ ((-40 ≤ a ∧ a ≤ 40) ∧ (0 ≤ b ∧ b ≤ 100)) then 2 else 0) : Int) = 0 → iN (sU (sU W (16 + (8 * k + p)) a) (40 + (8 * k + p)) b))  (z : Int) (hz : z = if (0 ≤ k ∧ k ≤ 2) ∧ (0 ≤ p ∧ p ≤ 7) then 1 else 0) : gJ Y X yX12_setPosition cX12_setPosition 7 (some .int) ({ frames := 7, cells := 319, slots := 1969, locals := 184 } : Room) (cOpP K N I A R Q M x s h hq sc sg ar (if ¬ ((0 ≤ k ∧ k ≤ 2) ∧ (0 ≤ p ∧ p ≤ 7)) then 1 else if ¬ ((-40 ≤ a ∧ a ≤ 40) ∧ (0 ≤ b ∧ b ≤ 100)) then 2 else 0) (vi (W (16 + (8 * k + p)))) (sU (sU W (16 + (8 * k + p)) a) (40 + (8 * k + p)) b) (sCnt n) (sSvd SV W n) (T) (len)) (cOpX K N I A R Q (if ¬ ((0 ≤ k ∧ k ≤ 2) ∧ (0 ≤ p ∧ p ≤ 7)) then 1 else if ¬ ((-40 ≤ a ∧ a ≤ 40) ∧ (0 ≤ b ∧ b ≤ 100)) then 2 else 0) [xIx, xAr, xSt]) 0 0 19 [(0, .ref x), (1, vi k), (2, vi p), (3, vi a), (4, vi b)] [vi z] K N I A R Q := by
  obtain ⟨⟨x1, x2, x3, x4⟩, ⟨h1, h2, h3, h4, h5, h6, h7⟩, ⟨c1, c2, c3⟩, st, sv, hs, gg, hM⟩ := id hI
  obtain ⟨h0, hag, ev, kq, nq, hev, hE⟩ := id sv
  have hsh := st.1
  refine g_callSXc (k_K_Index Y _ (by first | omega | (split <;> omega))) u_X12_checkIndex mw_336 rfl dX12_setPosition_19 rfl rfl ⟨Nat.le_of_ble_eq_true rfl, Nat.le_of_ble_eq_true rfl⟩ ⟨Nat.le_of_ble_eq_true rfl, Nat.le_of_ble_eq_true rfl⟩ (Nat.le_of_ble_eq_true rfl) (by decide) (fun E hh => by
    obtain ⟨q1, q2⟩ := hh
    have hc : ((if ¬ ((0 ≤ k ∧ k ≤ 2) ∧ (0 ≤ p ∧ p ≤ 7)) then 1 else if ¬ ((-40 ≤ a ∧ a ≤ 40) ∧ (0 ≤ b ∧ b ≤ 100)) then 2 else 0) : Int) = 1 := by repeat (first | omega | split)
    exact ⟨by rw [hc]; decide, by rw [hc, q2]; rfl, cSame.rfl⟩) (fun h19 => ?_)
  refine g_iload_n dX12_setPosition_22 rfl rfl ?_
  refine g_bipush dX12_setPosition_23 (by decide) ?_
  refine g_bipush dX12_setPosition_25 (by decide) ?_
  refine g_callSp (k_isWithin Y _ _ _ (by omega) (by omega) (by omega)) u_X12_isWithin mw_333 rfl dX12_setPosition_27 rfl rfl ⟨Nat.le_of_ble_eq_true rfl, Nat.le_of_ble_eq_true rfl⟩ ⟨Nat.le_of_ble_eq_true rfl, Nat.le_of_ble_eq_true rfl⟩ (Nat.le_of_ble_eq_true rfl) ?_
  refine g_if_eq (tgt := 45) dX12_setPosition_30 (by decide) (by omega) (fun c_30 => ?_) (fun c_30 => ?_)
  · refine g_iconst dX12_setPosition_45 ?_
    exact jp_A_setPosition_46 hI k hk p hp a ha b hb hW (by omega) _ (by repeat (first | omega | split))
  · refine g_iload dX12_setPosition_33 rfl ?_
    refine g_callSp (k_isPercentage Y _ (by omega)) u_X12_isPercentage mw_475 rfl dX12_setPosition_35 rfl rfl ⟨Nat.le_of_ble_eq_true rfl, Nat.le_of_ble_eq_true rfl⟩ ⟨Nat.le_of_ble_eq_true rfl, Nat.le_of_ble_eq_true rfl⟩ (Nat.le_of_ble_eq_true rfl) ?_
    refine g_if_eq (tgt := 45) dX12_setPosition_38 (by decide) (by omega) (fun c_38 => ?_) (fun c_38 => ?_)
    · refine g_iconst dX12_setPosition_45 ?_
      exact jp_A_setPosition_46 hI k hk p hp a ha b hb hW (by omega) _ (by repeat (first | omega | split))
    · refine g_iconst dX12_setPosition_41 ?_
      refine g_goto (tgt := 46) dX12_setPosition_42 (by decide) ?_
      exact jp_A_setPosition_46 hI k hk p hp a ha b hb hW (by omega) _ (by repeat (first | omega | split))
set_option maxHeartbeats 1000000 in
set_option maxRecDepth 100000 in
theorem k_A_setPosition (Y : gEnv) {K N : Nat → Nat} {I : Nat → Nat → Int} {A : Nat → Int → Int} {R : Nat → Nat → Option Nat} {Q : Nat → Int → Option Nat} {G : Nat → Nat × Int} {M : Nat → Prop} {x s h hq sc sg ar : Nat} {W SV T : Int → Int} {n len : Int} (hI : cI K N I A R Q G M x s h hq sc sg ar W n SV T len) (k : Int) (hk : (-2147483648 ≤ k ∧ k ≤ 2147483647)) (p : Int) (hp : (-2147483648 ≤ p ∧ p ≤ 2147483647)) (a : Int) (ha : (-2147483648 ≤ a ∧ a ≤ 2147483647)) (b : Int) (hb : (-2147483648 ≤ b ∧ b ≤ 2147483647)) (hW : ((if ¬ ((0 ≤ k ∧ k ≤ 2) ∧ (0 ≤ p ∧ p ≤ 7)) then 1 else if ¬ ((-40 ≤ a ∧ a ≤ 40) ∧ (0 ≤ b ∧ b ≤ 100)) then 2 else 0) : Int) = 0 → iN (sU (sU W (16 + (8 * k + p)) a) (40 + (8 * k + p)) b)) : gC Y yX12_setPosition cX12_setPosition 7 (some .int) ({ frames := 7, cells := 319, slots := 1969, locals := 184 } : Room) [.ref x, vi k, vi p, vi a, vi b] K N I A R Q (cOpP K N I A R Q M x s h hq sc sg ar (if ¬ ((0 ≤ k ∧ k ≤ 2) ∧ (0 ≤ p ∧ p ≤ 7)) then 1 else if ¬ ((-40 ≤ a ∧ a ≤ 40) ∧ (0 ≤ b ∧ b ≤ 100)) then 2 else 0) (vi (W (16 + (8 * k + p)))) (sU (sU W (16 + (8 * k + p)) a) (40 + (8 * k + p)) b) (sCnt n) (sSvd SV W n) (T) (len)) (cOpX K N I A R Q (if ¬ ((0 ≤ k ∧ k ≤ 2) ∧ (0 ≤ p ∧ p ≤ 7)) then 1 else if ¬ ((-40 ≤ a ∧ a ≤ 40) ∧ (0 ≤ b ∧ b ≤ 100)) then 2 else 0) [xIx, xAr, xSt]) := by
  refine gC_of (by decide) (Nat.le_of_ble_eq_true rfl) (fun X => ?_)
  obtain ⟨⟨x1, x2, x3, x4⟩, ⟨h1, h2, h3, h4, h5, h6, h7⟩, ⟨c1, c2, c3⟩, st, sv, hs, gg, hM⟩ := id hI
  obtain ⟨h0, hag, ev, kq, nq, hev, hE⟩ := id sv
  have hsh := st.1
  refine g_iload_n dX12_setPosition_0 rfl rfl ?_
  refine g_callSp (k_isKiln Y _ (by omega)) u_X12_isKiln mw_485 rfl dX12_setPosition_1 rfl rfl ⟨Nat.le_of_ble_eq_true rfl, Nat.le_of_ble_eq_true rfl⟩ ⟨Nat.le_of_ble_eq_true rfl, Nat.le_of_ble_eq_true rfl⟩ (Nat.le_of_ble_eq_true rfl) ?_
  refine g_if_eq (tgt := 18) dX12_setPosition_4 (by decide) (by omega) (fun c_4 => ?_) (fun c_4 => ?_)
  · refine g_iconst dX12_setPosition_18 ?_
    exact jp_A_setPosition_19 hI k hk p hp a ha b hb hW  _ (by repeat (first | omega | split))
  · refine g_iload_n dX12_setPosition_7 rfl rfl ?_
    refine g_callSp (k_isPosition Y _ (by omega)) u_X12_isPosition mw_488 rfl dX12_setPosition_8 rfl rfl ⟨Nat.le_of_ble_eq_true rfl, Nat.le_of_ble_eq_true rfl⟩ ⟨Nat.le_of_ble_eq_true rfl, Nat.le_of_ble_eq_true rfl⟩ (Nat.le_of_ble_eq_true rfl) ?_
    refine g_if_eq (tgt := 18) dX12_setPosition_11 (by decide) (by omega) (fun c_11 => ?_) (fun c_11 => ?_)
    · refine g_iconst dX12_setPosition_18 ?_
      exact jp_A_setPosition_19 hI k hk p hp a ha b hb hW  _ (by repeat (first | omega | split))
    · refine g_iconst dX12_setPosition_14 ?_
      refine g_goto (tgt := 19) dX12_setPosition_15 (by decide) ?_
      exact jp_A_setPosition_19 hI k hk p hp a ha b hb hW  _ (by repeat (first | omega | split))
