theorem cErr_range0 {T : Int → Int} {len : Int} : ∀ (f : Nat) (k m : Int), 0 ≤ m → -1 ≤ sErr T len f k m ∧ sErr T len f k m ≤ 10 * (m + f) + 3
  | 0, k, m, h => ⟨Int.le_refl _, by simp only [sErr]; omega⟩
  | f + 1, k, m, h => by
    have hk := sKind_range (sCmd T len k)
    have ih := cErr_range0 (T := T) (len := len) f (sEnd T len k + 1) (m + 1) (by omega)
    simp only [sErr]
    split
    · split <;> omega
    · omega
theorem cErr_range (T : Int → Int) (len : Int) (h : 0 ≤ len ∧ len ≤ 100) : -2147483648 ≤ sErr T len 101 0 0 ∧ sErr T len 101 0 0 ≤ 2147483647 := by
  have := cErr_range0 (T := T) (len := len) 101 0 0 (by omega)
  omega
theorem cMt {W : Int → Int} (h : mT W) : mB W := h.mB
theorem cCode_nn (W : Int → Int) (S : sSt) : 0 ≤ sCode W S := by
  simp only [sCode]
  have a := (sFireT_range W (S.2.2.2 0) (S.2.2.2 1) (S.2.2.2 2) (S.2.2.2 3)).1
  have b := (sGradeT_range W (S.2.2.2 0)).1
  have c := (sDeliverT_range W (S.2.2.2 0) (S.2.2.2 1) (S.2.2.2 2)).1
  have d := (sDropT_range W (S.2.2.2 0) (S.2.2.2 1) (S.2.2.2 2) (S.2.2.2 3)).1
  repeat (first | omega | split)
set_option maxHeartbeats 1000000 in
set_option maxRecDepth 100000 in
theorem lp_A_runs {Y : gEnv} {X : gCtx} {K N : Nat → Nat} {I0 : Nat → Nat → Int} {A0 : Nat → Int → Int} {R0 : Nat → Nat → Option Nat} {Q : Nat → Int → Option Nat} {G : Nat → Nat × Int} {M : Nat → Prop} {x s h hq sc sg ar : Nat} {W0 SV T : Int → Int} {n len : Int} (hlen : 0 ≤ len ∧ len ≤ 100) (hTr : ∀ j, 0 ≤ j → j < 100 → 0 ≤ T j ∧ T j ≤ 126) : ∀ (f m : Nat) (s1 k : Int) (W : Int → Int) (I : Nat → Nat → Int) (A : Nat → Int → Int) (R : Nat → Nat → Option Nat), m < f → 0 ≤ k ∧ k ≤ len + 1 → len + 1 - k ≤ m → 0 ≤ s1 ∧ s1 ≤ 101 → s1 + sCm T len k = sCm T len 0 → cI K N I A R Q G M x s h hq sc sg ar W n SV T len → I 142 sc = k → gFm M K N I0 A0 R0 Q K N I A R Q → iZ W → mT W → sErr T len m k s1 = -1 → sExeN T len m k s1 W = sExeN T len 101 0 0 W0 → sExeW T len m k W = sExeW T len 101 0 W0 → gJ Y X yX12_runCommands cX12_runCommands 3 (some .int) ({ frames := 8, cells := 0, slots := 0, locals := 234 } : Room) (g_wR K N Q (fun v I' A' R' => v = some (vi (sExeN T len 101 0 0 W0)) ∧ cI K N I' A' R' Q G M x s h hq sc sg ar (sExeW T len 101 0 W0) n SV T len ∧ gFm M K N I0 A0 R0 Q K N I' A' R' Q)) gno 0 0 17 [(0, .ref x), (1, vi (sCm T len 0)), (2, vi s1)] [] K N I A R Q := by
  intro f
  induction f with
  | zero => intro m s1 k W I A R h; omega
  | succ f ih =>
  intro m s1 k W I A R hf hk hm hs1 hc hI hkI hfm hz hmt he e1 e2
  obtain ⟨⟨x1, x2, x3, x4⟩, ⟨h1, h2, h3, h4, h5, h6, h7⟩, ⟨c1, c2, c3⟩, st, sv, hs, gg, hM⟩ := id hI
  obtain ⟨h0, hag, ev, kq, nq, hev, hE⟩ := id sv
  have hsh := st.1
  have hcr := sCm_range (T := T) (n := len) (k := k) (by omega)
  have hc0 := sCm_range (T := T) (n := len) (k := 0) (by omega)
  refine g_iload_n dX12_runCommands_17 rfl rfl ?_
  refine g_iload_n dX12_runCommands_18 rfl rfl ?_
  refine g_icmp_ge (tgt := 51) dX12_runCommands_19 (by decide) (by omega) (by omega) (fun c_19 => ?_) (fun c_19 => ?_)
  · refine g_iload_n dX12_runCommands_51 rfl rfl ?_
    exact g_iret dX12_runCommands_52 rfl (by decide) (by decide) (by
      have hkn : ¬ k ≤ len := fun e => by
        have q1 := sCm_next (T := T) e
        have q2 := sCm_range (T := T) (n := len) (k := sEnd T len k + 1) (by have := sEnd_range (T := T) e; omega)
        omega
      rw [sExeN_out hkn] at e1
      rw [sExeW_out hkn] at e2
      rw [← e1, ← e2]
      exact ⟨rfl, rfl, rfl, by rw [show sCm T len 0 = s1 by omega], hI, hfm⟩)
  · have hkn : k ≤ len := by
      by_cases e : k ≤ len
      · exact e
      · rw [sCm_out e] at hc; omega
    have hcn := sCm_next (T := T) hkn
    have hci := sCmd_inv (T := T) (n := len) (b := k) (by omega)
    have hkr := sKind_range (sCmd T len k)
    have her := sEnd_range (T := T) (n := len) (b := k) (by omega)
    have hk0 : sKind (sCmd T len k) = 0 := by
      by_cases e : 0 < sKind (sCmd T len k)
      · rw [sErr_bad (by omega) hkn e] at he; omega
      · omega
    refine g_aload_n dX12_runCommands_22 rfl rfl ?_
    refine g_get_TileFactory_script dX12_runCommands_23 mw_350 (by assumption) x4 ?_
    refine g_callVr (i := 7) rfl (gK0 c1.1) (g_at7 c1.1) (k_C_readCommand Y c1 (by rw [c3]; exact hTr) (by rw [c2]; exact hlen) (by rw [hkI, c2]; omega)) u_X9_readCommand mw_1123 dX12_runCommands_26 rfl rfl ⟨Nat.le_of_ble_eq_true rfl, Nat.le_of_ble_eq_true rfl⟩ ⟨Nat.le_of_ble_eq_true rfl, Nat.le_of_ble_eq_true rfl⟩ (Nat.le_of_ble_eq_true rfl) (fun v26 I26 A26 R26 h26 => ?_)
    obtain ⟨rfl, p26, f26, n26⟩ := h26
    rw [c3, c2, hkI] at p26 n26
    have g26 := hI.sf f26
    refine g_aload_n dX12_runCommands_29 rfl rfl ?_
    refine g_aload_n dX12_runCommands_30 rfl rfl ?_
    refine g_get_TileFactory_script dX12_runCommands_31 mw_350 (by assumption) (g26.1.1.2.2.2) ?_
    refine g_get_verbR dX12_runCommands_34 mw_331 c1.1 ?_
    refine g_callVw (i := 9) rfl (gK0 x1) (g_at9 x1) (k_A_run Y g26.1 p26 hci.1 hk0 hz (fun q => (sApp_ok h0 hk0 hci.1 q).1 hz)) u_X12_runCommand mw_1124 dX12_runCommands_37 rfl rfl ⟨Nat.le_of_ble_eq_true rfl, Nat.le_of_ble_eq_true rfl⟩ ⟨Nat.le_of_ble_eq_true rfl, Nat.le_of_ble_eq_true rfl⟩ (Nat.le_of_ble_eq_true rfl) (fun v37 I37 A37 h37 => ?_)
    obtain ⟨rfl, g37, m37, n37⟩ := h37
    refine g_if_ne (tgt := 45) dX12_runCommands_40 (by decide) (by omega) (fun c_40 => ?_) (fun c_40 => ?_)
    · refine g_iinc dX12_runCommands_45 rfl (by decide) ?_
      refine g_goto (tgt := 17) dX12_runCommands_48 (by decide) ?_
      have hcd : ¬ 0 < sCode W (sCmd T len k) := by
        intro e
        rw [if_pos e] at c_40
        exact absurd c_40 (by decide)
      rw [if_neg hcd] at g37
      rw [sErr_step (by omega) hkn (by omega)] at he
      rw [sExeN_step (by omega) hkn hcd] at e1
      rw [sExeW_step (by omega) hkn hcd] at e2
      have hco : sCode W (sCmd T len k) = 0 := by
        have h1 := g37
        by_cases q : sCode W (sCmd T len k) = 0
        · exact q
        · exact absurd (cCode_nn W (sCmd T len k)) (by omega)
      have hok := sApp_ok h0 hk0 hci.1 hco
      exact g_locs (by exact ⟨rfl, rfl, rfl, trivial⟩) (ih (m - 1) (s1 + 1) (sEnd T len k + 1) _ _ _ _ (by omega) (by omega) (by omega) (by omega) (by omega) g37 (n37.trans n26) ((hfm.trans g26.2).trans m37) (hok.2.2 hz) (hok.2.1 hmt hz) he e1 e2)
    · refine g_iload_n dX12_runCommands_43 rfl rfl ?_
      exact g_iret dX12_runCommands_44 rfl (by decide) (by decide) (by
      have hcd : 0 < sCode W (sCmd T len k) := by
        by_cases e : 0 < sCode W (sCmd T len k)
        · exact e
        · rw [if_neg e] at c_40; exact absurd c_40 (by decide)
      rw [if_pos hcd] at g37
      rw [sExeN_bad (by omega) hkn hcd] at e1
      rw [sExeW_bad (by omega) hkn hcd] at e2
      rw [← e1, ← e2]
      exact ⟨rfl, rfl, rfl, rfl, g37, (hfm.trans g26.2).trans m37⟩)
set_option maxHeartbeats 1000000 in
set_option maxRecDepth 100000 in
theorem k_A_runs (Y : gEnv) {K N : Nat → Nat} {I : Nat → Nat → Int} {A : Nat → Int → Int} {R : Nat → Nat → Option Nat} {Q : Nat → Int → Option Nat} {G : Nat → Nat × Int} {M : Nat → Prop} {x s h hq sc sg ar : Nat} {W SV T : Int → Int} {n len : Int} (hI : cI K N I A R Q G M x s h hq sc sg ar W n SV T len) (hlen : 0 ≤ len ∧ len ≤ 100) (hTr : ∀ j, 0 ≤ j → j < 100 → 0 ≤ T j ∧ T j ≤ 126) (hz : iZ W) (hmt : mT W) (he : sErr T len 101 0 0 = -1) : gC Y yX12_runCommands cX12_runCommands 3 (some .int) ({ frames := 8, cells := 0, slots := 0, locals := 234 } : Room) [.ref x] K N I A R Q (g_wR K N Q (fun v I' A' R' => v = some (vi (sExeN T len 101 0 0 W)) ∧ cI K N I' A' R' Q G M x s h hq sc sg ar (sExeW T len 101 0 W) n SV T len ∧ gFm M K N I A R Q K N I' A' R' Q)) gno := by
  refine gC_of (by decide) (Nat.le_of_ble_eq_true rfl) (fun X => ?_)
  obtain ⟨⟨x1, x2, x3, x4⟩, ⟨h1, h2, h3, h4, h5, h6, h7⟩, ⟨c1, c2, c3⟩, st, sv, hs, gg, hM⟩ := id hI
  obtain ⟨h0, hag, ev, kq, nq, hev, hE⟩ := id sv
  have hsh := st.1
  refine g_aload_n dX12_runCommands_0 rfl rfl ?_
  refine g_get_TileFactory_script dX12_runCommands_1 mw_350 (by assumption) x4 ?_
  refine g_callVp (i := 7) rfl (gK0 c1.1) (g_at7 c1.1) (k_C_countCommands Y c1 (by rw [c3]; exact hTr) (by rw [c2]; exact hlen)) u_X9_countCommands mw_1121 dX12_runCommands_4 rfl rfl ⟨Nat.le_of_ble_eq_true rfl, Nat.le_of_ble_eq_true rfl⟩ ⟨Nat.le_of_ble_eq_true rfl, Nat.le_of_ble_eq_true rfl⟩ (Nat.le_of_ble_eq_true rfl) ?_
  rw [c3, c2]
  refine g_istore_n dX12_runCommands_7 rfl (by decide) ?_
  refine g_aload_n dX12_runCommands_8 rfl rfl ?_
  refine g_get_TileFactory_script dX12_runCommands_9 mw_350 (by assumption) x4 ?_
  refine g_callVw (i := 7) rfl (gK0 c1.1) (g_at7 c1.1) (k_C_rewind Y c1) u_X9_rewind mw_1122 dX12_runCommands_12 rfl rfl ⟨Nat.le_of_ble_eq_true rfl, Nat.le_of_ble_eq_true rfl⟩ ⟨Nat.le_of_ble_eq_true rfl, Nat.le_of_ble_eq_true rfl⟩ (Nat.le_of_ble_eq_true rfl) (fun v12 I12 A12 h12 => ?_)
  obtain ⟨rfl, i12, a12⟩ := h12
  obtain rfl := a12.symm
  have f12 : cSf I I12 A A R R sc ar := by rw [i12]; exact cSf.up (by omega)
  obtain ⟨r1, r2⟩ := hI.sf f12
  refine g_iconst dX12_runCommands_15 ?_
  refine g_istore_n dX12_runCommands_16 rfl (by decide) ?_
  exact g_locs (by exact ⟨rfl, rfl, rfl, trivial⟩) (lp_A_runs (I0 := I) (A0 := A) (R0 := R) hlen hTr _ 101 0 0 W _ _ _ (Nat.lt_succ_self _) (by omega) (by omega) (by omega) (by omega) r1 (by rw [i12]; simp [g_up]) r2 hz hmt he rfl rfl)
/-- as cOpX, where the call may have changed what nobody sees -/
def cOpY (K N : Nat → Nat) (I : Nat → Nat → Int) (A : Nat → Int → Int) (R : Nat → Nat → Option Nat) (Q : Nat → Int → Option Nat) (M : Nat → Prop) (x s h hq sc sg ar : Nat) (code : Int) (l : List String) (W : Int → Int) (n : Int) (SV T : Int → Int) (len : Int) : gPx := fun E K' N' I' A' R' Q' => code ≠ 0 ∧ E = l.getD (code - 1).toNat "" ∧ ∃ G' : Nat → Nat × Int, cI K' N' I' A' R' Q' G' M x s h hq sc sg ar W n SV T len ∧ gFm M K N I A R Q K' N' I' A' R' Q'
set_option maxHeartbeats 1000000 in
set_option maxRecDepth 100000 in
theorem jp_A_execute {Y : gEnv} {X : gCtx} {po : gPo} {px : gPx} {K N : Nat → Nat} {I : Nat → Nat → Int} {A : Nat → Int → Int} {R : Nat → Nat → Option Nat} {Q : Nat → Int → Option Nat} {G : Nat → Nat × Int} {M : Nat → Prop} {x s h hq sc sg ar : Nat} {W SV T : Int → Int} {n len : Int} (hI : cI K N I A R Q G M x s h hq sc sg ar W n SV T len) (hlen : 0 ≤ len ∧ len ≤ 100) (hTr : ∀ j, 0 ≤ j → j < 100 → 0 ≤ T j ∧ T j ≤ 126) (hz : iZ W) (hmt : mT W) (hpo : sErr T len 101 0 0 = -1 → ∀ (v : Option Value) (K' N' : Nat → Nat) (I' : Nat → Nat → Int) (A' : Nat → Int → Int) (R' : Nat → Nat → Option Nat) (Q' : Nat → Int → Option Nat) (G' : Nat → Nat × Int), v = some (vi (sExeN T len 101 0 0 W)) → cI K' N' I' A' R' Q' G' M x s h hq sc sg ar (sExeW T len 101 0 W) (sCnt n) (sSvd SV W n) T 0 → gFm M K N I A R Q K' N' I' A' R' Q' → po v K' N' I' A' R' Q') (hpx : sErr T len 101 0 0 ≠ -1 → px xSt K N I A R Q) (z : Int) (hz1 : z = if sErr T len 101 0 0 = -1 then 1 else 0) : gJ Y X yX12_execute cX12_execute 2 (some .int) ({ frames := 9, cells := 318, slots := 1963, locals := 257 } : Room) po px 0 0 16 [(0, .ref x)] [vi z] K N I A R Q := by
  obtain ⟨⟨x1, x2, x3, x4⟩, ⟨h1, h2, h3, h4, h5, h6, h7⟩, ⟨c1, c2, c3⟩, st, sv, hs, gg, hM⟩ := id hI
  obtain ⟨h0, hag, ev, kq, nq, hev, hE⟩ := id sv
  have hsh := st.1
  refine g_callSXc (k_K_State Y _ (by first | omega | (split <;> omega))) u_X12_checkState mw_663 rfl dX12_execute_16 rfl rfl ⟨Nat.le_of_ble_eq_true rfl, Nat.le_of_ble_eq_true rfl⟩ ⟨Nat.le_of_ble_eq_true rfl, Nat.le_of_ble_eq_true rfl⟩ (Nat.le_of_ble_eq_true rfl) (by decide) (fun E hh => by
    obtain ⟨q1, q2⟩ := hh
    rw [q2]
    exact hpx (by intro e; rw [if_pos e] at hz1; omega)) (fun h16 => ?_)
  have hee : sErr T len 101 0 0 = -1 := by
    by_cases e : sErr T len 101 0 0 = -1
    · exact e
    · rw [if_neg e] at hz1; omega
  refine g_aload_n dX12_execute_19 rfl rfl ?_
  refine g_get_TileFactory_history dX12_execute_20 mw_349 (by assumption) x3 ?_
  refine g_aload_n dX12_execute_23 rfl rfl ?_
  refine g_get_TileFactory_state dX12_execute_24 mw_348 (by assumption) x2 ?_
  refine g_callV (i := 3) rfl (gK0 h1) (g_at3 h1) (k_H_save Y hI) u_X5_save mw_362 dX12_execute_27 rfl rfl ⟨Nat.le_of_ble_eq_true rfl, Nat.le_of_ble_eq_true rfl⟩ ⟨Nat.le_of_ble_eq_true rfl, Nat.le_of_ble_eq_true rfl⟩ (Nat.le_of_ble_eq_true rfl) (fun v27 K27 N27 I27 A27 R27 Q27 h27 => ?_)
  obtain ⟨rfl, G27, hI27, hf27⟩ := h27
  obtain ⟨⟨x1p, x2p, x3p, x4p⟩, ⟨h1p, h2p, h3p, h4p, h5p, h6p, h7p⟩, ⟨c1p, c2p, c3p⟩, stp, svp, hsp, ggp, hMp⟩ := id hI27
  obtain ⟨h0p, hagp, evp, kqp, nqp, hevp, hEp⟩ := id svp
  have hshp := stp.1
  refine g_aload_n dX12_execute_30 rfl rfl ?_
  refine g_callVr (i := 9) rfl (gK0 x1p) (g_at9 x1p) (k_A_runs Y hI27 hlen hTr hz hmt hee) u_X12_runCommands mw_1117 dX12_execute_31 rfl rfl ⟨Nat.le_of_ble_eq_true rfl, Nat.le_of_ble_eq_true rfl⟩ ⟨Nat.le_of_ble_eq_true rfl, Nat.le_of_ble_eq_true rfl⟩ (Nat.le_of_ble_eq_true rfl) (fun v31 I31 A31 R31 h31 => ?_)
  obtain ⟨rfl, hI31, hf31⟩ := h31
  obtain ⟨⟨x1q, x2q, x3q, x4q⟩, ⟨h1q, h2q, h3q, h4q, h5q, h6q, h7q⟩, ⟨c1q, c2q, c3q⟩, stq, svq, hsq, ggq, hMq⟩ := id hI31
  obtain ⟨h0q, hagq, evq, kqq, nqq, hevq, hEq⟩ := id svq
  have hshq := stq.1
  refine g_istore_n dX12_execute_34 rfl (by decide) ?_
  refine g_aload_n dX12_execute_35 rfl rfl ?_
  refine g_get_TileFactory_script dX12_execute_36 mw_350 (by assumption) x4q ?_
  refine g_iconst dX12_execute_39 ?_
  refine g_put_Script_length dX12_execute_40 mw_325 c1q.1 (fun I40 hI40 => ?_)
  refine g_iload_n dX12_execute_43 rfl rfl ?_
  exact g_iret dX12_execute_44 rfl (by decide) (by decide) (by
      obtain ⟨r1, r2⟩ := hI31.sc (I' := I40) (A' := A31) (R' := R31) (T' := T) (len' := 0) (fun f b e => by rw [hI40]; exact g_up_ne2 _ _ e) (fun _ _ _ => rfl) (fun _ _ _ => rfl) c3q (by rw [hI40]; simp [g_up])
      exact hpo hee _ _ _ _ _ _ _ G27 rfl r1 ((hf27.trans hf31).trans r2))
set_option maxHeartbeats 1000000 in
set_option maxRecDepth 100000 in
theorem k_A_execute (Y : gEnv) {K N : Nat → Nat} {I : Nat → Nat → Int} {A : Nat → Int → Int} {R : Nat → Nat → Option Nat} {Q : Nat → Int → Option Nat} {G : Nat → Nat × Int} {M : Nat → Prop} {x s h hq sc sg ar : Nat} {W SV T : Int → Int} {n len : Int} (hI : cI K N I A R Q G M x s h hq sc sg ar W n SV T len) (hlen : 0 ≤ len ∧ len ≤ 100) (hTr : ∀ j, 0 ≤ j → j < 100 → 0 ≤ T j ∧ T j ≤ 126) (hz : iZ W) (hmt : mT W) : gC Y yX12_execute cX12_execute 2 (some .int) ({ frames := 9, cells := 318, slots := 1963, locals := 257 } : Room) [.ref x] K N I A R Q (cOpP K N I A R Q M x s h hq sc sg ar (if sErr T len 101 0 0 = -1 then 0 else 1) (vi (sExeN T len 101 0 0 W)) (sExeW T len 101 0 W) (sCnt n) (sSvd SV W n) T 0) (cOpY K N I A R Q M x s h hq sc sg ar (if sErr T len 101 0 0 = -1 then 0 else 1) [xSt] W n SV T len) := by
  refine gC_of (by decide) (Nat.le_of_ble_eq_true rfl) (fun X => ?_)
  obtain ⟨⟨x1, x2, x3, x4⟩, ⟨h1, h2, h3, h4, h5, h6, h7⟩, ⟨c1, c2, c3⟩, st, sv, hs, gg, hM⟩ := id hI
  obtain ⟨h0, hag, ev, kq, nq, hev, hE⟩ := id sv
  have hsh := st.1
  refine g_aload_n dX12_execute_0 rfl rfl ?_
  refine g_get_TileFactory_script dX12_execute_1 mw_350 (by assumption) x4 ?_
  refine g_callVr (i := 7) rfl (gK0 c1.1) (g_at7 c1.1) (k_C_findError Y c1 (by rw [c3]; exact hTr) (by rw [c2]; exact hlen)) u_X9_findError mw_418 dX12_execute_4 rfl rfl ⟨Nat.le_of_ble_eq_true rfl, Nat.le_of_ble_eq_true rfl⟩ ⟨Nat.le_of_ble_eq_true rfl, Nat.le_of_ble_eq_true rfl⟩ (Nat.le_of_ble_eq_true rfl) (fun v4 I4 A4 R4 h4 => ?_)
  obtain ⟨rfl, f4⟩ := h4
  rw [c3, c2]
  obtain ⟨r1, r2⟩ := hI.sf f4
  have hre := cErr_range T len hlen
  refine g_iconst dX12_execute_7 ?_
  refine g_icmp_ne (tgt := 15) dX12_execute_8 (by decide) hre (by omega) (fun c_8 => ?_) (fun c_8 => ?_)
  · refine g_iconst dX12_execute_15 ?_
    exact jp_A_execute r1 hlen hTr hz hmt (fun he v K' N' I' A' R' Q' G' e1 e2 e3 => ⟨by rw [if_pos he], e1, G', e2, r2.trans e3⟩) (fun he => ⟨by rw [if_neg he]; decide, by rw [if_neg he]; rfl, G, r1, r2⟩) _ (by
      first
      | (rw [if_pos (by omega)]; done)
      | (rw [if_neg (by omega)]; done))
  · refine g_iconst dX12_execute_11 ?_
    refine g_goto (tgt := 16) dX12_execute_12 (by decide) ?_
    exact jp_A_execute r1 hlen hTr hz hmt (fun he v K' N' I' A' R' Q' G' e1 e2 e3 => ⟨by rw [if_pos he], e1, G', e2, r2.trans e3⟩) (fun he => ⟨by rw [if_neg he]; decide, by rw [if_neg he]; rfl, G, r1, r2⟩) _ (by
      first
      | (rw [if_pos (by omega)]; done)
      | (rw [if_neg (by omega)]; done))
theorem sInsL_off : ∀ (n : Nat) (i h : Int) (f : Int → Int), 0 < i → sInsL n i h f 0 = f 0
  | 0, i, h, f, _ => rfl
  | n + 1, i, h, f, hi => by
    simp only [sInsL]
    split
    · rw [sInsL_off n (i + 1) _ _ (by omega), sU_ne _ _ (by omega)]
    · exact sInsL_off n (i + 1) _ _ (by omega)
theorem sFulL_0 {W : Int → Int} {g r : Int} : ∀ (n : Nat) (l : Int) (f : Int → Int), sFulL W g r n l f 0 = sLgL W g r n l (f 0)
  | 0, l, f => rfl
  | n + 1, l, f => by
    simp only [sFulL, sLgL]
    rw [sFulL_0 n (l + 1)]
    have key : (if W (410 + l) = g ∧ W (730 + l) = r then sInsL 3 0 (W (1050 + l)) f else f) 0 = (if W (410 + l) = g ∧ W (730 + l) = r ∧ f 0 < W (1050 + l) then W (1050 + l) else f 0) := by
      by_cases c : W (410 + l) = g ∧ W (730 + l) = r
      · rw [if_pos c]
        by_cases d : f 0 < W (1050 + l)
        · rw [if_pos ⟨c.1, c.2, d⟩, sInsL_take (by omega) d, sInsL_off _ _ _ _ (by omega), sU_eq]
        · rw [if_neg (fun e => d e.2.2), sInsL_skip (by omega) d, sInsL_off _ _ _ _ (by omega)]
      · rw [if_neg c, if_neg (fun e => c ⟨e.1, e.2.1⟩)]
    rw [key]
theorem cI.fresh {K N : Nat → Nat} {I : Nat → Nat → Int} {A : Nat → Int → Int} {R : Nat → Nat → Option Nat} {Q : Nat → Int → Option Nat} {G : Nat → Nat × Int} {M : Nat → Prop} {x s h hq sc sg ar : Nat} {W SV T : Int → Int} {n len : Int} {q m v : Nat} {K1 N1 : Nat → Nat} {A1 : Nat → Int → Int} (hI : cI K N I A R Q G M x s h hq sc sg ar W n SV T len) (hq0 : K q = 0) (hv : v ≠ 0) (hK : K1 = va_up K q v) (hN : N1 = va_up N q m) (hA : ∀ b, b ≠ q → A1 b = A b) : cI K1 N1 I A1 R Q (va_up G q (q, 0)) M x s h hq sc sg ar W n SV T len ∧ gFm M K N I A R Q K1 N1 I A1 R Q := by
  obtain ⟨⟨x1, x2, x3, x4⟩, ⟨h1, h2, h3, h4, h5, h6, h7⟩, ⟨c1, c2, c3⟩, st, sv, hs, gg, hM⟩ := id hI
  obtain ⟨h0, hag, ev, kq, nq, hev, hE⟩ := id sv
  have hsh := st.1
  have hx : gEx hq K N I A R Q G K1 N1 I A1 R Q (va_up G q (q, 0)) := gEx.fresh hq0 (fun b hb => ⟨by rw [hK]; exact va_up_ne _ _ hb, by rw [hN]; exact va_up_ne _ _ hb, va_up_ne _ _ hb, fun _ => rfl, hA b hb, fun _ => rfl, rfl⟩)
  exact hI.ex hx ⟨h6, h7⟩ (hs.keep h7 hx (by rw [h3]; unfold sKd; omega) rfl) h5 (fun b hb => by
    have hbq : b ≠ q := fun e => by rw [e, hK, va_up_self] at hb; exact hv hb
    rw [hK, va_up_ne _ _ hbq] at hb
    rw [va_up_ne _ _ hbq]
    exact gg.2.2.2.2.2.2 b hb)
set_option maxHeartbeats 1000000 in
set_option maxRecDepth 100000 in
theorem k_A_largest (Y : gEnv) {K N : Nat → Nat} {I : Nat → Nat → Int} {A : Nat → Int → Int} {R : Nat → Nat → Option Nat} {Q : Nat → Int → Option Nat} {G : Nat → Nat × Int} {M : Nat → Prop} {x s h hq sc sg ar : Nat} {W SV T : Int → Int} {n len : Int} (hI : cI K N I A R Q G M x s h hq sc sg ar W n SV T len) (g : Int) (hg : (-2147483648 ≤ g ∧ g ≤ 2147483647)) (r : Int) (hr : (-2147483648 ≤ r ∧ r ≤ 2147483647))  : gC Y yX12_largest cX12_largest 3 (some .int) ({ frames := 7, cells := 3, slots := 15, locals := 120 } : Room) [.ref x, vi g, vi r] K N I A R Q (cOpP K N I A R Q M x s h hq sc sg ar (if ¬ (0 ≤ g ∧ g ≤ 3) then 1 else if ¬ (1 ≤ r ∧ r ≤ 2) then 2 else 0) (vi (sLgL W g r (W 1614).toNat 0 0)) (W) (n) (SV) (T) (len)) (cOpX K N I A R Q (if ¬ (0 ≤ g ∧ g ≤ 3) then 1 else if ¬ (1 ≤ r ∧ r ≤ 2) then 2 else 0) [xIx, xAr, xSt]) := by
  refine gC_of (by decide) (Nat.le_of_ble_eq_true rfl) (fun X => ?_)
  obtain ⟨⟨x1, x2, x3, x4⟩, ⟨h1, h2, h3, h4, h5, h6, h7⟩, ⟨c1, c2, c3⟩, st, sv, hs, gg, hM⟩ := id hI
  obtain ⟨h0, hag, ev, kq, nq, hev, hE⟩ := id sv
  have hsh := st.1
  refine g_iload_n dX12_largest_0 rfl rfl ?_
  refine g_callSp (k_isGlaze Y _ (by omega)) u_X12_isGlaze mw_521 rfl dX12_largest_1 rfl rfl ⟨Nat.le_of_ble_eq_true rfl, Nat.le_of_ble_eq_true rfl⟩ ⟨Nat.le_of_ble_eq_true rfl, Nat.le_of_ble_eq_true rfl⟩ (Nat.le_of_ble_eq_true rfl) ?_
  refine g_callSXc (k_K_Index Y _ (by first | omega | (split <;> omega))) u_X12_checkIndex mw_527 rfl dX12_largest_4 rfl rfl ⟨Nat.le_of_ble_eq_true rfl, Nat.le_of_ble_eq_true rfl⟩ ⟨Nat.le_of_ble_eq_true rfl, Nat.le_of_ble_eq_true rfl⟩ (Nat.le_of_ble_eq_true rfl) (by decide) (fun E hh => by
    obtain ⟨q1, q2⟩ := hh
    have hc : ((if ¬ (0 ≤ g ∧ g ≤ 3) then 1 else if ¬ (1 ≤ r ∧ r ≤ 2) then 2 else 0) : Int) = 1 := by repeat (first | omega | split)
    exact ⟨by rw [hc]; decide, by rw [hc, q2]; rfl, cSame.rfl⟩) (fun h4 => ?_)
  refine g_iload_n dX12_largest_7 rfl rfl ?_
  refine g_callSp (k_isGrade Y _ (by omega)) u_X12_isGrade mw_978 rfl dX12_largest_8 rfl rfl ⟨Nat.le_of_ble_eq_true rfl, Nat.le_of_ble_eq_true rfl⟩ ⟨Nat.le_of_ble_eq_true rfl, Nat.le_of_ble_eq_true rfl⟩ (Nat.le_of_ble_eq_true rfl) ?_
  refine g_callSXc (k_K_Argument Y _ (by first | omega | (split <;> omega))) u_X12_checkArgument mw_598 rfl dX12_largest_11 rfl rfl ⟨Nat.le_of_ble_eq_true rfl, Nat.le_of_ble_eq_true rfl⟩ ⟨Nat.le_of_ble_eq_true rfl, Nat.le_of_ble_eq_true rfl⟩ (Nat.le_of_ble_eq_true rfl) (by decide) (fun E hh => by
    obtain ⟨q1, q2⟩ := hh
    have hc : ((if ¬ (0 ≤ g ∧ g ≤ 3) then 1 else if ¬ (1 ≤ r ∧ r ≤ 2) then 2 else 0) : Int) = 2 := by repeat (first | omega | split)
    exact ⟨by rw [hc]; decide, by rw [hc, q2]; rfl, cSame.rfl⟩) (fun h11 => ?_)
  refine g_aload_n dX12_largest_14 rfl rfl ?_
  refine g_get_TileFactory_state dX12_largest_15 mw_348 (by assumption) x2 ?_
  refine g_iload_n dX12_largest_18 rfl rfl ?_
  refine g_iload_n dX12_largest_19 rfl rfl ?_
  refine g_callV (i := 8) rfl (gK0 hsh.1) (g_at8 hsh.1) (k_S_fullest Y hsh hag h0 g r (by omega) (by omega)) u_X10_fullestLots mw_1069 dX12_largest_20 rfl rfl ⟨Nat.le_of_ble_eq_true rfl, Nat.le_of_ble_eq_true rfl⟩ ⟨Nat.le_of_ble_eq_true rfl, Nat.le_of_ble_eq_true rfl⟩ (Nat.le_of_ble_eq_true rfl) (fun v20 K20 N20 I20 A20 R20 Q20 h20 => ?_)
  obtain ⟨q, zq, rfl, k20, n20, i20, r20, q20, a20⟩ := h20
  obtain rfl := i20.symm
  obtain rfl := r20.symm
  obtain rfl := q20.symm
  obtain ⟨t1, t2⟩ := hI.fresh (A1 := A20) zq (by decide) k20 n20 (fun b hb => by rw [a20]; exact g_rw_ne _ _ hb)
  refine g_iconst dX12_largest_23 ?_
  refine g_iaload dX12_largest_24 (by rw [k20, va_up_self]) (by rw [n20, va_up_self]; decide) (by rw [n20, va_up_self]; omega) ?_
  exact g_iret dX12_largest_25 rfl (by decide) (by decide) (by
      have hc0 : ((if ¬ (0 ≤ g ∧ g ≤ 3) then 1 else if ¬ (1 ≤ r ∧ r ≤ 2) then 2 else 0) : Int) = 0 := by repeat (first | omega | split)
      exact ⟨hc0, by rw [a20, g_rw_at, sFulL_0], _, t1, t2⟩)
