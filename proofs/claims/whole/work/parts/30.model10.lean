theorem sExeN_out {T : Int → Int} {n k m : Int} {W : Int → Int} {f : Nat} (h : ¬ k ≤ n) : sExeN T n f k m W = m := by
  cases f with
  | zero => rfl
  | succ f => simp only [sExeN, if_neg h]
theorem sExeW_out {T : Int → Int} {n k : Int} {W : Int → Int} {f : Nat} (h : ¬ k ≤ n) : sExeW T n f k W = W := by
  cases f with
  | zero => rfl
  | succ f => simp only [sExeW, if_neg h]
theorem sExeN_bad {T : Int → Int} {n k m : Int} {W : Int → Int} {f : Nat} (h : 0 < f) (h1 : k ≤ n) (h2 : 0 < sCode W (sCmd T n k)) : sExeN T n f k m W = m := by
  obtain ⟨q, rfl⟩ : ∃ q, f = q + 1 := ⟨f - 1, by omega⟩
  simp only [sExeN, if_pos h1, if_pos h2]
theorem sExeW_bad {T : Int → Int} {n k : Int} {W : Int → Int} {f : Nat} (h : 0 < f) (h1 : k ≤ n) (h2 : 0 < sCode W (sCmd T n k)) : sExeW T n f k W = W := by
  obtain ⟨q, rfl⟩ : ∃ q, f = q + 1 := ⟨f - 1, by omega⟩
  simp only [sExeW, if_pos h1, if_pos h2]
theorem sExeN_step {T : Int → Int} {n k m : Int} {W : Int → Int} {f : Nat} (h : 0 < f) (h1 : k ≤ n) (h2 : ¬ 0 < sCode W (sCmd T n k)) : sExeN T n f k m W = sExeN T n (f - 1) (sEnd T n k + 1) (m + 1) (sApp W (sCmd T n k)) := by
  obtain ⟨q, rfl⟩ : ∃ q, f = q + 1 := ⟨f - 1, by omega⟩
  simp only [sExeN, if_pos h1, if_neg h2, Nat.add_sub_cancel]
theorem sExeW_step {T : Int → Int} {n k : Int} {W : Int → Int} {f : Nat} (h : 0 < f) (h1 : k ≤ n) (h2 : ¬ 0 < sCode W (sCmd T n k)) : sExeW T n f k W = sExeW T n (f - 1) (sEnd T n k + 1) (sApp W (sCmd T n k)) := by
  obtain ⟨q, rfl⟩ : ∃ q, f = q + 1 := ⟨f - 1, by omega⟩
  simp only [sExeW, if_pos h1, if_neg h2, Nat.add_sub_cancel]
theorem sCode_range (W : Int → Int) (S : sSt) : 0 ≤ sCode W S ∧ sCode W S ≤ 3 := by
  have h1 := sFireT_range W (S.2.2.2 0) (S.2.2.2 1) (S.2.2.2 2) (S.2.2.2 3)
  have h2 := sGradeT_range W (S.2.2.2 0)
  have h3 := sDeliverT_range W (S.2.2.2 0) (S.2.2.2 1) (S.2.2.2 2)
  have h4 := sDropT_range W (S.2.2.2 0) (S.2.2.2 1) (S.2.2.2 2) (S.2.2.2 3)
  simp only [sCode]
  split
  · exact ⟨h1.1, h1.2.1⟩
  · split
    · exact ⟨h2.1, h2.2.1⟩
    · split
      · exact ⟨h3.1, h3.2.1⟩
      · split
        · exact ⟨h4.1, h4.2.1⟩
        · omega
theorem iZ.hap {w : Int → Int} (hz : iZ w) (h : iN w) (k n : Int) : iZ (sHap w k n) := hz.of h.2.2.2.2.1.1 (fun j a b => sHap_same h.2.2.2.2.2.2.2 (by omega) (by omega)) (sHap_same h.2.2.2.2.2.2.2 (by omega) (by omega))
/-- a command that may be done keeps everything -/
theorem sApp_ok {W : Int → Int} {S : sSt} (h : iN W) (hk : sKind S = 0) (hS : sInv S) (hc : sCode W S = 0) : (iZ W → iN (sApp W S)) ∧ (mT W → iZ W → mT (sApp W S)) ∧ (iZ W → iZ (sApp W S)) := by
  have h1 := sNeed_ok hk
  have h2 := hS.1
  have h3 := hS.2.1
  have hS2 := h.2.2.2.2.2.2.1
  have h4 : S.1 = 1 ∨ S.1 = 2 ∨ S.1 = 3 ∨ S.1 = 4 ∨ S.1 = 5 := by omega
  rcases h4 with e | e | e | e | e
  · simp only [sCode] at hc
    rw [if_pos e] at hc
    have hr := (sFireT_range W (S.2.2.2 0) (S.2.2.2 1) (S.2.2.2 2) (S.2.2.2 3)).2.2 hc
    have hf := hS2.2.2.2.2.2.1
    simp only [sApp]
    rw [if_pos e]
    exact ⟨fun _ => h.fire (by omega) (by omega) (by omega) (by omega), fun hm _ => hm.fire h (by omega) (by omega) (by omega) (by omega), fun hz => hz.fire h (by omega) (by omega) (by omega) (by omega)⟩
  · simp only [sApp]
    rw [if_neg (by omega), if_pos e]
    exact ⟨fun hz => h.grade hz, fun hm hz => hm.grade h hz, fun hz => hz.grade h⟩
  · simp only [sApp]
    rw [if_neg (by omega), if_neg (by omega), if_pos e]
    exact ⟨fun _ => h.pack, fun hm _ => hm.pack h, fun hz => hz.pack h⟩
  · simp only [sCode] at hc
    rw [if_neg (by omega), if_neg (by omega), if_pos e] at hc
    have hr := (sDeliverT_range W (S.2.2.2 0) (S.2.2.2 1) (S.2.2.2 2)).2.2 hc
    have hlf := (sLotFor_range h.2.2.2.2.1.1 (S.2.2.2 0) (S.2.2.2 1) (S.2.2.2 2)).resolve_left (by omega)
    have hmay : W (410 + sLotFor W (S.2.2.2 0) (S.2.2.2 1) (S.2.2.2 2)) = (S.2.2.2 0) ∧ W (730 + sLotFor W (S.2.2.2 0) (S.2.2.2 1) (S.2.2.2 2)) = (S.2.2.2 1) ∧ (S.2.2.2 2) ≤ W (1050 + sLotFor W (S.2.2.2 0) (S.2.2.2 1) (S.2.2.2 2)) := by have := hlf.2.2; simpa [sMay] using this
    have hd := h.2.2.2.2.2.1.2.1
    have hd0 := h.2.2.2.2.2.1.1
    obtain ⟨q1, q2, q3⟩ := sDel_pre h ⟨hlf.1, hlf.2.1⟩ ⟨by omega, hmay.2.2⟩ (by omega) (by omega)
    simp only [sApp]
    rw [if_neg (by omega), if_neg (by omega), if_neg (by omega), if_pos e, sDel]
    exact ⟨fun _ => q1.hap _ _, fun hm _ => (q2 hm).hap q1.2.2.2.2.2.2.2 (by omega) (by omega), fun hz => (q3 hz).hap q1 _ _⟩
  · simp only [sCode] at hc
    rw [if_neg (by omega), if_neg (by omega), if_neg (by omega), if_pos e] at hc
    have hr := (sDropT_range W (S.2.2.2 0) (S.2.2.2 1) (S.2.2.2 2) (S.2.2.2 3)).2.2 hc
    have hlf := (sFind_range h.2.2.2.2.1.1 (S.2.2.2 0) (S.2.2.2 1) (S.2.2.2 2)).resolve_left (by omega)
    have hp := sDrop_pre h ⟨hlf.1, hlf.2.1⟩ ⟨hr.2.1, hr.2.2.1⟩ hr.2.2.2
    simp only [sApp]
    rw [if_neg (by omega), if_neg (by omega), if_neg (by omega), if_neg (by omega), sDrop]
    exact ⟨fun _ => h.drop ⟨hlf.1, hlf.2.1⟩ ⟨hr.2.1, hr.2.2.1⟩ hr.2.2.2, fun hm _ => (hp.2.1 hm).2, fun hz => (hp.2.2.1 hz).2⟩
/-- the reference's memory while it executes -/
def mPe (I I' : Nat → Nat → Int) (A A' : Nat → Int → Int) (x w ag : Nat) : Prop := (∀ f q, (q ≠ x ∨ f < 207 ∨ 209 < f) → I' f q = I f q) ∧ (∀ q, q ≠ ag → q ≠ w → A' q = A q)

set_option maxHeartbeats 1000000 in
set_option maxRecDepth 100000 in
theorem lp_M_exec {Y : gEnv} {X : gCtx} {K N : Nat → Nat} {I : Nat → Nat → Int} {A : Nat → Int → Int} {R : Nat → Nat → Option Nat} {Q : Nat → Int → Option Nat} {po : gPo} {px : gPx} {I0 : Nat → Nat → Int} {A0 : Nat → Int → Int} {x w sv tx ag : Nat} (hM : mS K N R x w sv tx ag) (hT : ∀ j, 0 ≤ j → j < 100 → 0 ≤ A0 tx j ∧ A0 tx j ≤ 126) (hn5 : 0 ≤ I0 205 x ∧ I0 205 x ≤ 100) (hpo : ∀ z W I1 A1, mPe I0 I1 A0 A1 x w ag → z = sExeN (A0 tx) (I0 205 x) 101 0 0 (A0 w) → W = sExeW (A0 tx) (I0 205 x) 101 0 (A0 w) → A1 w = W → po (some (vi z)) K N (g_up I1 205 x 0) A1 R Q) : ∀ (f m : Nat) (k s g : Int) (W : Int → Int), m < f → 0 ≤ k ∧ k ≤ 101 → 0 ≤ s ∧ s ≤ k → (g = 0 ∨ g = 1) → mPe I0 I A0 A x w ag → A w = W → (g = 1 → iN W ∧ mT W ∧ iZ W ∧ I0 205 x + 1 - k ≤ m ∧ sErr (A0 tx) (I0 205 x) m k s = -1) → (g = 1 → sExeN (A0 tx) (I0 205 x) m k s W = sExeN (A0 tx) (I0 205 x) 101 0 0 (A0 w) ∧ sExeW (A0 tx) (I0 205 x) m k W = sExeW (A0 tx) (I0 205 x) 101 0 (A0 w)) → (g = 0 → s = sExeN (A0 tx) (I0 205 x) 101 0 0 (A0 w) ∧ W = sExeW (A0 tx) (I0 205 x) 101 0 (A0 w)) → gJ Y X yX13_execute cX13_execute 4 (some .int) ({ frames := 4, cells := 0, slots := 0, locals := 109 } : Room) po px 0 0 29 [(0, .ref x), (1, vi s), (2, vi k), (3, vi g)] [] K N I A R Q := by
  obtain ⟨hKx, hRw, hRs, hRt, hRa, hKw, hNw, hKs, hNs, hKt, hNt, hKa, hNa, hta⟩ := id hM
  have hwag : w ≠ ag := fun e => by rw [e] at hKw; omega
  have hwtx : tx ≠ w := fun e => by rw [e] at hKt; omega
  intro f
  induction f generalizing I A with
  | zero => intro m k s g W h; omega
  | succ f ih =>
  intro m k s g W hf hk hs hg hF hW hgo he hx
  have hta2 : A tx = A0 tx := hF.2 tx hta hwtx
  have hl5 : I 205 x = I0 205 x := hF.1 205 x (by omega)
  refine g_iload_n dX13_execute_29 rfl rfl ?_
  refine g_aload_n dX13_execute_30 rfl rfl ?_
  refine g_get_Model_length dX13_execute_31 mw_1160 (by assumption) ?_
  rw [hl5]
  refine g_icmp_gt (tgt := 69) dX13_execute_34 (by decide) (by omega) (by omega) (fun c_34 => ?_) (fun c_34 => ?_)
  · refine g_aload_n dX13_execute_69 rfl rfl ?_
    refine g_iconst dX13_execute_70 ?_
    refine g_put_Model_length dX13_execute_71 mw_1160 (by assumption) (fun I71 hI71 => ?_)
    refine g_iload_n dX13_execute_74 rfl rfl ?_
    exact g_iret dX13_execute_75 rfl (by decide) (by decide) (by rw [hI71]; exact hg.elim (fun q => hpo _ W _ _ hF (hx q).1 (hx q).2 hW) (fun q => hpo _ W _ _ hF (by first | rw [← (he q).1, sExeN_out (by omega)] | (exfalso; omega)) (by first | rw [← (he q).2, sExeW_out (by omega)] | (exfalso; omega)) hW))
  · skip
    refine g_iload_n dX13_execute_37 rfl rfl ?_
    refine g_if_eq (tgt := 69) dX13_execute_38 (by decide) (by omega) (fun c_38 => ?_) (fun c_38 => ?_)
    · refine g_aload_n dX13_execute_69 rfl rfl ?_
      refine g_iconst dX13_execute_70 ?_
      refine g_put_Model_length dX13_execute_71 mw_1160 (by assumption) (fun I71 hI71 => ?_)
      refine g_iload_n dX13_execute_74 rfl rfl ?_
      exact g_iret dX13_execute_75 rfl (by decide) (by decide) (by rw [hI71]; exact hg.elim (fun q => hpo _ W _ _ hF (hx q).1 (hx q).2 hW) (fun q => hpo _ W _ _ hF (by first | rw [← (he q).1, sExeN_out (by omega)] | (exfalso; omega)) (by first | rw [← (he q).2, sExeW_out (by omega)] | (exfalso; omega)) hW))
    · refine g_aload_n dX13_execute_41 rfl rfl ?_
      have hci := sCmd_inv (T := A0 tx) (n := I0 205 x) (b := k) (by omega)
      have hkr := sKind_range (sCmd (A0 tx) (I0 205 x) k)
      have her2 := sEnd_range (T := A0 tx) (n := I0 205 x) (b := k) (by omega)
      obtain ⟨v1, v2, v3, v5, v6⟩ := hgo (by omega)
      obtain ⟨he1, he2⟩ := he (by omega)
      refine g_iload_n dX13_execute_42 rfl rfl ?_
      refine g_callVw (i := 10) rfl (gK0 (by assumption)) (g_at10 (by assumption)) (k_M_read Y hM (fun j a b => by rw [hta2]; exact hT j a b) (by rw [hl5]; exact hn5) k (by omega)) u_X13_read mw_1483 dX13_execute_43 rfl rfl ⟨Nat.le_of_ble_eq_true rfl, Nat.le_of_ble_eq_true rfl⟩ ⟨Nat.le_of_ble_eq_true rfl, Nat.le_of_ble_eq_true rfl⟩ (Nat.le_of_ble_eq_true rfl) (fun v43 I43 A43 h43 => ?_)
      obtain ⟨rfl, f43, p43⟩ := h43
      rw [hta2, hl5] at p43
      rw [hta2, hl5]
      have eW : A43 w = W := (f43.2 w hwag).trans hW
      have hk0 : sKind (sCmd (A0 tx) (I0 205 x) k) = 0 := by
        by_cases q : 0 < sKind (sCmd (A0 tx) (I0 205 x) k)
        · rw [sErr_bad (by omega) (by omega) q] at v6; omega
        · omega
      have hcr := sCode_range W (sCmd (A0 tx) (I0 205 x) k)
      refine g_iconst dX13_execute_46 ?_
      refine g_iadd dX13_execute_47 ?_
      refine g_istore_n dX13_execute_48 rfl (by decide) ?_
      refine g_aload_n dX13_execute_49 rfl rfl ?_
      refine g_callVw (i := 10) rfl (gK0 (by assumption)) (g_at10 (by assumption)) (k_M_isDone Y hM p43 hci.1 hk0 (by rw [eW]; exact v1) (by rw [eW]; exact v2) (by rw [eW]; exact v3)) u_X13_isDone mw_1509 dX13_execute_50 rfl rfl ⟨Nat.le_of_ble_eq_true rfl, Nat.le_of_ble_eq_true rfl⟩ ⟨Nat.le_of_ble_eq_true rfl, Nat.le_of_ble_eq_true rfl⟩ (Nat.le_of_ble_eq_true rfl) (fun v50 I50 A50 h50 => ?_)
      obtain ⟨rfl, rfl, h50⟩ := h50
      rw [eW] at h50
      rw [eW]
      refine g_istore_n dX13_execute_53 rfl (by decide) ?_
      have hF43 : mPe I0 I50 A0 A43 x w ag := ⟨fun f q hq => (f43.1 f q hq).trans (hF.1 f q hq), fun q h1 h2 => (f43.2 q h1).trans (hF.2 q h1 h2)⟩
      refine g_iload_n dX13_execute_54 rfl rfl ?_
      refine g_iload_n dX13_execute_55 rfl rfl ?_
      refine g_if_eq (tgt := 63) dX13_execute_56 (by decide) (by split <;> omega) (fun c_56 => ?_) (fun c_56 => ?_)
      · refine g_iconst dX13_execute_63 ?_
        refine g_iadd dX13_execute_64 ?_
        refine g_istore_n dX13_execute_65 rfl (by decide) ?_
        refine g_goto (tgt := 29) dX13_execute_66 (by decide) ?_
        first
        | (have hg0 : sCode W (sCmd (A0 tx) (I0 205 x) k) = 0 := by
             by_cases q : 0 < sCode W (sCmd (A0 tx) (I0 205 x) k)
             · rw [if_pos q] at c_56; omega
             · omega
           have hng : ¬ 0 < sCode W (sCmd (A0 tx) (I0 205 x) k) := by omega
           have hap := sApp_ok v1 hk0 hci.1 hg0
           rw [if_neg hng] at h50
           rw [if_neg hng]
           exact g_locs (by exact ⟨rfl, rfl, rfl, rfl, trivial⟩) (ih (m - 1) (sEnd (A0 tx) (I0 205 x) k + 1) (s + 1) 1 (sApp W (sCmd (A0 tx) (I0 205 x) k)) (by omega) (by omega) (by omega) (Or.inr rfl) ⟨hF43.1, fun q h1 h2 => by rw [h50, g_rw_ne _ _ h2]; exact hF43.2 q h1 h2⟩ (by rw [h50, g_rw_at]) (fun _ => ⟨hap.1 v3, hap.2.1 v2 v3, hap.2.2 v3, by omega, by rw [← v6]; exact (sErr_step (by omega) (by omega) (by omega)).symm⟩) (fun _ => ⟨by rw [← he1]; exact (sExeN_step (by omega) (by omega) hng).symm, by rw [← he2]; exact (sExeW_step (by omega) (by omega) hng).symm⟩) (fun h => absurd h (by omega))))
        | (have hg1 : 0 < sCode W (sCmd (A0 tx) (I0 205 x) k) := by
             by_cases q : 0 < sCode W (sCmd (A0 tx) (I0 205 x) k)
             · exact q
             · rw [if_neg q] at c_56; omega
           rw [if_pos hg1] at h50
           rw [if_pos hg1]
           exact g_locs (by exact ⟨rfl, rfl, rfl, rfl, trivial⟩) (ih (m - 1) (sEnd (A0 tx) (I0 205 x) k + 1) (s + 0) 0 W (by omega) (by omega) (by omega) (Or.inl rfl) ⟨hF43.1, fun q h1 h2 => by rw [h50]; exact hF43.2 q h1 h2⟩ (by rw [h50]; exact eW) (fun h => absurd h (by omega)) (fun h => absurd h (by omega)) (fun _ => ⟨by rw [← he1, sExeN_bad (by omega) (by omega) hg1, Int.add_zero], by rw [← he2]; exact (sExeW_bad (by omega) (by omega) hg1).symm⟩)))
      · refine g_iconst dX13_execute_59 ?_
        refine g_goto (tgt := 64) dX13_execute_60 (by decide) ?_
        refine g_iadd dX13_execute_64 ?_
        refine g_istore_n dX13_execute_65 rfl (by decide) ?_
        refine g_goto (tgt := 29) dX13_execute_66 (by decide) ?_
        first
        | (have hg0 : sCode W (sCmd (A0 tx) (I0 205 x) k) = 0 := by
             by_cases q : 0 < sCode W (sCmd (A0 tx) (I0 205 x) k)
             · rw [if_pos q] at c_56; omega
             · omega
           have hng : ¬ 0 < sCode W (sCmd (A0 tx) (I0 205 x) k) := by omega
           have hap := sApp_ok v1 hk0 hci.1 hg0
           rw [if_neg hng] at h50
           rw [if_neg hng]
           exact g_locs (by exact ⟨rfl, rfl, rfl, rfl, trivial⟩) (ih (m - 1) (sEnd (A0 tx) (I0 205 x) k + 1) (s + 1) 1 (sApp W (sCmd (A0 tx) (I0 205 x) k)) (by omega) (by omega) (by omega) (Or.inr rfl) ⟨hF43.1, fun q h1 h2 => by rw [h50, g_rw_ne _ _ h2]; exact hF43.2 q h1 h2⟩ (by rw [h50, g_rw_at]) (fun _ => ⟨hap.1 v3, hap.2.1 v2 v3, hap.2.2 v3, by omega, by rw [← v6]; exact (sErr_step (by omega) (by omega) (by omega)).symm⟩) (fun _ => ⟨by rw [← he1]; exact (sExeN_step (by omega) (by omega) hng).symm, by rw [← he2]; exact (sExeW_step (by omega) (by omega) hng).symm⟩) (fun h => absurd h (by omega))))
        | (have hg1 : 0 < sCode W (sCmd (A0 tx) (I0 205 x) k) := by
             by_cases q : 0 < sCode W (sCmd (A0 tx) (I0 205 x) k)
             · exact q
             · rw [if_neg q] at c_56; omega
           rw [if_pos hg1] at h50
           rw [if_pos hg1]
           exact g_locs (by exact ⟨rfl, rfl, rfl, rfl, trivial⟩) (ih (m - 1) (sEnd (A0 tx) (I0 205 x) k + 1) (s + 0) 0 W (by omega) (by omega) (by omega) (Or.inl rfl) ⟨hF43.1, fun q h1 h2 => by rw [h50]; exact hF43.2 q h1 h2⟩ (by rw [h50]; exact eW) (fun h => absurd h (by omega)) (fun h => absurd h (by omega)) (fun _ => ⟨by rw [← he1, sExeN_bad (by omega) (by omega) hg1, Int.add_zero], by rw [← he2]; exact (sExeW_bad (by omega) (by omega) hg1).symm⟩)))
theorem sErr_range {T : Int → Int} {n : Int} : ∀ (f : Nat) (k m : Int), 0 ≤ m → m ≤ 101 - f → (f : Int) ≤ 101 → -1 ≤ sErr T n f k m ∧ sErr T n f k m ≤ 2000
  | 0, k, m, _, _, _ => by simp only [sErr]; omega
  | f + 1, k, m, h, h2, h3 => by
    have hk := sKind_range (sCmd T n k)
    simp only [sErr]
    split
    · split
      · omega
      · exact sErr_range f _ (m + 1) (by omega) (by omega) (by omega)
    · omega
set_option maxHeartbeats 1000000 in
set_option maxRecDepth 100000 in
theorem k_M_execute (Y : gEnv) {K N : Nat → Nat} {I : Nat → Nat → Int} {A : Nat → Int → Int} {R : Nat → Nat → Option Nat} {Q : Nat → Int → Option Nat} {x w sv tx ag : Nat} (hM : mS K N R x w sv tx ag) (hT : ∀ j, 0 ≤ j → j < 100 → 0 ≤ A tx j ∧ A tx j ≤ 126) (hn5 : 0 ≤ I 205 x ∧ I 205 x ≤ 100) (hs : 0 ≤ I 204 x ∧ I 204 x ≤ 6) (h0 : iN (A w)) (hm : mT (A w)) (hz : iZ (A w)) : gC Y yX13_execute cX13_execute 4 (some .int) ({ frames := 4, cells := 0, slots := 0, locals := 109 } : Room) [.ref x] K N I A R Q (g_wr K N R Q (fun v I' A' => (sErr (A tx) (I 205 x) 101 0 0 ≠ -1 → v = some (vi 0) ∧ mPf (g_up I 206 x 1) I' A A' x ag) ∧ (sErr (A tx) (I 205 x) 101 0 0 = -1 → v = some (vi (sExeN (A tx) (I 205 x) 101 0 0 (A w))) ∧ mPe (g_up (g_up (g_up I 206 x 0) 204 x (sCnt (I 204 x))) 205 x 0) I' (g_rw A sv (sSvd (A sv) (A w) (I 204 x))) A' x w ag ∧ A' w = sExeW (A tx) (I 205 x) 101 0 (A w)))) gno := by
  refine gC_of (by decide) (Nat.le_of_ble_eq_true rfl) (fun X => ?_)
  obtain ⟨hKx, hRw, hRs, hRt, hRa, hKw, hNw, hKs, hNs, hKt, hNt, hKa, hNa, hta⟩ := id hM
  refine g_aload_n dX13_execute_0 rfl rfl ?_
  refine g_iconst dX13_execute_1 ?_
  refine g_put_Model_thrown dX13_execute_2 mw_1161 (by assumption) (fun I2 hI2 => ?_)
  refine g_aload_n dX13_execute_5 rfl rfl ?_
  have e5 : I2 205 x = I 205 x := by rw [hI2]; simp [g_up]
  have e4 : I2 204 x = I 204 x := by rw [hI2]; simp [g_up]
  have e6 : I2 206 x = 0 := by rw [hI2, g_up_eq]
  refine g_callVw (i := 10) rfl (gK0 (by assumption)) (g_at10 (by assumption)) (k_M_error Y hM hT (by rw [e5]; exact hn5)) u_X13_error mw_1479 dX13_execute_6 rfl rfl ⟨Nat.le_of_ble_eq_true rfl, Nat.le_of_ble_eq_true rfl⟩ ⟨Nat.le_of_ble_eq_true rfl, Nat.le_of_ble_eq_true rfl⟩ (Nat.le_of_ble_eq_true rfl) (fun v6 I6 A6 h6 => ?_)
  obtain ⟨rfl, f6⟩ := h6
  rw [e5]
  have hR : -1 ≤ sErr (A tx) (I 205 x) 101 0 0 ∧ sErr (A tx) (I 205 x) 101 0 0 ≤ 2000 := sErr_range _ 0 0 (by omega) (by omega) (by omega)
  refine g_iconst dX13_execute_9 ?_
  refine g_icmp_eq (tgt := 19) dX13_execute_10 (by decide) (by omega) (by omega) (fun c_10 => ?_) (fun c_10 => ?_)
  · refine g_aload_n dX13_execute_19 rfl rfl ?_
    have hwag : w ≠ ag := fun e => by rw [e] at hKw; omega
    have hsag : sv ≠ ag := fun e => by rw [e] at hKs; omega
    have htsv : tx ≠ sv := fun e => by rw [e] at hKt; omega
    have hwtx : tx ≠ w := fun e => by rw [e] at hKt; omega
    have hws : w ≠ sv := fun e => by rw [e] at hNw; omega
    have g4 : I6 204 x = I 204 x := (f6.1 204 x (by omega)).trans e4
    have g5 : I6 205 x = I 205 x := (f6.1 205 x (by omega)).trans e5
    refine g_callVw (i := 10) rfl (gK0 (by assumption)) (g_at10 (by assumption)) (k_M_save Y hM (by rw [g4]; exact hs)) u_X13_save mw_1208 dX13_execute_20 rfl rfl ⟨Nat.le_of_ble_eq_true rfl, Nat.le_of_ble_eq_true rfl⟩ ⟨Nat.le_of_ble_eq_true rfl, Nat.le_of_ble_eq_true rfl⟩ (Nat.le_of_ble_eq_true rfl) (fun v20 I20 A20 h20 => ?_)
    obtain ⟨rfl, i20, a20⟩ := h20
    rw [g4] at a20 i20
    have eW : A20 w = A w := by rw [a20, g_rw_ne _ _ hws]; exact f6.2 w hwag
    have eT : A20 tx = A tx := by rw [a20, g_rw_ne _ _ htsv]; exact f6.2 tx hta
    have eN : I20 205 x = I 205 x := by rw [i20, g_up_ne1 _ _ (by omega)]; exact g5
    refine g_iconst dX13_execute_23 ?_
    refine g_istore_n dX13_execute_24 rfl (by decide) ?_
    refine g_iconst dX13_execute_25 ?_
    refine g_istore_n dX13_execute_26 rfl (by decide) ?_
    refine g_iconst dX13_execute_27 ?_
    refine g_istore_n dX13_execute_28 rfl (by decide) ?_
    refine g_locs (by exact ⟨rfl, rfl, rfl, rfl, trivial⟩) (lp_M_exec (I0 := I20) (A0 := A20) hM (by rw [eT]; exact hT) (by rw [eN]; exact hn5) (fun z W I1 A1 h1 h2 h3 h4 => ?_) _ 101 0 0 1 (A20 w) (Nat.lt_succ_self _) (by omega) (by omega) (Or.inr rfl) ⟨fun _ _ _ => rfl, fun _ _ _ => rfl⟩ rfl (fun _ => ⟨by rw [eW]; exact h0, by rw [eW]; exact hm, by rw [eW]; exact hz, by omega, by rw [eT, eN]; omega⟩) (fun _ => ⟨rfl, rfl⟩) (fun h => absurd h (by omega)))
    rw [eT, eN, eW] at h2 h3
    refine ⟨rfl, rfl, rfl, rfl, fun h => absurd h (by omega), fun _ => ⟨by rw [h2], ⟨fun f q hq => ?_, fun q q1 q2 => ?_⟩, by rw [h4, h3]⟩⟩
    · by_cases u : f = 205 ∧ q = x
      · obtain ⟨rfl, rfl⟩ := u; rw [g_up_eq, g_up_eq]
      · have u1 : ∀ (J : Nat → Nat → Int) (z : Int), g_up J 205 x z f q = J f q := fun J z => by
          by_cases u2 : f = 205
          · exact g_up_ne2 _ _ (fun u3 => u ⟨u2, u3⟩)
          · exact g_up_ne1 _ _ u2
        rw [u1, u1, h1.1 f q hq, i20]
        by_cases u4 : f = 204 ∧ q = x
        · obtain ⟨rfl, rfl⟩ := u4; rw [g_up_eq, g_up_eq]; rfl
        · have u5 : ∀ (J : Nat → Nat → Int) (z : Int), g_up J 204 x z f q = J f q := fun J z => by
            by_cases u2 : f = 204
            · exact g_up_ne2 _ _ (fun u3 => u4 ⟨u2, u3⟩)
            · exact g_up_ne1 _ _ u2
          rw [u5, u5, f6.1 f q hq, hI2]
    · rw [h1.2 q q1 q2, a20]
      by_cases u : q = sv
      · subst u; rw [g_rw_at, g_rw_at, f6.2 _ hsag, f6.2 w hwag]
      · rw [g_rw_ne _ _ u, g_rw_ne _ _ u]; exact f6.2 q q1
  · refine g_aload_n dX13_execute_13 rfl rfl ?_
    refine g_iconst dX13_execute_14 ?_
    refine g_callVw (i := 10) rfl (gK0 (by assumption)) (g_at10 (by assumption)) (k_M_refuse Y hM _) u_X13_refuse mw_1202 dX13_execute_15 rfl rfl ⟨Nat.le_of_ble_eq_true rfl, Nat.le_of_ble_eq_true rfl⟩ ⟨Nat.le_of_ble_eq_true rfl, Nat.le_of_ble_eq_true rfl⟩ (Nat.le_of_ble_eq_true rfl) (fun v15 I15 A15 h15 => ?_)
    obtain ⟨rfl, e15, f15⟩ := h15
    exact g_iret dX13_execute_18 rfl (by decide) (by decide) ⟨rfl, rfl, rfl, rfl, fun _ => ⟨rfl, fun f q hq => by
      rw [e15]
      by_cases u : f = 206 ∧ q = x
      · obtain ⟨rfl, rfl⟩ := u; rw [g_up_eq, g_up_eq]
      · by_cases u1 : f = 206
        · rw [g_up_ne2 _ _ (fun u2 => u ⟨u1, u2⟩), g_up_ne2 _ _ (fun u2 => u ⟨u1, u2⟩), f6.1 f q hq, hI2, g_up_ne2 _ _ (fun u2 => u ⟨u1, u2⟩)]
        · rw [g_up_ne1 _ _ u1, g_up_ne1 _ _ u1, f6.1 f q hq, hI2, g_up_ne1 _ _ u1], fun q hq => by rw [f15]; exact f6.2 q hq⟩, fun h => absurd h (by omega)⟩
