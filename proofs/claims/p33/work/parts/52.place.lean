def sPlL (rec : (Int → Int) → Int) (b : Int) (f : Int → Int) : Nat → Int → Int → Int
  | 0, _, m => m
  | n + 1, i, m => sPlL rec b f n (i + 1) (if b ≤ f i then (if m < 1 + rec (sU f i (f i - b)) then 1 + rec (sU f i (f i - b)) else m) else m)
def sMP (w : Int → Int) : Nat → (Int → Int) → Int
  | 0, _ => 0
  | r + 1, f => sPlL (sMP w r) (w (2 - (r : Int))) f 3 0 (sMP w r f)
theorem sPlL_stop {rec : (Int → Int) → Int} {b : Int} {f : Int → Int} {n : Nat} {i m : Int} (h : n = 0) : sPlL rec b f n i m = m := by subst h; rfl
theorem sPlL_take {rec : (Int → Int) → Int} {b : Int} {f : Int → Int} {n : Nat} {i m : Int} (h : 0 < n) (hb : b ≤ f i) : sPlL rec b f n i m = sPlL rec b f (n - 1) (i + 1) (if m < 1 + rec (sU f i (f i - b)) then 1 + rec (sU f i (f i - b)) else m) := by
  obtain ⟨q, rfl⟩ : ∃ q, n = q + 1 := ⟨n - 1, by omega⟩
  simp only [sPlL, if_pos hb, Nat.add_sub_cancel]
theorem sPlL_skip {rec : (Int → Int) → Int} {b : Int} {f : Int → Int} {n : Nat} {i m : Int} (h : 0 < n) (hb : ¬ b ≤ f i) : sPlL rec b f n i m = sPlL rec b f (n - 1) (i + 1) m := by
  obtain ⟨q, rfl⟩ : ∃ q, n = q + 1 := ⟨n - 1, by omega⟩
  simp only [sPlL, if_neg hb, Nat.add_sub_cancel]
theorem sPlL_range {rec : (Int → Int) → Int} {b : Int} {f : Int → Int} {B : Int} (h : ∀ g, 0 ≤ rec g ∧ rec g ≤ B) : ∀ (n : Nat) (i m : Int), 0 ≤ m ∧ m ≤ B + 1 → 0 ≤ sPlL rec b f n i m ∧ sPlL rec b f n i m ≤ B + 1
  | 0, i, m, hm => hm
  | n + 1, i, m, hm => by
    have := h (sU f i (f i - b))
    simp only [sPlL]
    exact sPlL_range h n (i + 1) _ (by split <;> (try split) <;> omega)
theorem sMP_range {w : Int → Int} : ∀ (r : Nat) (f : Int → Int), 0 ≤ sMP w r f ∧ sMP w r f ≤ r
  | 0, f => ⟨Int.le_refl _, Int.le_refl _⟩
  | r + 1, f => by
    have := sPlL_range (b := w (2 - (r : Int))) (f := f) (sMP_range (w := w) r) 3 0 (sMP w r f) (by have := sMP_range (w := w) r f; omega)
    simp only [sMP]
    omega
theorem g_uq_back {A : Nat → Int → Int} {q : Nat} {i z b : Int} (h : z = A q i - b) : g_uq (g_uq A q i z) q i (z + b) = A := by
  funext c j
  by_cases e : c = q
  · subst e
    by_cases d : j = i
    · subst d; simp [g_uq]; omega
    · simp [g_uq, d]
  · simp [g_uq, e]
set_option maxHeartbeats 1000000 in
set_option maxRecDepth 100000 in
theorem k_MP0 (Y : gEnv) {K N : Nat → Nat} {I : Nat → Nat → Int} {A : Nat → Int → Int} {R : Nat → Nat → Option Nat} {Q : Nat → Int → Option Nat} {q p : Nat} (hKq : K q = 13) (hNq : N q = 3) (hKp : K p = 13) (hNp : N p = 3) (hne : q ≠ p) (hf : ∀ j, 0 ≤ j → j < 3 → 0 ≤ A q j ∧ A q j ≤ 10000000) (hw : ∀ j, 0 ≤ j → j < 3 → 1 ≤ A p j ∧ A p j ≤ 100000) : gC Y yX12_mostPlaced cX12_mostPlaced 6 (some .int) ({ frames := 0, cells := 0, slots := 0, locals := 0 } : Room) [.ref q, .ref p, vi 3] K N I A R Q (g_pu (some (vi (sMP (A p) 0 (A q)))) K N I A R Q) gno := by
  refine gC_of (by decide) (Nat.le_of_ble_eq_true rfl) (fun X => ?_)
  refine g_iload_n dX12_mostPlaced_0 rfl rfl ?_
  refine g_if_lt (tgt := 10) dX12_mostPlaced_1 (by decide) (by omega) (fun c_1 => ?_) (fun c_1 => ?_)
  · refine g_iconst dX12_mostPlaced_10 ?_
    exact g_iret dX12_mostPlaced_11 rfl (by decide) (by decide) (g_pu_i rfl _ _ _ _ _ _)
  · refine g_iload_n dX12_mostPlaced_4 rfl rfl ?_
    refine g_aload_n dX12_mostPlaced_5 rfl rfl ?_
    refine g_alen_i dX12_mostPlaced_6 hKp ?_
    refine g_icmp_lt (tgt := 12) dX12_mostPlaced_7 (by decide) (by omega) (by omega) (fun c_7 => ?_) (fun c_7 => ?_)
    · exfalso; omega
    · refine g_iconst dX12_mostPlaced_10 ?_
      exact g_iret dX12_mostPlaced_11 rfl (by decide) (by decide) (g_pu_i rfl _ _ _ _ _ _)
set_option maxHeartbeats 1000000 in
set_option maxRecDepth 100000 in
theorem lp_MP1 {Y : gEnv} {X : gCtx} {K N : Nat → Nat} {I : Nat → Nat → Int} {A : Nat → Int → Int} {R : Nat → Nat → Option Nat} {Q : Nat → Int → Option Nat} {q p : Nat} (hKq : K q = 13) (hNq : N q = 3) (hKp : K p = 13) (hNp : N p = 3) (hne : q ≠ p) (hf : ∀ j, 0 ≤ j → j < 3 → 0 ≤ A q j ∧ A q j ≤ 10000000) (hw : ∀ j, 0 ≤ j → j < 3 → 1 ≤ A p j ∧ A p j ≤ 100000) : ∀ (f m : Nat) (i mo : Int), m < f → 0 ≤ i → i + m = 3 → (0 ≤ mo ∧ mo ≤ 4) → sPlL (sMP (A p) 0) (A p 2) (A q) m i mo = sMP (A p) 1 (A q) → gJ Y X yX12_mostPlaced cX12_mostPlaced 6 (some .int) ({ frames := 1, cells := 0, slots := 0, locals := 25 } : Room) (g_wr K N R Q (fun v I' A' => v = some (vi (sMP (A p) 1 (A q))) ∧ I' = I ∧ A' = A)) gno 0 0 29 [(0, .ref q), (1, .ref p), (2, vi 2), (3, vi (A p 2)), (4, vi mo), (5, vi i)] [] K N I A R Q := by
  intro f
  induction f with
  | zero => intro m i mo h; omega
  | succ f ih =>
  intro m i mo hf0 hi hm hmo he
  have hwd := hw 2 (by omega) (by omega)
  refine g_iload dX12_mostPlaced_29 rfl ?_
  refine g_aload_n dX12_mostPlaced_31 rfl rfl ?_
  refine g_alen_i dX12_mostPlaced_32 hKq ?_
  refine g_icmp_ge (tgt := 83) dX12_mostPlaced_33 (by decide) (by omega) (by omega) (fun c_33 => ?_) (fun c_33 => ?_)
  · refine g_iload dX12_mostPlaced_83 rfl ?_
    exact g_iret dX12_mostPlaced_85 rfl (by decide) (by decide) ⟨rfl, rfl, rfl, rfl, by rw [← he, sPlL_stop (by omega)], rfl, rfl⟩
  · refine g_aload_n dX12_mostPlaced_36 rfl rfl ?_
    refine g_iload dX12_mostPlaced_37 rfl ?_
    refine g_iaload dX12_mostPlaced_39 hKq (by omega) (by omega) ?_
    refine g_iload_n dX12_mostPlaced_40 rfl rfl ?_
    refine g_icmp_lt (tgt := 77) dX12_mostPlaced_41 (by decide) (by have := hf i (by omega) (by omega); omega) (by have := hw 2 (by omega) (by omega); omega) (fun c_41 => ?_) (fun c_41 => ?_)
    · skip
      refine g_iinc dX12_mostPlaced_77 rfl (by decide) ?_
      refine g_goto (tgt := 29) dX12_mostPlaced_80 (by decide) ?_
      first
      | (rw [sPlL_skip (by omega) (by omega)] at he
         exact g_locs (by exact ⟨rfl, rfl, rfl, rfl, rfl, rfl, trivial⟩) (ih (m - 1) (i + 1) mo (by omega) (by omega) (by omega) (by omega) he))
      | (have hz : A76 = A := by
           have q1 : A51 q i = A q i - A p 2 := by rw [eq, sU_eq]
           rw [hA76, q1, hA51]
           exact g_uq_back rfl
         rw [sPlL_take (by omega) hb] at he
         rw [hz]
         exact g_locs (by exact ⟨rfl, rfl, rfl, rfl, rfl, rfl, trivial⟩) (ih (m - 1) (i + 1) _ (by omega) (by omega) (by omega) (by split <;> omega) he))
    · refine g_aload_n dX12_mostPlaced_44 rfl rfl ?_
      refine g_iload dX12_mostPlaced_45 rfl ?_
      refine g_dup2 dX12_mostPlaced_47 rfl rfl ?_
      refine g_iaload dX12_mostPlaced_48 hKq (by omega) (by omega) ?_
      skip
      refine g_iload_n dX12_mostPlaced_49 rfl rfl ?_
      refine g_isub dX12_mostPlaced_50 ?_
      refine g_iastore dX12_mostPlaced_51 hKq (by omega) (by omega) (fun A51 hA51 => ?_)
      have hb : A p 2 ≤ A q i := by omega
      have ep : A51 p = A p := by rw [hA51]; exact g_uq_off _ _ _ (fun e => hne e.symm)
      have eq : A51 q = sU (A q) i (A q i - A p 2) := by rw [hA51]; funext j; rw [g_uq_at]; rfl
      have hr2 := sMP_range (w := A p) 0 (sU (A q) i (A q i - A p 2))
      refine g_iload dX12_mostPlaced_52 rfl ?_
      refine g_iconst dX12_mostPlaced_54 ?_
      refine g_aload_n dX12_mostPlaced_55 rfl rfl ?_
      refine g_aload_n dX12_mostPlaced_56 rfl rfl ?_
      refine g_iload_n dX12_mostPlaced_57 rfl rfl ?_
      refine g_iconst dX12_mostPlaced_58 ?_
      refine g_iadd dX12_mostPlaced_59 ?_
      refine g_callSp (k_MP0 Y (A := A51) hKq hNq hKp hNp hne (fun j a b => by rw [eq]; simp only [sU]; have h1 := hf j a b; have h3 := hf i (by omega) (by omega); have h2 := hw 2 (by omega) (by omega); split <;> omega) (by rw [ep]; exact hw)) u_X12_mostPlaced mw_839 rfl dX12_mostPlaced_60 rfl rfl ⟨Nat.le_of_ble_eq_true rfl, Nat.le_of_ble_eq_true rfl⟩ ⟨Nat.le_of_ble_eq_true rfl, Nat.le_of_ble_eq_true rfl⟩ (Nat.le_of_ble_eq_true rfl) ?_
      rw [ep, eq]
      refine g_iadd dX12_mostPlaced_63 ?_
      refine g_callSOp (k_J_max Y _ _ (by omega) (by omega)) u_J9_max mw_842 dX12_mostPlaced_64 rfl rfl ⟨Nat.le_of_ble_eq_true rfl, Nat.le_of_ble_eq_true rfl⟩ ⟨Nat.le_of_ble_eq_true rfl, Nat.le_of_ble_eq_true rfl⟩ (Nat.le_of_ble_eq_true rfl) ?_
      refine g_istore dX12_mostPlaced_67 (by decide) ?_
      refine g_aload_n dX12_mostPlaced_69 rfl rfl ?_
      refine g_iload dX12_mostPlaced_70 rfl ?_
      refine g_dup2 dX12_mostPlaced_72 rfl rfl ?_
      refine g_iaload dX12_mostPlaced_73 hKq (by omega) (by omega) ?_
      refine g_iload_n dX12_mostPlaced_74 rfl rfl ?_
      refine g_iadd dX12_mostPlaced_75 ?_
      refine g_iastore dX12_mostPlaced_76 hKq (by omega) (by omega) (fun A76 hA76 => ?_)
      skip
      refine g_iinc dX12_mostPlaced_77 rfl (by decide) ?_
      refine g_goto (tgt := 29) dX12_mostPlaced_80 (by decide) ?_
      first
      | (rw [sPlL_skip (by omega) (by omega)] at he
         exact g_locs (by exact ⟨rfl, rfl, rfl, rfl, rfl, rfl, trivial⟩) (ih (m - 1) (i + 1) mo (by omega) (by omega) (by omega) (by omega) he))
      | (have hz : A76 = A := by
           have q1 : A51 q i = A q i - A p 2 := by rw [eq, sU_eq]
           rw [hA76, q1, hA51]
           exact g_uq_back rfl
         rw [sPlL_take (by omega) hb] at he
         rw [hz]
         exact g_locs (by exact ⟨rfl, rfl, rfl, rfl, rfl, rfl, trivial⟩) (ih (m - 1) (i + 1) _ (by omega) (by omega) (by omega) (by split <;> omega) he))
set_option maxHeartbeats 1000000 in
set_option maxRecDepth 100000 in
theorem k_MP1 (Y : gEnv) {K N : Nat → Nat} {I : Nat → Nat → Int} {A : Nat → Int → Int} {R : Nat → Nat → Option Nat} {Q : Nat → Int → Option Nat} {q p : Nat} (hKq : K q = 13) (hNq : N q = 3) (hKp : K p = 13) (hNp : N p = 3) (hne : q ≠ p) (hf : ∀ j, 0 ≤ j → j < 3 → 0 ≤ A q j ∧ A q j ≤ 10000000) (hw : ∀ j, 0 ≤ j → j < 3 → 1 ≤ A p j ∧ A p j ≤ 100000) : gC Y yX12_mostPlaced cX12_mostPlaced 6 (some .int) ({ frames := 1, cells := 0, slots := 0, locals := 25 } : Room) [.ref q, .ref p, vi 2] K N I A R Q (g_wr K N R Q (fun v I' A' => v = some (vi (sMP (A p) 1 (A q))) ∧ I' = I ∧ A' = A)) gno := by
  refine gC_of (by decide) (Nat.le_of_ble_eq_true rfl) (fun X => ?_)
  refine g_iload_n dX12_mostPlaced_0 rfl rfl ?_
  refine g_if_lt (tgt := 10) dX12_mostPlaced_1 (by decide) (by omega) (fun c_1 => ?_) (fun c_1 => ?_)
  · exfalso; omega
  · refine g_iload_n dX12_mostPlaced_4 rfl rfl ?_
    refine g_aload_n dX12_mostPlaced_5 rfl rfl ?_
    refine g_alen_i dX12_mostPlaced_6 hKp ?_
    refine g_icmp_lt (tgt := 12) dX12_mostPlaced_7 (by decide) (by omega) (by omega) (fun c_7 => ?_) (fun c_7 => ?_)
    · refine g_aload_n dX12_mostPlaced_12 rfl rfl ?_
      refine g_iload_n dX12_mostPlaced_13 rfl rfl ?_
      refine g_iaload dX12_mostPlaced_14 hKp (by omega) (by omega) ?_
      refine g_istore_n dX12_mostPlaced_15 rfl (by decide) ?_
      refine g_aload_n dX12_mostPlaced_16 rfl rfl ?_
      refine g_aload_n dX12_mostPlaced_17 rfl rfl ?_
      refine g_iload_n dX12_mostPlaced_18 rfl rfl ?_
      refine g_iconst dX12_mostPlaced_19 ?_
      refine g_iadd dX12_mostPlaced_20 ?_
      refine g_callSp (k_MP0 Y hKq hNq hKp hNp hne hf hw) u_X12_mostPlaced mw_839 rfl dX12_mostPlaced_21 rfl rfl ⟨Nat.le_of_ble_eq_true rfl, Nat.le_of_ble_eq_true rfl⟩ ⟨Nat.le_of_ble_eq_true rfl, Nat.le_of_ble_eq_true rfl⟩ (Nat.le_of_ble_eq_true rfl) ?_
      refine g_istore dX12_mostPlaced_24 (by decide) ?_
      refine g_iconst dX12_mostPlaced_26 ?_
      refine g_istore dX12_mostPlaced_27 (by decide) ?_
      exact g_locs (by exact ⟨rfl, rfl, rfl, rfl, rfl, rfl, trivial⟩) (lp_MP1 hKq hNq hKp hNp hne hf hw _ 3 0 _ (Nat.lt_succ_self _) (by omega) (by omega) (by have h := sMP_range (w := A p) 0 (A q); exact ⟨h.1, Int.le_trans h.2 (by decide)⟩) rfl)
    · exfalso; omega
set_option maxHeartbeats 1000000 in
set_option maxRecDepth 100000 in
theorem lp_MP2 {Y : gEnv} {X : gCtx} {K N : Nat → Nat} {I : Nat → Nat → Int} {A : Nat → Int → Int} {R : Nat → Nat → Option Nat} {Q : Nat → Int → Option Nat} {q p : Nat} (hKq : K q = 13) (hNq : N q = 3) (hKp : K p = 13) (hNp : N p = 3) (hne : q ≠ p) (hf : ∀ j, 0 ≤ j → j < 3 → 0 ≤ A q j ∧ A q j ≤ 10000000) (hw : ∀ j, 0 ≤ j → j < 3 → 1 ≤ A p j ∧ A p j ≤ 100000) : ∀ (f m : Nat) (i mo : Int), m < f → 0 ≤ i → i + m = 3 → (0 ≤ mo ∧ mo ≤ 4) → sPlL (sMP (A p) 1) (A p 1) (A q) m i mo = sMP (A p) 2 (A q) → gJ Y X yX12_mostPlaced cX12_mostPlaced 6 (some .int) ({ frames := 2, cells := 0, slots := 0, locals := 50 } : Room) (g_wr K N R Q (fun v I' A' => v = some (vi (sMP (A p) 2 (A q))) ∧ I' = I ∧ A' = A)) gno 0 0 29 [(0, .ref q), (1, .ref p), (2, vi 1), (3, vi (A p 1)), (4, vi mo), (5, vi i)] [] K N I A R Q := by
  intro f
  induction f with
  | zero => intro m i mo h; omega
  | succ f ih =>
  intro m i mo hf0 hi hm hmo he
  have hwd := hw 1 (by omega) (by omega)
  refine g_iload dX12_mostPlaced_29 rfl ?_
  refine g_aload_n dX12_mostPlaced_31 rfl rfl ?_
  refine g_alen_i dX12_mostPlaced_32 hKq ?_
  refine g_icmp_ge (tgt := 83) dX12_mostPlaced_33 (by decide) (by omega) (by omega) (fun c_33 => ?_) (fun c_33 => ?_)
  · refine g_iload dX12_mostPlaced_83 rfl ?_
    exact g_iret dX12_mostPlaced_85 rfl (by decide) (by decide) ⟨rfl, rfl, rfl, rfl, by rw [← he, sPlL_stop (by omega)], rfl, rfl⟩
  · refine g_aload_n dX12_mostPlaced_36 rfl rfl ?_
    refine g_iload dX12_mostPlaced_37 rfl ?_
    refine g_iaload dX12_mostPlaced_39 hKq (by omega) (by omega) ?_
    refine g_iload_n dX12_mostPlaced_40 rfl rfl ?_
    refine g_icmp_lt (tgt := 77) dX12_mostPlaced_41 (by decide) (by have := hf i (by omega) (by omega); omega) (by have := hw 1 (by omega) (by omega); omega) (fun c_41 => ?_) (fun c_41 => ?_)
    · skip
      refine g_iinc dX12_mostPlaced_77 rfl (by decide) ?_
      refine g_goto (tgt := 29) dX12_mostPlaced_80 (by decide) ?_
      first
      | (rw [sPlL_skip (by omega) (by omega)] at he
         exact g_locs (by exact ⟨rfl, rfl, rfl, rfl, rfl, rfl, trivial⟩) (ih (m - 1) (i + 1) mo (by omega) (by omega) (by omega) (by omega) he))
      | (have hz : A76 = A := by
           have q1 : A51 q i = A q i - A p 1 := by rw [eq, sU_eq]
           rw [hA76, q1, hA51]
           exact g_uq_back rfl
         rw [sPlL_take (by omega) hb] at he
         rw [hz]
         exact g_locs (by exact ⟨rfl, rfl, rfl, rfl, rfl, rfl, trivial⟩) (ih (m - 1) (i + 1) _ (by omega) (by omega) (by omega) (by split <;> omega) he))
    · refine g_aload_n dX12_mostPlaced_44 rfl rfl ?_
      refine g_iload dX12_mostPlaced_45 rfl ?_
      refine g_dup2 dX12_mostPlaced_47 rfl rfl ?_
      refine g_iaload dX12_mostPlaced_48 hKq (by omega) (by omega) ?_
      skip
      refine g_iload_n dX12_mostPlaced_49 rfl rfl ?_
      refine g_isub dX12_mostPlaced_50 ?_
      refine g_iastore dX12_mostPlaced_51 hKq (by omega) (by omega) (fun A51 hA51 => ?_)
      have hb : A p 1 ≤ A q i := by omega
      have ep : A51 p = A p := by rw [hA51]; exact g_uq_off _ _ _ (fun e => hne e.symm)
      have eq : A51 q = sU (A q) i (A q i - A p 1) := by rw [hA51]; funext j; rw [g_uq_at]; rfl
      have hr2 := sMP_range (w := A p) 1 (sU (A q) i (A q i - A p 1))
      refine g_iload dX12_mostPlaced_52 rfl ?_
      refine g_iconst dX12_mostPlaced_54 ?_
      refine g_aload_n dX12_mostPlaced_55 rfl rfl ?_
      refine g_aload_n dX12_mostPlaced_56 rfl rfl ?_
      refine g_iload_n dX12_mostPlaced_57 rfl rfl ?_
      refine g_iconst dX12_mostPlaced_58 ?_
      refine g_iadd dX12_mostPlaced_59 ?_
      refine g_callSw (k_MP1 Y (A := A51) hKq hNq hKp hNp hne (fun j a b => by rw [eq]; simp only [sU]; have h1 := hf j a b; have h3 := hf i (by omega) (by omega); have h2 := hw 1 (by omega) (by omega); split <;> omega) (by rw [ep]; exact hw)) u_X12_mostPlaced mw_839 rfl dX12_mostPlaced_60 rfl rfl ⟨Nat.le_of_ble_eq_true rfl, Nat.le_of_ble_eq_true rfl⟩ ⟨Nat.le_of_ble_eq_true rfl, Nat.le_of_ble_eq_true rfl⟩ (Nat.le_of_ble_eq_true rfl) (fun v60 I60 A60 h60 => ?_)
      obtain ⟨rfl, iE, aE⟩ := h60
      obtain rfl := iE.symm
      obtain rfl := aE.symm
      rw [ep, eq]
      refine g_iadd dX12_mostPlaced_63 ?_
      refine g_callSOp (k_J_max Y _ _ (by omega) (by omega)) u_J9_max mw_842 dX12_mostPlaced_64 rfl rfl ⟨Nat.le_of_ble_eq_true rfl, Nat.le_of_ble_eq_true rfl⟩ ⟨Nat.le_of_ble_eq_true rfl, Nat.le_of_ble_eq_true rfl⟩ (Nat.le_of_ble_eq_true rfl) ?_
      refine g_istore dX12_mostPlaced_67 (by decide) ?_
      refine g_aload_n dX12_mostPlaced_69 rfl rfl ?_
      refine g_iload dX12_mostPlaced_70 rfl ?_
      refine g_dup2 dX12_mostPlaced_72 rfl rfl ?_
      refine g_iaload dX12_mostPlaced_73 hKq (by omega) (by omega) ?_
      refine g_iload_n dX12_mostPlaced_74 rfl rfl ?_
      refine g_iadd dX12_mostPlaced_75 ?_
      refine g_iastore dX12_mostPlaced_76 hKq (by omega) (by omega) (fun A76 hA76 => ?_)
      skip
      refine g_iinc dX12_mostPlaced_77 rfl (by decide) ?_
      refine g_goto (tgt := 29) dX12_mostPlaced_80 (by decide) ?_
      first
      | (rw [sPlL_skip (by omega) (by omega)] at he
         exact g_locs (by exact ⟨rfl, rfl, rfl, rfl, rfl, rfl, trivial⟩) (ih (m - 1) (i + 1) mo (by omega) (by omega) (by omega) (by omega) he))
      | (have hz : A76 = A := by
           have q1 : A51 q i = A q i - A p 1 := by rw [eq, sU_eq]
           rw [hA76, q1, hA51]
           exact g_uq_back rfl
         rw [sPlL_take (by omega) hb] at he
         rw [hz]
         exact g_locs (by exact ⟨rfl, rfl, rfl, rfl, rfl, rfl, trivial⟩) (ih (m - 1) (i + 1) _ (by omega) (by omega) (by omega) (by split <;> omega) he))
set_option maxHeartbeats 1000000 in
set_option maxRecDepth 100000 in
theorem k_MP2 (Y : gEnv) {K N : Nat → Nat} {I : Nat → Nat → Int} {A : Nat → Int → Int} {R : Nat → Nat → Option Nat} {Q : Nat → Int → Option Nat} {q p : Nat} (hKq : K q = 13) (hNq : N q = 3) (hKp : K p = 13) (hNp : N p = 3) (hne : q ≠ p) (hf : ∀ j, 0 ≤ j → j < 3 → 0 ≤ A q j ∧ A q j ≤ 10000000) (hw : ∀ j, 0 ≤ j → j < 3 → 1 ≤ A p j ∧ A p j ≤ 100000) : gC Y yX12_mostPlaced cX12_mostPlaced 6 (some .int) ({ frames := 2, cells := 0, slots := 0, locals := 50 } : Room) [.ref q, .ref p, vi 1] K N I A R Q (g_wr K N R Q (fun v I' A' => v = some (vi (sMP (A p) 2 (A q))) ∧ I' = I ∧ A' = A)) gno := by
  refine gC_of (by decide) (Nat.le_of_ble_eq_true rfl) (fun X => ?_)
  refine g_iload_n dX12_mostPlaced_0 rfl rfl ?_
  refine g_if_lt (tgt := 10) dX12_mostPlaced_1 (by decide) (by omega) (fun c_1 => ?_) (fun c_1 => ?_)
  · exfalso; omega
  · refine g_iload_n dX12_mostPlaced_4 rfl rfl ?_
    refine g_aload_n dX12_mostPlaced_5 rfl rfl ?_
    refine g_alen_i dX12_mostPlaced_6 hKp ?_
    refine g_icmp_lt (tgt := 12) dX12_mostPlaced_7 (by decide) (by omega) (by omega) (fun c_7 => ?_) (fun c_7 => ?_)
    · refine g_aload_n dX12_mostPlaced_12 rfl rfl ?_
      refine g_iload_n dX12_mostPlaced_13 rfl rfl ?_
      refine g_iaload dX12_mostPlaced_14 hKp (by omega) (by omega) ?_
      refine g_istore_n dX12_mostPlaced_15 rfl (by decide) ?_
      refine g_aload_n dX12_mostPlaced_16 rfl rfl ?_
      refine g_aload_n dX12_mostPlaced_17 rfl rfl ?_
      refine g_iload_n dX12_mostPlaced_18 rfl rfl ?_
      refine g_iconst dX12_mostPlaced_19 ?_
      refine g_iadd dX12_mostPlaced_20 ?_
      refine g_callSw (k_MP1 Y hKq hNq hKp hNp hne hf hw) u_X12_mostPlaced mw_839 rfl dX12_mostPlaced_21 rfl rfl ⟨Nat.le_of_ble_eq_true rfl, Nat.le_of_ble_eq_true rfl⟩ ⟨Nat.le_of_ble_eq_true rfl, Nat.le_of_ble_eq_true rfl⟩ (Nat.le_of_ble_eq_true rfl) (fun v21 I21 A21 h21 => ?_)
      obtain ⟨rfl, iE, aE⟩ := h21
      obtain rfl := iE.symm
      obtain rfl := aE.symm
      refine g_istore dX12_mostPlaced_24 (by decide) ?_
      refine g_iconst dX12_mostPlaced_26 ?_
      refine g_istore dX12_mostPlaced_27 (by decide) ?_
      exact g_locs (by exact ⟨rfl, rfl, rfl, rfl, rfl, rfl, trivial⟩) (lp_MP2 hKq hNq hKp hNp hne hf hw _ 3 0 _ (Nat.lt_succ_self _) (by omega) (by omega) (by have h := sMP_range (w := A p) 1 (A q); exact ⟨h.1, Int.le_trans h.2 (by decide)⟩) rfl)
    · exfalso; omega
set_option maxHeartbeats 1000000 in
set_option maxRecDepth 100000 in
theorem lp_MP3 {Y : gEnv} {X : gCtx} {K N : Nat → Nat} {I : Nat → Nat → Int} {A : Nat → Int → Int} {R : Nat → Nat → Option Nat} {Q : Nat → Int → Option Nat} {q p : Nat} (hKq : K q = 13) (hNq : N q = 3) (hKp : K p = 13) (hNp : N p = 3) (hne : q ≠ p) (hf : ∀ j, 0 ≤ j → j < 3 → 0 ≤ A q j ∧ A q j ≤ 10000000) (hw : ∀ j, 0 ≤ j → j < 3 → 1 ≤ A p j ∧ A p j ≤ 100000) : ∀ (f m : Nat) (i mo : Int), m < f → 0 ≤ i → i + m = 3 → (0 ≤ mo ∧ mo ≤ 4) → sPlL (sMP (A p) 2) (A p 0) (A q) m i mo = sMP (A p) 3 (A q) → gJ Y X yX12_mostPlaced cX12_mostPlaced 6 (some .int) ({ frames := 3, cells := 0, slots := 0, locals := 75 } : Room) (g_wr K N R Q (fun v I' A' => v = some (vi (sMP (A p) 3 (A q))) ∧ I' = I ∧ A' = A)) gno 0 0 29 [(0, .ref q), (1, .ref p), (2, vi 0), (3, vi (A p 0)), (4, vi mo), (5, vi i)] [] K N I A R Q := by
  intro f
  induction f with
  | zero => intro m i mo h; omega
  | succ f ih =>
  intro m i mo hf0 hi hm hmo he
  have hwd := hw 0 (by omega) (by omega)
  refine g_iload dX12_mostPlaced_29 rfl ?_
  refine g_aload_n dX12_mostPlaced_31 rfl rfl ?_
  refine g_alen_i dX12_mostPlaced_32 hKq ?_
  refine g_icmp_ge (tgt := 83) dX12_mostPlaced_33 (by decide) (by omega) (by omega) (fun c_33 => ?_) (fun c_33 => ?_)
  · refine g_iload dX12_mostPlaced_83 rfl ?_
    exact g_iret dX12_mostPlaced_85 rfl (by decide) (by decide) ⟨rfl, rfl, rfl, rfl, by rw [← he, sPlL_stop (by omega)], rfl, rfl⟩
  · refine g_aload_n dX12_mostPlaced_36 rfl rfl ?_
    refine g_iload dX12_mostPlaced_37 rfl ?_
    refine g_iaload dX12_mostPlaced_39 hKq (by omega) (by omega) ?_
    refine g_iload_n dX12_mostPlaced_40 rfl rfl ?_
    refine g_icmp_lt (tgt := 77) dX12_mostPlaced_41 (by decide) (by have := hf i (by omega) (by omega); omega) (by have := hw 0 (by omega) (by omega); omega) (fun c_41 => ?_) (fun c_41 => ?_)
    · skip
      refine g_iinc dX12_mostPlaced_77 rfl (by decide) ?_
      refine g_goto (tgt := 29) dX12_mostPlaced_80 (by decide) ?_
      first
      | (rw [sPlL_skip (by omega) (by omega)] at he
         exact g_locs (by exact ⟨rfl, rfl, rfl, rfl, rfl, rfl, trivial⟩) (ih (m - 1) (i + 1) mo (by omega) (by omega) (by omega) (by omega) he))
      | (have hz : A76 = A := by
           have q1 : A51 q i = A q i - A p 0 := by rw [eq, sU_eq]
           rw [hA76, q1, hA51]
           exact g_uq_back rfl
         rw [sPlL_take (by omega) hb] at he
         rw [hz]
         exact g_locs (by exact ⟨rfl, rfl, rfl, rfl, rfl, rfl, trivial⟩) (ih (m - 1) (i + 1) _ (by omega) (by omega) (by omega) (by split <;> omega) he))
    · refine g_aload_n dX12_mostPlaced_44 rfl rfl ?_
      refine g_iload dX12_mostPlaced_45 rfl ?_
      refine g_dup2 dX12_mostPlaced_47 rfl rfl ?_
      refine g_iaload dX12_mostPlaced_48 hKq (by omega) (by omega) ?_
      skip
      refine g_iload_n dX12_mostPlaced_49 rfl rfl ?_
      refine g_isub dX12_mostPlaced_50 ?_
      refine g_iastore dX12_mostPlaced_51 hKq (by omega) (by omega) (fun A51 hA51 => ?_)
      have hb : A p 0 ≤ A q i := by omega
      have ep : A51 p = A p := by rw [hA51]; exact g_uq_off _ _ _ (fun e => hne e.symm)
      have eq : A51 q = sU (A q) i (A q i - A p 0) := by rw [hA51]; funext j; rw [g_uq_at]; rfl
      have hr2 := sMP_range (w := A p) 2 (sU (A q) i (A q i - A p 0))
      refine g_iload dX12_mostPlaced_52 rfl ?_
      refine g_iconst dX12_mostPlaced_54 ?_
      refine g_aload_n dX12_mostPlaced_55 rfl rfl ?_
      refine g_aload_n dX12_mostPlaced_56 rfl rfl ?_
      refine g_iload_n dX12_mostPlaced_57 rfl rfl ?_
      refine g_iconst dX12_mostPlaced_58 ?_
      refine g_iadd dX12_mostPlaced_59 ?_
      refine g_callSw (k_MP2 Y (A := A51) hKq hNq hKp hNp hne (fun j a b => by rw [eq]; simp only [sU]; have h1 := hf j a b; have h3 := hf i (by omega) (by omega); have h2 := hw 0 (by omega) (by omega); split <;> omega) (by rw [ep]; exact hw)) u_X12_mostPlaced mw_839 rfl dX12_mostPlaced_60 rfl rfl ⟨Nat.le_of_ble_eq_true rfl, Nat.le_of_ble_eq_true rfl⟩ ⟨Nat.le_of_ble_eq_true rfl, Nat.le_of_ble_eq_true rfl⟩ (Nat.le_of_ble_eq_true rfl) (fun v60 I60 A60 h60 => ?_)
      obtain ⟨rfl, iE, aE⟩ := h60
      obtain rfl := iE.symm
      obtain rfl := aE.symm
      rw [ep, eq]
      refine g_iadd dX12_mostPlaced_63 ?_
      refine g_callSOp (k_J_max Y _ _ (by omega) (by omega)) u_J9_max mw_842 dX12_mostPlaced_64 rfl rfl ⟨Nat.le_of_ble_eq_true rfl, Nat.le_of_ble_eq_true rfl⟩ ⟨Nat.le_of_ble_eq_true rfl, Nat.le_of_ble_eq_true rfl⟩ (Nat.le_of_ble_eq_true rfl) ?_
      refine g_istore dX12_mostPlaced_67 (by decide) ?_
      refine g_aload_n dX12_mostPlaced_69 rfl rfl ?_
      refine g_iload dX12_mostPlaced_70 rfl ?_
      refine g_dup2 dX12_mostPlaced_72 rfl rfl ?_
      refine g_iaload dX12_mostPlaced_73 hKq (by omega) (by omega) ?_
      refine g_iload_n dX12_mostPlaced_74 rfl rfl ?_
      refine g_iadd dX12_mostPlaced_75 ?_
      refine g_iastore dX12_mostPlaced_76 hKq (by omega) (by omega) (fun A76 hA76 => ?_)
      skip
      refine g_iinc dX12_mostPlaced_77 rfl (by decide) ?_
      refine g_goto (tgt := 29) dX12_mostPlaced_80 (by decide) ?_
      first
      | (rw [sPlL_skip (by omega) (by omega)] at he
         exact g_locs (by exact ⟨rfl, rfl, rfl, rfl, rfl, rfl, trivial⟩) (ih (m - 1) (i + 1) mo (by omega) (by omega) (by omega) (by omega) he))
      | (have hz : A76 = A := by
           have q1 : A51 q i = A q i - A p 0 := by rw [eq, sU_eq]
           rw [hA76, q1, hA51]
           exact g_uq_back rfl
         rw [sPlL_take (by omega) hb] at he
         rw [hz]
         exact g_locs (by exact ⟨rfl, rfl, rfl, rfl, rfl, rfl, trivial⟩) (ih (m - 1) (i + 1) _ (by omega) (by omega) (by omega) (by split <;> omega) he))
set_option maxHeartbeats 1000000 in
set_option maxRecDepth 100000 in
theorem k_MP3 (Y : gEnv) {K N : Nat → Nat} {I : Nat → Nat → Int} {A : Nat → Int → Int} {R : Nat → Nat → Option Nat} {Q : Nat → Int → Option Nat} {q p : Nat} (hKq : K q = 13) (hNq : N q = 3) (hKp : K p = 13) (hNp : N p = 3) (hne : q ≠ p) (hf : ∀ j, 0 ≤ j → j < 3 → 0 ≤ A q j ∧ A q j ≤ 10000000) (hw : ∀ j, 0 ≤ j → j < 3 → 1 ≤ A p j ∧ A p j ≤ 100000) : gC Y yX12_mostPlaced cX12_mostPlaced 6 (some .int) ({ frames := 3, cells := 0, slots := 0, locals := 75 } : Room) [.ref q, .ref p, vi 0] K N I A R Q (g_wr K N R Q (fun v I' A' => v = some (vi (sMP (A p) 3 (A q))) ∧ I' = I ∧ A' = A)) gno := by
  refine gC_of (by decide) (Nat.le_of_ble_eq_true rfl) (fun X => ?_)
  refine g_iload_n dX12_mostPlaced_0 rfl rfl ?_
  refine g_if_lt (tgt := 10) dX12_mostPlaced_1 (by decide) (by omega) (fun c_1 => ?_) (fun c_1 => ?_)
  · exfalso; omega
  · refine g_iload_n dX12_mostPlaced_4 rfl rfl ?_
    refine g_aload_n dX12_mostPlaced_5 rfl rfl ?_
    refine g_alen_i dX12_mostPlaced_6 hKp ?_
    refine g_icmp_lt (tgt := 12) dX12_mostPlaced_7 (by decide) (by omega) (by omega) (fun c_7 => ?_) (fun c_7 => ?_)
    · refine g_aload_n dX12_mostPlaced_12 rfl rfl ?_
      refine g_iload_n dX12_mostPlaced_13 rfl rfl ?_
      refine g_iaload dX12_mostPlaced_14 hKp (by omega) (by omega) ?_
      refine g_istore_n dX12_mostPlaced_15 rfl (by decide) ?_
      refine g_aload_n dX12_mostPlaced_16 rfl rfl ?_
      refine g_aload_n dX12_mostPlaced_17 rfl rfl ?_
      refine g_iload_n dX12_mostPlaced_18 rfl rfl ?_
      refine g_iconst dX12_mostPlaced_19 ?_
      refine g_iadd dX12_mostPlaced_20 ?_
      refine g_callSw (k_MP2 Y hKq hNq hKp hNp hne hf hw) u_X12_mostPlaced mw_839 rfl dX12_mostPlaced_21 rfl rfl ⟨Nat.le_of_ble_eq_true rfl, Nat.le_of_ble_eq_true rfl⟩ ⟨Nat.le_of_ble_eq_true rfl, Nat.le_of_ble_eq_true rfl⟩ (Nat.le_of_ble_eq_true rfl) (fun v21 I21 A21 h21 => ?_)
      obtain ⟨rfl, iE, aE⟩ := h21
      obtain rfl := iE.symm
      obtain rfl := aE.symm
      refine g_istore dX12_mostPlaced_24 (by decide) ?_
      refine g_iconst dX12_mostPlaced_26 ?_
      refine g_istore dX12_mostPlaced_27 (by decide) ?_
      exact g_locs (by exact ⟨rfl, rfl, rfl, rfl, rfl, rfl, trivial⟩) (lp_MP3 hKq hNq hKp hNp hne hf hw _ 3 0 _ (Nat.lt_succ_self _) (by omega) (by omega) (by have h := sMP_range (w := A p) 2 (A q); exact ⟨h.1, Int.le_trans h.2 (by decide)⟩) rfl)
    · exfalso; omega
