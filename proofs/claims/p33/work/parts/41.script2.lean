/-- the parsed state -/
def cPs (Y : gEnv) (I : Nat → Nat → Int) (A : Nat → Int → Int) (R : Nat → Nat → Option Nat) (sc ar : Nat) (S : sSt) : Prop := R 146 sc = sVr Y S.1 ∧ I 143 sc = S.2.1 ∧ I 144 sc = S.2.2.1 ∧ ∀ j, 0 ≤ j → j < 4 → j < S.2.1 - 1 → A ar j = S.2.2.2 j
def cSf (I I' : Nat → Nat → Int) (A A' : Nat → Int → Int) (R R' : Nat → Nat → Option Nat) (sc ar : Nat) : Prop := (∀ f b, (b ≠ sc ∨ f < 142 ∨ 144 < f) → I' f b = I f b) ∧ (∀ b, b ≠ ar → A' b = A b) ∧ (∀ f b, (f ≠ 146 ∨ b ≠ sc) → R' f b = R f b)
theorem cSf.rfl {I : Nat → Nat → Int} {A : Nat → Int → Int} {R : Nat → Nat → Option Nat} {sc ar : Nat} : cSf I I A A R R sc ar := ⟨fun _ _ _ => Eq.refl _, fun _ _ => Eq.refl _, fun _ _ _ => Eq.refl _⟩
theorem cSf.trans {I I1 I2 : Nat → Nat → Int} {A A1 A2 : Nat → Int → Int} {R R1 R2 : Nat → Nat → Option Nat} {sc ar : Nat} (h1 : cSf I I1 A A1 R R1 sc ar) (h2 : cSf I1 I2 A1 A2 R1 R2 sc ar) : cSf I I2 A A2 R R2 sc ar := ⟨fun f b h => (h2.1 f b h).trans (h1.1 f b h), fun b h => (h2.2.1 b h).trans (h1.2.1 b h), fun f b h => (h2.2.2 f b h).trans (h1.2.2 f b h)⟩
theorem cSf.up {I : Nat → Nat → Int} {A : Nat → Int → Int} {R : Nat → Nat → Option Nat} {sc ar f : Nat} {v : Int} (hf : 142 ≤ f ∧ f ≤ 144) : cSf I (g_up I f sc v) A A R R sc ar := ⟨fun g b h => by
  by_cases e : g = f
  · by_cases e2 : b = sc
    · exact absurd h (by omega)
    · simp [g_up, e2]
  · simp [g_up, e], fun _ _ => Eq.refl _, fun _ _ _ => Eq.refl _⟩
theorem cSf.upR {I : Nat → Nat → Int} {A : Nat → Int → Int} {R : Nat → Nat → Option Nat} {sc ar : Nat} {z : Option Nat} : cSf I I A A R (g_up R 146 sc z) sc ar := ⟨fun _ _ _ => Eq.refl _, fun _ _ => Eq.refl _, fun g b h => by
  by_cases e : g = 146
  · by_cases e2 : b = sc
    · exact absurd h (by omega)
    · simp [g_up, e2]
  · simp [g_up, e]⟩
theorem cSf.uq {I : Nat → Nat → Int} {A : Nat → Int → Int} {R : Nat → Nat → Option Nat} {sc ar : Nat} {i v : Int} : cSf I I A (g_uq A ar i v) R R sc ar := ⟨fun _ _ _ => Eq.refl _, fun b h => by funext j; simp [g_uq, h], fun _ _ _ => Eq.refl _⟩
theorem cSf.upc {I : Nat → Nat → Int} {A : Nat → Int → Int} {R : Nat → Nat → Option Nat} {sc ar f : Nat} {v : Int} (hf : 142 ≤ f ∧ f ≤ 144) (c : Prop) [Decidable c] : cSf I (if c then g_up I f sc v else I) A A R R sc ar := by
  by_cases h : c
  · rw [if_pos h]; exact cSf.up hf
  · rw [if_neg h]; exact cSf.rfl
theorem cSf.uqc {I : Nat → Nat → Int} {A : Nat → Int → Int} {R : Nat → Nat → Option Nat} {sc ar : Nat} {i v : Int} (c : Prop) [Decidable c] : cSf I I A (if c then g_uq A ar i v else A) R R sc ar := by
  by_cases h : c
  · rw [if_pos h]; exact cSf.uq
  · rw [if_neg h]; exact cSf.rfl
theorem cS.of {K N : Nat → Nat} {I I' : Nat → Nat → Int} {A A' : Nat → Int → Int} {R R' : Nat → Nat → Option Nat} {sc sg ar : Nat} (h : cS K N R sc sg ar) (hf : cSf I I' A A' R R' sc ar) : cS K N R' sc sg ar := by
  obtain ⟨h1, h2, h3, h4, h5, h6, h7⟩ := h
  exact ⟨h1, (hf.2.2 140 sc (by omega)).trans h2, h3, h4, (hf.2.2 145 sc (by omega)).trans h5, h6, h7⟩
theorem cS.ne {K N : Nat → Nat} {R : Nat → Nat → Option Nat} {sc sg ar : Nat} (h : cS K N R sc sg ar) : sg ≠ ar := fun e => by
  obtain ⟨h1, h2, h3, h4, h5, h6, h7⟩ := h
  rw [e] at h3; omega
theorem cPs.verb {Y : gEnv} {T : Int → Int} {I : Nat → Nat → Int} {A : Nat → Int → Int} {R : Nat → Nat → Option Nat} {sc ar : Nat} {S : sSt} {f t : Int} (h : cPs Y I A R sc ar S) (e : S.2.1 = 0) : cPs Y (g_up I 143 sc (I 143 sc + 1)) A (g_up R 146 sc (sVr Y (sVerb T f t))) sc ar (sWord T S f t) := by
  obtain ⟨h1, h2, h3, h4⟩ := h
  rw [sWord_0 e]
  refine ⟨by simp [g_up], ?_, ?_, fun j a b c => absurd c (by show ¬ j < 1 - 1; omega)⟩
  · show g_up I 143 sc (I 143 sc + 1) 143 sc = 1
    simp only [g_up, if_pos]; omega
  · simp only [g_up]; rw [if_neg (by omega)]; exact h3
theorem cPs.arg {Y : gEnv} {T : Int → Int} {I I1 : Nat → Nat → Int} {A A1 : Nat → Int → Int} {R : Nat → Nat → Option Nat} {sc ar : Nat} {S : sSt} {f t : Int} (h : cPs Y I A R sc ar S) (e : S.2.1 ≠ 0) (h0 : 0 ≤ S.2.1) (hI : I1 = (if sNum T f t = -1 then g_up I 144 sc 0 else I)) (hA : A1 = (if I 143 sc - 1 < 4 then g_uq A ar (I 143 sc - 1) (sNum T f t) else A)) : cPs Y (g_up I1 143 sc (I1 143 sc + 1)) A1 R sc ar (sWord T S f t) := by
  obtain ⟨h1, h2, h3, h4⟩ := h
  have e1 : I1 143 sc = S.2.1 := by
    rw [hI, ← h2]; split
    · exact g_up_ne1 _ _ (by omega)
    · rfl
  rw [sWord_n e]
  refine ⟨h1, ?_, ?_, fun j a b c => ?_⟩
  · show g_up I1 143 sc (I1 143 sc + 1) 143 sc = S.2.1 + 1
    simp only [g_up, if_pos]; omega
  · simp only [g_up]; rw [if_neg (by omega), hI]
    show _ = if sNum T f t = -1 then 0 else S.2.2.1
    split
    · simp [g_up]
    · exact h3
  · have c1 : j < S.2.1 + 1 - 1 := c
    show A1 ar j = sU S.2.2.2 (S.2.1 - 1) (sNum T f t) j
    rw [hA, h2]
    by_cases q : j = S.2.1 - 1
    · rw [if_pos (by omega), q, sU_eq]; simp [g_uq]
    · rw [sU_ne _ _ q, ← h4 j a b (by omega)]
      split
      · simp [g_uq, q]
      · rfl
def sCn (T : Int → Int) : Nat → Int → Int
  | 0, _ => 0
  | n + 1, l => (if T l = 59 then 1 else 0) + sCn T n (l + 1)
def sCm (T : Int → Int) (n k : Int) : Int := if k ≤ n then 1 + sCn T (n - k).toNat k else 0
theorem sCn_stop {T : Int → Int} {n : Nat} {l : Int} (h : n = 0) : sCn T n l = 0 := by subst h; rfl
theorem sCn_yes {T : Int → Int} {n : Nat} {l : Int} (h : 0 < n) (e : T l = 59) : sCn T n l = 1 + sCn T (n - 1) (l + 1) := by
  obtain ⟨m, rfl⟩ : ∃ m, n = m + 1 := ⟨n - 1, by omega⟩
  simp only [sCn, if_pos e, Nat.add_sub_cancel]
theorem sCn_no {T : Int → Int} {n : Nat} {l : Int} (h : 0 < n) (e : ¬ T l = 59) : sCn T n l = sCn T (n - 1) (l + 1) := by
  obtain ⟨m, rfl⟩ : ∃ m, n = m + 1 := ⟨n - 1, by omega⟩
  simp only [sCn, if_neg e, Nat.add_sub_cancel, Int.zero_add]
theorem sCn_range {T : Int → Int} : ∀ (n : Nat) (l : Int), 0 ≤ sCn T n l ∧ sCn T n l ≤ n
  | 0, l => ⟨Int.le_refl _, Int.le_refl _⟩
  | n + 1, l => by
    have := sCn_range (T := T) n (l + 1)
    simp only [sCn]
    split <;> omega
theorem sCn_end {T : Int → Int} : ∀ (m : Nat) (k : Int), sCn T m k = (if sLx (sEndP T) m k < k + m then 1 + sCn T (k + m - sLx (sEndP T) m k - 1).toNat (sLx (sEndP T) m k + 1) else 0)
  | 0, k => by rw [if_neg (by simp [sLx])]; rfl
  | m + 1, k => by
    by_cases e : T k = 59
    · rw [sCn_yes (by omega) e, sLx_hit (by omega) (by simpa [sEndP] using e), if_pos (by omega), show (k + ((m + 1 : Nat) : Int) - k - 1).toNat = m by omega, Nat.add_sub_cancel]
    · rw [sCn_no (by omega) e, sLx_miss (by omega) (by simpa [sEndP] using e), Nat.add_sub_cancel, sCn_end m (k + 1)]
      have hk : k + 1 + (m : Int) = k + ((m + 1 : Nat) : Int) := by omega
      rw [hk]
theorem sCm_next {T : Int → Int} {n k : Int} (h : k ≤ n) : sCm T n k = 1 + sCm T n (sEnd T n k + 1) := by
  have hr := sEnd_range (T := T) h
  have he := sCn_end (T := T) (n - k).toNat k
  rw [show k + ((n - k).toNat : Int) = n by omega] at he
  change sCn T (n - k).toNat k = (if sEnd T n k < n then 1 + sCn T (n - sEnd T n k - 1).toNat (sEnd T n k + 1) else 0) at he
  unfold sCm
  rw [if_pos h, he]
  by_cases e : sEnd T n k < n
  · rw [if_pos e, if_pos (by omega), show n - sEnd T n k - 1 = n - (sEnd T n k + 1) by omega]
  · rw [if_neg e, if_neg (by omega)]
theorem sCm_out {T : Int → Int} {n k : Int} (h : ¬ k ≤ n) : sCm T n k = 0 := by unfold sCm; rw [if_neg h]
theorem sCm_range {T : Int → Int} {n k : Int} (h : k ≤ n + 1) : 0 ≤ sCm T n k ∧ sCm T n k ≤ n + 1 - k := by
  unfold sCm
  have := sCn_range (T := T) (n - k).toNat k
  split <;> omega
theorem sEnd_eq {T : Int → Int} {n b i : Int} {m : Nat} (h : b ≤ n) (hi : b ≤ i) (hm : i + m = n) (he : ∀ j, b ≤ j → j < i → T j ≠ 59) (hs : m = 0 ∨ T i = 59) : sEnd T n b = i := by
  obtain ⟨h1, h2, h3, h4⟩ := sEnd_range (T := T) h
  rcases Int.lt_trichotomy (sEnd T n b) i with c | c | c
  · exact absurd (h3 (by omega)) (he _ h1 c)
  · exact c
  · rcases hs with hs | hs
    · omega
    · exact absurd hs (h4 i hi c)
set_option maxHeartbeats 1000000 in
set_option maxRecDepth 100000 in
theorem lp_C_countCommands {Y : gEnv} {X : gCtx} {K N : Nat → Nat} {I : Nat → Nat → Int} {A : Nat → Int → Int} {R : Nat → Nat → Option Nat} {Q : Nat → Int → Option Nat} {sc sg ar : Nat} (hS : cS K N R sc sg ar) (hT : ∀ j, 0 ≤ j → j < 100 → 0 ≤ A sg j ∧ A sg j ≤ 126) (hn : 0 ≤ I 141 sc ∧ I 141 sc ≤ 100) : ∀ (f m : Nat) (i c : Int), m < f → 0 ≤ i → i + m = I 141 sc → 0 ≤ c ∧ c ≤ i + 1 → c + sCn (A sg) m i = sCm (A sg) (I 141 sc) 0 → gJ Y X yX9_countCommands cX9_countCommands 3 (some .int) ({ frames := 0, cells := 0, slots := 0, locals := 0 } : Room) (g_pu (some (vi (sCm (A sg) (I 141 sc) 0))) K N I A R Q) gno 0 0 4 [(0, .ref sc), (1, vi c), (2, vi i)] [] K N I A R Q := by
  obtain ⟨hKc, hRg, hKg, hNg, hRa, hKa, hNa⟩ := id hS

  intro f
  induction f with
  | zero => intro m i c h; omega
  | succ f ih =>
  intro m i c hf hi hm hc he
  refine g_iload_n dX9_countCommands_4 rfl rfl ?_
  refine g_aload_n dX9_countCommands_5 rfl rfl ?_
  refine g_get_Script_length dX9_countCommands_6 mw_277 (by assumption) ?_
  refine g_icmp_ge (tgt := 32) dX9_countCommands_9 (by decide) (by omega) (by omega) (fun c_9 => ?_) (fun c_9 => ?_)
  · refine g_iload_n dX9_countCommands_32 rfl rfl ?_
    exact g_iret dX9_countCommands_33 rfl (by decide) (by decide) (g_pu_i (by rw [sCn_stop (by omega)] at he; omega) _ _ _ _ _ _)
  · refine g_aload_n dX9_countCommands_12 rfl rfl ?_
    refine g_get_Script_signs dX9_countCommands_13 mw_276 (by assumption) (by assumption) ?_
    refine g_iload_n dX9_countCommands_16 rfl rfl ?_
    refine g_caload dX9_countCommands_17 (by assumption) (by omega) (by omega) ?_
    refine g_bipush dX9_countCommands_18 (by decide) ?_
    refine g_icmp_ne (tgt := 26) dX9_countCommands_20 (by decide) (by have := hT i (by omega) (by omega); omega) (by omega) (fun c_20 => ?_) (fun c_20 => ?_)
    · refine g_iinc dX9_countCommands_26 rfl (by decide) ?_
      refine g_goto (tgt := 4) dX9_countCommands_29 (by decide) ?_
      first
      | (rw [sCn_yes (by omega) (by assumption)] at he; exact g_locs (by exact ⟨rfl, rfl, rfl, trivial⟩) (ih (m - 1) (i + 1) (c + 1) (by omega) (by omega) (by omega) (by omega) (by omega)))
      | (rw [sCn_no (by omega) (by assumption)] at he; exact g_locs (by exact ⟨rfl, rfl, rfl, trivial⟩) (ih (m - 1) (i + 1) c (by omega) (by omega) (by omega) (by omega) (by omega)))
    · refine g_iinc dX9_countCommands_23 rfl (by decide) ?_
      refine g_iinc dX9_countCommands_26 rfl (by decide) ?_
      refine g_goto (tgt := 4) dX9_countCommands_29 (by decide) ?_
      first
      | (rw [sCn_yes (by omega) (by assumption)] at he; exact g_locs (by exact ⟨rfl, rfl, rfl, trivial⟩) (ih (m - 1) (i + 1) (c + 1) (by omega) (by omega) (by omega) (by omega) (by omega)))
      | (rw [sCn_no (by omega) (by assumption)] at he; exact g_locs (by exact ⟨rfl, rfl, rfl, trivial⟩) (ih (m - 1) (i + 1) c (by omega) (by omega) (by omega) (by omega) (by omega)))
set_option maxHeartbeats 1000000 in
set_option maxRecDepth 100000 in
theorem k_C_countCommands (Y : gEnv) {K N : Nat → Nat} {I : Nat → Nat → Int} {A : Nat → Int → Int} {R : Nat → Nat → Option Nat} {Q : Nat → Int → Option Nat} {sc sg ar : Nat} (hS : cS K N R sc sg ar) (hT : ∀ j, 0 ≤ j → j < 100 → 0 ≤ A sg j ∧ A sg j ≤ 126) (hn : 0 ≤ I 141 sc ∧ I 141 sc ≤ 100) : gC Y yX9_countCommands cX9_countCommands 3 (some .int) ({ frames := 0, cells := 0, slots := 0, locals := 0 } : Room) [.ref sc] K N I A R Q (g_pu (some (vi (sCm (A sg) (I 141 sc) 0))) K N I A R Q) gno := by
  refine gC_of (by decide) (Nat.le_of_ble_eq_true rfl) (fun X => ?_)
  refine g_iconst dX9_countCommands_0 ?_
  refine g_istore_n dX9_countCommands_1 rfl (by decide) ?_
  refine g_iconst dX9_countCommands_2 ?_
  refine g_istore_n dX9_countCommands_3 rfl (by decide) ?_
  exact g_locs (by exact ⟨rfl, rfl, rfl, trivial⟩) (lp_C_countCommands hS hT hn _ (I 141 sc).toNat 0 1 (Nat.lt_succ_self _) (by omega) (by omega) (by omega) (by unfold sCm; rw [if_pos (by omega), Int.sub_zero]))
set_option maxHeartbeats 1000000 in
set_option maxRecDepth 100000 in
theorem lp_C_endOfCommand {Y : gEnv} {X : gCtx} {K N : Nat → Nat} {I : Nat → Nat → Int} {A : Nat → Int → Int} {R : Nat → Nat → Option Nat} {Q : Nat → Int → Option Nat} {sc sg ar : Nat} (hS : cS K N R sc sg ar) (hT : ∀ j, 0 ≤ j → j < 100 → 0 ≤ A sg j ∧ A sg j ≤ 126) (hn : 0 ≤ I 141 sc ∧ I 141 sc ≤ 100) (hk : 0 ≤ I 142 sc ∧ I 142 sc ≤ I 141 sc) : ∀ (f m : Nat) (i : Int), m < f → I 142 sc ≤ i → i + m = I 141 sc → (∀ j, I 142 sc ≤ j → j < i → A sg j ≠ 59) → gJ Y X yX9_endOfCommand cX9_endOfCommand 2 (some .int) ({ frames := 0, cells := 0, slots := 0, locals := 0 } : Room) (g_pu (some (vi (sEnd (A sg) (I 141 sc) (I 142 sc)))) K N I A R Q) gno 0 0 5 [(0, .ref sc), (1, vi i)] [] K N I A R Q := by
  obtain ⟨hKc, hRg, hKg, hNg, hRa, hKa, hNa⟩ := id hS

  intro f
  induction f with
  | zero => intro m i h; omega
  | succ f ih =>
  intro m i hf hi hm he
  refine g_iload_n dX9_endOfCommand_5 rfl rfl ?_
  refine g_aload_n dX9_endOfCommand_6 rfl rfl ?_
  refine g_get_Script_length dX9_endOfCommand_7 mw_277 (by assumption) ?_
  refine g_icmp_ge (tgt := 32) dX9_endOfCommand_10 (by decide) (by omega) (by omega) (fun c_10 => ?_) (fun c_10 => ?_)
  · refine g_aload_n dX9_endOfCommand_32 rfl rfl ?_
    refine g_get_Script_length dX9_endOfCommand_33 mw_277 (by assumption) ?_
    exact g_iret dX9_endOfCommand_36 rfl (by decide) (by decide) (g_pu_i ((sEnd_eq (m := m) hk.2 hi hm he (Or.inl (by omega))).trans (by omega)).symm _ _ _ _ _ _)
  · refine g_aload_n dX9_endOfCommand_13 rfl rfl ?_
    refine g_get_Script_signs dX9_endOfCommand_14 mw_276 (by assumption) (by assumption) ?_
    refine g_iload_n dX9_endOfCommand_17 rfl rfl ?_
    refine g_caload dX9_endOfCommand_18 (by assumption) (by omega) (by omega) ?_
    refine g_bipush dX9_endOfCommand_19 (by decide) ?_
    refine g_icmp_ne (tgt := 26) dX9_endOfCommand_21 (by decide) (by have := hT i (by omega) (by omega); omega) (by omega) (fun c_21 => ?_) (fun c_21 => ?_)
    · refine g_iinc dX9_endOfCommand_26 rfl (by decide) ?_
      refine g_goto (tgt := 5) dX9_endOfCommand_29 (by decide) ?_
      exact g_locs (by exact ⟨rfl, rfl, trivial⟩) (ih (m - 1) (i + 1) (by omega) (by omega) (by omega) (fun j a b => by
        by_cases e : j = i
        · rw [e]; assumption
        · exact he j a (by omega)))
    · refine g_iload_n dX9_endOfCommand_24 rfl rfl ?_
      exact g_iret dX9_endOfCommand_25 rfl (by decide) (by decide) (g_pu_i (sEnd_eq (m := m) hk.2 hi hm he (Or.inr (by assumption))).symm _ _ _ _ _ _)
set_option maxHeartbeats 1000000 in
set_option maxRecDepth 100000 in
theorem k_C_endOfCommand (Y : gEnv) {K N : Nat → Nat} {I : Nat → Nat → Int} {A : Nat → Int → Int} {R : Nat → Nat → Option Nat} {Q : Nat → Int → Option Nat} {sc sg ar : Nat} (hS : cS K N R sc sg ar) (hT : ∀ j, 0 ≤ j → j < 100 → 0 ≤ A sg j ∧ A sg j ≤ 126) (hn : 0 ≤ I 141 sc ∧ I 141 sc ≤ 100) (hk : 0 ≤ I 142 sc ∧ I 142 sc ≤ I 141 sc) : gC Y yX9_endOfCommand cX9_endOfCommand 2 (some .int) ({ frames := 0, cells := 0, slots := 0, locals := 0 } : Room) [.ref sc] K N I A R Q (g_pu (some (vi (sEnd (A sg) (I 141 sc) (I 142 sc)))) K N I A R Q) gno := by
  refine gC_of (by decide) (Nat.le_of_ble_eq_true rfl) (fun X => ?_)
  obtain ⟨hKc, hRg, hKg, hNg, hRa, hKa, hNa⟩ := id hS
  refine g_aload_n dX9_endOfCommand_0 rfl rfl ?_
  refine g_get_Script_next dX9_endOfCommand_1 mw_279 (by assumption) ?_
  refine g_istore_n dX9_endOfCommand_4 rfl (by decide) ?_
  exact g_locs (by exact ⟨rfl, rfl, trivial⟩) (lp_C_endOfCommand hS hT hn hk _ (I 141 sc - I 142 sc).toNat (I 142 sc) (Nat.lt_succ_self _) (by omega) (by omega) (fun j a b => by omega))
set_option maxHeartbeats 1000000 in
set_option maxRecDepth 100000 in
theorem k_C_readWord (Y : gEnv) {K N : Nat → Nat} {I : Nat → Nat → Int} {A : Nat → Int → Int} {R : Nat → Nat → Option Nat} {Q : Nat → Int → Option Nat} {sc sg ar : Nat} (hS : cS K N R sc sg ar) (hT : ∀ j, 0 ≤ j → j < 100 → 0 ≤ A sg j ∧ A sg j ≤ 126) {S : sSt} (hP : cPs Y I A R sc ar S) (hs : 0 ≤ S.2.1 ∧ S.2.1 ≤ 100) (f0 t : Int) (hf : 0 ≤ f0 ∧ f0 < t ∧ t ≤ 100) : gC Y yX9_readWord cX9_readWord 3 none ({ frames := 6, cells := 0, slots := 0, locals := 188 } : Room) [.ref sc, vi f0, vi t] K N I A R Q (g_wR K N Q (fun v I' A' R' => v = none ∧ cPs Y I' A' R' sc ar (sWord (A sg) S f0 t) ∧ cSf I I' A A' R R' sc ar ∧ I' 142 sc = I 142 sc)) gno := by
  refine gC_of (by decide) (Nat.le_of_ble_eq_true rfl) (fun X => ?_)
  obtain ⟨hKc, hRg, hKg, hNg, hRa, hKa, hNa⟩ := id hS
  have e3 := hP.2.1
  refine g_aload_n dX9_readWord_0 rfl rfl ?_
  refine g_get_Script_words dX9_readWord_1 mw_280 (by assumption) ?_
  refine g_if_ne (tgt := 20) dX9_readWord_4 (by decide) (by omega) (fun c_4 => ?_) (fun c_4 => ?_)
  · refine g_aload_n dX9_readWord_20 rfl rfl ?_
    refine g_iload_n dX9_readWord_21 rfl rfl ?_
    refine g_iload_n dX9_readWord_22 rfl rfl ?_
    refine g_callVw (i := 7) rfl (gK0 (by assumption)) (g_at7 (by assumption)) (k_C_readArgument Y hS hT f0 t hf (by omega)) u_X9_readArgument mw_959 dX9_readWord_23 rfl rfl ⟨Nat.le_of_ble_eq_true rfl, Nat.le_of_ble_eq_true rfl⟩ ⟨Nat.le_of_ble_eq_true rfl, Nat.le_of_ble_eq_true rfl⟩ (Nat.le_of_ble_eq_true rfl) (fun v23 I23 A23 h23 => ?_)
    obtain ⟨rfl, i23, a23⟩ := h23
    refine g_aload_n dX9_readWord_26 rfl rfl ?_
    refine g_dup dX9_readWord_27 rfl ?_
    refine g_get_Script_words dX9_readWord_28 mw_280 (by assumption) ?_
    refine g_iconst dX9_readWord_31 ?_
    refine g_iadd dX9_readWord_32 ?_
    refine g_put_Script_words dX9_readWord_33 mw_280 (by assumption) (fun I33 hI33 => ?_)
    exact g_vret dX9_readWord_36 rfl (by decide) (by decide) (by
      first
      | (subst hI33 hR14
         exact ⟨rfl, rfl, rfl, rfl, hP.verb (by omega), cSf.upR.trans (cSf.up (by omega)), g_up_ne1 _ _ (by omega)⟩)
      | (subst hI33
         exact ⟨rfl, rfl, rfl, rfl, hP.arg (by omega) (by omega) i23 a23, by rw [i23, a23]; exact ((cSf.upc (by omega) _).trans (cSf.uqc _)).trans (cSf.up (by omega)), by rw [g_up_ne1 _ _ (by omega), i23]; split; exact g_up_ne1 _ _ (by omega); rfl⟩))
  · refine g_aload_n dX9_readWord_7 rfl rfl ?_
    refine g_aload_n dX9_readWord_8 rfl rfl ?_
    refine g_iload_n dX9_readWord_9 rfl rfl ?_
    refine g_iload_n dX9_readWord_10 rfl rfl ?_
    refine g_callVp (i := 7) rfl (gK0 (by assumption)) (g_at7 (by assumption)) (k_C_verbAt Y hS hT f0 t hf) u_X9_verbAt mw_901 dX9_readWord_11 rfl rfl ⟨Nat.le_of_ble_eq_true rfl, Nat.le_of_ble_eq_true rfl⟩ ⟨Nat.le_of_ble_eq_true rfl, Nat.le_of_ble_eq_true rfl⟩ (Nat.le_of_ble_eq_true rfl) ?_
    refine g_put_verbR (z := (sVr Y (sVerb (A sg) f0 t))) dX9_readWord_14 mw_283 (by assumption) (fun R14 hR14 => ?_)
    refine g_goto (tgt := 26) dX9_readWord_17 (by decide) ?_
    refine g_aload_n dX9_readWord_26 rfl rfl ?_
    refine g_dup dX9_readWord_27 rfl ?_
    refine g_get_Script_words dX9_readWord_28 mw_280 (by assumption) ?_
    refine g_iconst dX9_readWord_31 ?_
    refine g_iadd dX9_readWord_32 ?_
    refine g_put_Script_words dX9_readWord_33 mw_280 (by assumption) (fun I33 hI33 => ?_)
    exact g_vret dX9_readWord_36 rfl (by decide) (by decide) (by
      first
      | (subst hI33 hR14
         exact ⟨rfl, rfl, rfl, rfl, hP.verb (by omega), cSf.upR.trans (cSf.up (by omega)), g_up_ne1 _ _ (by omega)⟩)
      | (subst hI33
         exact ⟨rfl, rfl, rfl, rfl, hP.arg (by omega) (by omega) i23 a23, by rw [i23, a23]; exact ((cSf.upc (by omega) _).trans (cSf.uqc _)).trans (cSf.up (by omega)), by rw [g_up_ne1 _ _ (by omega), i23]; split; exact g_up_ne1 _ _ (by omega); rfl⟩))
set_option maxHeartbeats 1000000 in
set_option maxRecDepth 100000 in
theorem lp_C_readCommand {Y : gEnv} {X : gCtx} {K N : Nat → Nat} {I : Nat → Nat → Int} {A : Nat → Int → Int} {R : Nat → Nat → Option Nat} {Q : Nat → Int → Option Nat} {I0 : Nat → Nat → Int} {A0 : Nat → Int → Int} {R0 : Nat → Nat → Option Nat} {T : Int → Int} {sc sg ar : Nat} (hT : ∀ j, 0 ≤ j → j < 100 → 0 ≤ T j ∧ T j ≤ 126) (n k : Int) (hn : 0 ≤ k ∧ k ≤ n ∧ n ≤ 100) : ∀ (f m : Nat) (i st : Int) (S : sSt), m < f → k ≤ i → i + m = sEnd T n k → (st = -1 ∨ (0 ≤ st ∧ st < i)) → (0 ≤ S.2.1 ∧ S.2.1 + (if st = -1 then 0 else 1) + m ≤ 100) → cS K N R sc sg ar → A sg = T → cPs Y I A R sc ar S → cSf I0 I A0 A R0 R sc ar → sScan T m i st S = sCmd T n k → gJ Y X yX9_readCommand cX9_readCommand 5 none ({ frames := 7, cells := 0, slots := 0, locals := 210 } : Room) (g_wR K N Q (fun v I' A' R' => v = none ∧ cPs Y I' A' R' sc ar (sCmd T n k) ∧ cSf I0 I' A0 A' R0 R' sc ar ∧ I' 142 sc = sEnd T n k + 1)) gno 0 0 27 [(0, .ref sc), (1, vi st), (2, vi (sEnd T n k)), (3, vi i)] [] K N I A R Q := by
  have her := sEnd_range (T := T) (n := n) (b := k) (by omega)
  intro f
  induction f generalizing I A R with
  | zero => intro m i st S h; omega
  | succ f ih =>
  intro m i st S hf hi hm hst hcn hS hA hP hF he
  obtain ⟨hKc, hRg, hKg, hNg, hRa, hKa, hNa⟩ := id hS
  refine g_iload_n dX9_readCommand_27 rfl rfl ?_
  refine g_iload_n dX9_readCommand_28 rfl rfl ?_
  refine g_icmp_ge (tgt := 89) dX9_readCommand_29 (by decide) (by omega) (by omega) (fun c_29 => ?_) (fun c_29 => ?_)
  · refine g_iload_n dX9_readCommand_89 rfl rfl ?_
    refine g_iconst dX9_readCommand_90 ?_
    refine g_icmp_eq (tgt := 100) dX9_readCommand_91 (by decide) (by omega) (by omega) (fun c_91 => ?_) (fun c_91 => ?_)
    · refine g_aload_n dX9_readCommand_100 rfl rfl ?_
      refine g_iload_n dX9_readCommand_101 rfl rfl ?_
      refine g_iconst dX9_readCommand_102 ?_
      refine g_iadd dX9_readCommand_103 ?_
      refine g_put_Script_next dX9_readCommand_104 mw_279 (by assumption) (fun I104 hI104 => ?_)
      exact g_vret dX9_readCommand_107 rfl (by decide) (by decide) (by
      first
      | (obtain rfl : st = -1 := by omega
         rw [sScan_stop (by omega)] at he
         subst hI104
         rw [← he]
         exact ⟨rfl, rfl, rfl, rfl, ⟨hP.1, (g_up_ne1 _ _ (by omega)).trans hP.2.1, (g_up_ne1 _ _ (by omega)).trans hP.2.2.1, hP.2.2.2⟩, hF.trans (cSf.up (by omega)), by simp [g_up]⟩)
      | (rw [sScan_last (by omega) (by omega)] at he
         obtain rfl : i = sEnd T n k := by omega
         subst hI104
         rw [← he]
         exact ⟨rfl, rfl, rfl, rfl, ⟨p97.1, (g_up_ne1 _ _ (by omega)).trans p97.2.1, (g_up_ne1 _ _ (by omega)).trans p97.2.2.1, p97.2.2.2⟩, (hF.trans f97).trans (cSf.up (by omega)), by simp [g_up]⟩))
    · refine g_aload_n dX9_readCommand_94 rfl rfl ?_
      refine g_iload_n dX9_readCommand_95 rfl rfl ?_
      refine g_iload_n dX9_readCommand_96 rfl rfl ?_
      refine g_callVr (i := 7) rfl (gK0 (by assumption)) (g_at7 (by assumption)) (k_C_readWord Y hS (by rw [hA]; exact hT) hP (by omega) st (sEnd T n k) (by omega)) u_X9_readWord mw_897 dX9_readCommand_97 rfl rfl ⟨Nat.le_of_ble_eq_true rfl, Nat.le_of_ble_eq_true rfl⟩ ⟨Nat.le_of_ble_eq_true rfl, Nat.le_of_ble_eq_true rfl⟩ (Nat.le_of_ble_eq_true rfl) (fun v97 I97 A97 R97 h97 => ?_)
      obtain ⟨rfl, p97, f97, n97⟩ := h97
      rw [hA] at p97
      refine g_aload_n dX9_readCommand_100 rfl rfl ?_
      refine g_iload_n dX9_readCommand_101 rfl rfl ?_
      refine g_iconst dX9_readCommand_102 ?_
      refine g_iadd dX9_readCommand_103 ?_
      refine g_put_Script_next dX9_readCommand_104 mw_279 (by assumption) (fun I104 hI104 => ?_)
      exact g_vret dX9_readCommand_107 rfl (by decide) (by decide) (by
      first
      | (obtain rfl : st = -1 := by omega
         rw [sScan_stop (by omega)] at he
         subst hI104
         rw [← he]
         exact ⟨rfl, rfl, rfl, rfl, ⟨hP.1, (g_up_ne1 _ _ (by omega)).trans hP.2.1, (g_up_ne1 _ _ (by omega)).trans hP.2.2.1, hP.2.2.2⟩, hF.trans (cSf.up (by omega)), by simp [g_up]⟩)
      | (rw [sScan_last (by omega) (by omega)] at he
         obtain rfl : i = sEnd T n k := by omega
         subst hI104
         rw [← he]
         exact ⟨rfl, rfl, rfl, rfl, ⟨p97.1, (g_up_ne1 _ _ (by omega)).trans p97.2.1, (g_up_ne1 _ _ (by omega)).trans p97.2.2.1, p97.2.2.2⟩, (hF.trans f97).trans (cSf.up (by omega)), by simp [g_up]⟩))
  · refine g_aload_n dX9_readCommand_32 rfl rfl ?_
    refine g_get_Script_signs dX9_readCommand_33 mw_276 (by assumption) (by assumption) ?_
    refine g_iload_n dX9_readCommand_36 rfl rfl ?_
    refine g_caload dX9_readCommand_37 (by assumption) (by omega) (by omega) ?_
    rw [hA]
    refine g_bipush dX9_readCommand_38 (by decide) ?_
    refine g_icmp_ne (tgt := 47) dX9_readCommand_40 (by decide) (by have := hT i (by omega) (by omega); omega) (by omega) (fun c_40 => ?_) (fun c_40 => ?_)
    · refine g_iconst dX9_readCommand_47 ?_
      refine g_istore dX9_readCommand_48 (by decide) ?_
      refine g_iload dX9_readCommand_50 rfl ?_
      refine g_if_eq (tgt := 71) dX9_readCommand_52 (by decide) (by omega) (fun c_52 => ?_) (fun c_52 => ?_)
      · refine g_iload dX9_readCommand_71 rfl ?_
        refine g_if_ne (tgt := 83) dX9_readCommand_73 (by decide) (by omega) (fun c_73 => ?_) (fun c_73 => ?_)
        · refine g_iinc dX9_readCommand_83 rfl (by decide) ?_
          refine g_goto (tgt := 27) dX9_readCommand_86 (by decide) ?_
          have hne := hS.ne
          first
          | (exfalso; omega)
          | (rw [sScan_on (by omega) (by omega) (by omega)] at he
             exact g_locs (by exact ⟨rfl, rfl, rfl, rfl, trivial⟩) (ih (m - 1) (i + 1) st S (by omega) (by omega) (by omega) (by omega) (by omega) hS hA hP hF he))
          | (rw [sScan_word (by omega) (by omega) (by omega)] at he
             exact g_locs (by exact ⟨rfl, rfl, rfl, rfl, trivial⟩) (ih (m - 1) (i + 1) (-1) (sWord T S st i) (by omega) (by omega) (by omega) (by omega) (by rw [sWord_cnt]; omega) (hS.of f63) ((f63.2.1 sg hne).trans hA) p63 (hF.trans f63) he))
          | (obtain rfl : st = -1 := by omega
             rw [sScan_skip (by omega) (by omega)] at he
             exact g_locs (by exact ⟨rfl, rfl, rfl, rfl, trivial⟩) (ih (m - 1) (i + 1) (-1) S (by omega) (by omega) (by omega) (by omega) (by omega) hS hA hP hF he))
          | (obtain rfl : st = -1 := by omega
             rw [sScan_begin (by omega) (by omega)] at he
             exact g_locs (by exact ⟨rfl, rfl, rfl, rfl, trivial⟩) (ih (m - 1) (i + 1) i S (by omega) (by omega) (by omega) (by omega) (by omega) hS hA hP hF he))
        · refine g_iload_n dX9_readCommand_76 rfl rfl ?_
          refine g_iconst dX9_readCommand_77 ?_
          refine g_icmp_ne (tgt := 83) dX9_readCommand_78 (by decide) (by omega) (by omega) (fun c_78 => ?_) (fun c_78 => ?_)
          · refine g_iinc dX9_readCommand_83 rfl (by decide) ?_
            refine g_goto (tgt := 27) dX9_readCommand_86 (by decide) ?_
            have hne := hS.ne
            first
            | (exfalso; omega)
            | (rw [sScan_on (by omega) (by omega) (by omega)] at he
               exact g_locs (by exact ⟨rfl, rfl, rfl, rfl, trivial⟩) (ih (m - 1) (i + 1) st S (by omega) (by omega) (by omega) (by omega) (by omega) hS hA hP hF he))
            | (rw [sScan_word (by omega) (by omega) (by omega)] at he
               exact g_locs (by exact ⟨rfl, rfl, rfl, rfl, trivial⟩) (ih (m - 1) (i + 1) (-1) (sWord T S st i) (by omega) (by omega) (by omega) (by omega) (by rw [sWord_cnt]; omega) (hS.of f63) ((f63.2.1 sg hne).trans hA) p63 (hF.trans f63) he))
            | (obtain rfl : st = -1 := by omega
               rw [sScan_skip (by omega) (by omega)] at he
               exact g_locs (by exact ⟨rfl, rfl, rfl, rfl, trivial⟩) (ih (m - 1) (i + 1) (-1) S (by omega) (by omega) (by omega) (by omega) (by omega) hS hA hP hF he))
            | (obtain rfl : st = -1 := by omega
               rw [sScan_begin (by omega) (by omega)] at he
               exact g_locs (by exact ⟨rfl, rfl, rfl, rfl, trivial⟩) (ih (m - 1) (i + 1) i S (by omega) (by omega) (by omega) (by omega) (by omega) hS hA hP hF he))
          · refine g_iload_n dX9_readCommand_81 rfl rfl ?_
            refine g_istore_n dX9_readCommand_82 rfl (by decide) ?_
            refine g_iinc dX9_readCommand_83 rfl (by decide) ?_
            refine g_goto (tgt := 27) dX9_readCommand_86 (by decide) ?_
            have hne := hS.ne
            first
            | (exfalso; omega)
            | (rw [sScan_on (by omega) (by omega) (by omega)] at he
               exact g_locs (by exact ⟨rfl, rfl, rfl, rfl, trivial⟩) (ih (m - 1) (i + 1) st S (by omega) (by omega) (by omega) (by omega) (by omega) hS hA hP hF he))
            | (rw [sScan_word (by omega) (by omega) (by omega)] at he
               exact g_locs (by exact ⟨rfl, rfl, rfl, rfl, trivial⟩) (ih (m - 1) (i + 1) (-1) (sWord T S st i) (by omega) (by omega) (by omega) (by omega) (by rw [sWord_cnt]; omega) (hS.of f63) ((f63.2.1 sg hne).trans hA) p63 (hF.trans f63) he))
            | (obtain rfl : st = -1 := by omega
               rw [sScan_skip (by omega) (by omega)] at he
               exact g_locs (by exact ⟨rfl, rfl, rfl, rfl, trivial⟩) (ih (m - 1) (i + 1) (-1) S (by omega) (by omega) (by omega) (by omega) (by omega) hS hA hP hF he))
            | (obtain rfl : st = -1 := by omega
               rw [sScan_begin (by omega) (by omega)] at he
               exact g_locs (by exact ⟨rfl, rfl, rfl, rfl, trivial⟩) (ih (m - 1) (i + 1) i S (by omega) (by omega) (by omega) (by omega) (by omega) hS hA hP hF he))
      · refine g_iload_n dX9_readCommand_55 rfl rfl ?_
        refine g_iconst dX9_readCommand_56 ?_
        refine g_icmp_eq (tgt := 71) dX9_readCommand_57 (by decide) (by omega) (by omega) (fun c_57 => ?_) (fun c_57 => ?_)
        · refine g_iload dX9_readCommand_71 rfl ?_
          refine g_if_ne (tgt := 83) dX9_readCommand_73 (by decide) (by omega) (fun c_73 => ?_) (fun c_73 => ?_)
          · refine g_iinc dX9_readCommand_83 rfl (by decide) ?_
            refine g_goto (tgt := 27) dX9_readCommand_86 (by decide) ?_
            have hne := hS.ne
            first
            | (exfalso; omega)
            | (rw [sScan_on (by omega) (by omega) (by omega)] at he
               exact g_locs (by exact ⟨rfl, rfl, rfl, rfl, trivial⟩) (ih (m - 1) (i + 1) st S (by omega) (by omega) (by omega) (by omega) (by omega) hS hA hP hF he))
            | (rw [sScan_word (by omega) (by omega) (by omega)] at he
               exact g_locs (by exact ⟨rfl, rfl, rfl, rfl, trivial⟩) (ih (m - 1) (i + 1) (-1) (sWord T S st i) (by omega) (by omega) (by omega) (by omega) (by rw [sWord_cnt]; omega) (hS.of f63) ((f63.2.1 sg hne).trans hA) p63 (hF.trans f63) he))
            | (obtain rfl : st = -1 := by omega
               rw [sScan_skip (by omega) (by omega)] at he
               exact g_locs (by exact ⟨rfl, rfl, rfl, rfl, trivial⟩) (ih (m - 1) (i + 1) (-1) S (by omega) (by omega) (by omega) (by omega) (by omega) hS hA hP hF he))
            | (obtain rfl : st = -1 := by omega
               rw [sScan_begin (by omega) (by omega)] at he
               exact g_locs (by exact ⟨rfl, rfl, rfl, rfl, trivial⟩) (ih (m - 1) (i + 1) i S (by omega) (by omega) (by omega) (by omega) (by omega) hS hA hP hF he))
          · refine g_iload_n dX9_readCommand_76 rfl rfl ?_
            refine g_iconst dX9_readCommand_77 ?_
            refine g_icmp_ne (tgt := 83) dX9_readCommand_78 (by decide) (by omega) (by omega) (fun c_78 => ?_) (fun c_78 => ?_)
            · refine g_iinc dX9_readCommand_83 rfl (by decide) ?_
              refine g_goto (tgt := 27) dX9_readCommand_86 (by decide) ?_
              have hne := hS.ne
              first
              | (exfalso; omega)
              | (rw [sScan_on (by omega) (by omega) (by omega)] at he
                 exact g_locs (by exact ⟨rfl, rfl, rfl, rfl, trivial⟩) (ih (m - 1) (i + 1) st S (by omega) (by omega) (by omega) (by omega) (by omega) hS hA hP hF he))
              | (rw [sScan_word (by omega) (by omega) (by omega)] at he
                 exact g_locs (by exact ⟨rfl, rfl, rfl, rfl, trivial⟩) (ih (m - 1) (i + 1) (-1) (sWord T S st i) (by omega) (by omega) (by omega) (by omega) (by rw [sWord_cnt]; omega) (hS.of f63) ((f63.2.1 sg hne).trans hA) p63 (hF.trans f63) he))
              | (obtain rfl : st = -1 := by omega
                 rw [sScan_skip (by omega) (by omega)] at he
                 exact g_locs (by exact ⟨rfl, rfl, rfl, rfl, trivial⟩) (ih (m - 1) (i + 1) (-1) S (by omega) (by omega) (by omega) (by omega) (by omega) hS hA hP hF he))
              | (obtain rfl : st = -1 := by omega
                 rw [sScan_begin (by omega) (by omega)] at he
                 exact g_locs (by exact ⟨rfl, rfl, rfl, rfl, trivial⟩) (ih (m - 1) (i + 1) i S (by omega) (by omega) (by omega) (by omega) (by omega) hS hA hP hF he))
            · refine g_iload_n dX9_readCommand_81 rfl rfl ?_
              refine g_istore_n dX9_readCommand_82 rfl (by decide) ?_
              refine g_iinc dX9_readCommand_83 rfl (by decide) ?_
              refine g_goto (tgt := 27) dX9_readCommand_86 (by decide) ?_
              have hne := hS.ne
              first
              | (exfalso; omega)
              | (rw [sScan_on (by omega) (by omega) (by omega)] at he
                 exact g_locs (by exact ⟨rfl, rfl, rfl, rfl, trivial⟩) (ih (m - 1) (i + 1) st S (by omega) (by omega) (by omega) (by omega) (by omega) hS hA hP hF he))
              | (rw [sScan_word (by omega) (by omega) (by omega)] at he
                 exact g_locs (by exact ⟨rfl, rfl, rfl, rfl, trivial⟩) (ih (m - 1) (i + 1) (-1) (sWord T S st i) (by omega) (by omega) (by omega) (by omega) (by rw [sWord_cnt]; omega) (hS.of f63) ((f63.2.1 sg hne).trans hA) p63 (hF.trans f63) he))
              | (obtain rfl : st = -1 := by omega
                 rw [sScan_skip (by omega) (by omega)] at he
                 exact g_locs (by exact ⟨rfl, rfl, rfl, rfl, trivial⟩) (ih (m - 1) (i + 1) (-1) S (by omega) (by omega) (by omega) (by omega) (by omega) hS hA hP hF he))
              | (obtain rfl : st = -1 := by omega
                 rw [sScan_begin (by omega) (by omega)] at he
                 exact g_locs (by exact ⟨rfl, rfl, rfl, rfl, trivial⟩) (ih (m - 1) (i + 1) i S (by omega) (by omega) (by omega) (by omega) (by omega) hS hA hP hF he))
        · refine g_aload_n dX9_readCommand_60 rfl rfl ?_
          refine g_iload_n dX9_readCommand_61 rfl rfl ?_
          refine g_iload_n dX9_readCommand_62 rfl rfl ?_
          refine g_callVr (i := 7) rfl (gK0 (by assumption)) (g_at7 (by assumption)) (k_C_readWord Y hS (by rw [hA]; exact hT) hP (by omega) st i (by omega)) u_X9_readWord mw_897 dX9_readCommand_63 rfl rfl ⟨Nat.le_of_ble_eq_true rfl, Nat.le_of_ble_eq_true rfl⟩ ⟨Nat.le_of_ble_eq_true rfl, Nat.le_of_ble_eq_true rfl⟩ (Nat.le_of_ble_eq_true rfl) (fun v63 I63 A63 R63 h63 => ?_)
          obtain ⟨rfl, p63, f63, n63⟩ := h63
          rw [hA] at p63
          refine g_iconst dX9_readCommand_66 ?_
          refine g_istore_n dX9_readCommand_67 rfl (by decide) ?_
          refine g_goto (tgt := 83) dX9_readCommand_68 (by decide) ?_
          refine g_iinc dX9_readCommand_83 rfl (by decide) ?_
          refine g_goto (tgt := 27) dX9_readCommand_86 (by decide) ?_
          have hne := hS.ne
          first
          | (exfalso; omega)
          | (rw [sScan_on (by omega) (by omega) (by omega)] at he
             exact g_locs (by exact ⟨rfl, rfl, rfl, rfl, trivial⟩) (ih (m - 1) (i + 1) st S (by omega) (by omega) (by omega) (by omega) (by omega) hS hA hP hF he))
          | (rw [sScan_word (by omega) (by omega) (by omega)] at he
             exact g_locs (by exact ⟨rfl, rfl, rfl, rfl, trivial⟩) (ih (m - 1) (i + 1) (-1) (sWord T S st i) (by omega) (by omega) (by omega) (by omega) (by rw [sWord_cnt]; omega) (hS.of f63) ((f63.2.1 sg hne).trans hA) p63 (hF.trans f63) he))
          | (obtain rfl : st = -1 := by omega
             rw [sScan_skip (by omega) (by omega)] at he
             exact g_locs (by exact ⟨rfl, rfl, rfl, rfl, trivial⟩) (ih (m - 1) (i + 1) (-1) S (by omega) (by omega) (by omega) (by omega) (by omega) hS hA hP hF he))
          | (obtain rfl : st = -1 := by omega
             rw [sScan_begin (by omega) (by omega)] at he
             exact g_locs (by exact ⟨rfl, rfl, rfl, rfl, trivial⟩) (ih (m - 1) (i + 1) i S (by omega) (by omega) (by omega) (by omega) (by omega) hS hA hP hF he))
    · refine g_iconst dX9_readCommand_43 ?_
      refine g_goto (tgt := 48) dX9_readCommand_44 (by decide) ?_
      refine g_istore dX9_readCommand_48 (by decide) ?_
      refine g_iload dX9_readCommand_50 rfl ?_
      refine g_if_eq (tgt := 71) dX9_readCommand_52 (by decide) (by omega) (fun c_52 => ?_) (fun c_52 => ?_)
      · refine g_iload dX9_readCommand_71 rfl ?_
        refine g_if_ne (tgt := 83) dX9_readCommand_73 (by decide) (by omega) (fun c_73 => ?_) (fun c_73 => ?_)
        · refine g_iinc dX9_readCommand_83 rfl (by decide) ?_
          refine g_goto (tgt := 27) dX9_readCommand_86 (by decide) ?_
          have hne := hS.ne
          first
          | (exfalso; omega)
          | (rw [sScan_on (by omega) (by omega) (by omega)] at he
             exact g_locs (by exact ⟨rfl, rfl, rfl, rfl, trivial⟩) (ih (m - 1) (i + 1) st S (by omega) (by omega) (by omega) (by omega) (by omega) hS hA hP hF he))
          | (rw [sScan_word (by omega) (by omega) (by omega)] at he
             exact g_locs (by exact ⟨rfl, rfl, rfl, rfl, trivial⟩) (ih (m - 1) (i + 1) (-1) (sWord T S st i) (by omega) (by omega) (by omega) (by omega) (by rw [sWord_cnt]; omega) (hS.of f63) ((f63.2.1 sg hne).trans hA) p63 (hF.trans f63) he))
          | (obtain rfl : st = -1 := by omega
             rw [sScan_skip (by omega) (by omega)] at he
             exact g_locs (by exact ⟨rfl, rfl, rfl, rfl, trivial⟩) (ih (m - 1) (i + 1) (-1) S (by omega) (by omega) (by omega) (by omega) (by omega) hS hA hP hF he))
          | (obtain rfl : st = -1 := by omega
             rw [sScan_begin (by omega) (by omega)] at he
             exact g_locs (by exact ⟨rfl, rfl, rfl, rfl, trivial⟩) (ih (m - 1) (i + 1) i S (by omega) (by omega) (by omega) (by omega) (by omega) hS hA hP hF he))
        · refine g_iload_n dX9_readCommand_76 rfl rfl ?_
          refine g_iconst dX9_readCommand_77 ?_
          refine g_icmp_ne (tgt := 83) dX9_readCommand_78 (by decide) (by omega) (by omega) (fun c_78 => ?_) (fun c_78 => ?_)
          · refine g_iinc dX9_readCommand_83 rfl (by decide) ?_
            refine g_goto (tgt := 27) dX9_readCommand_86 (by decide) ?_
            have hne := hS.ne
            first
            | (exfalso; omega)
            | (rw [sScan_on (by omega) (by omega) (by omega)] at he
               exact g_locs (by exact ⟨rfl, rfl, rfl, rfl, trivial⟩) (ih (m - 1) (i + 1) st S (by omega) (by omega) (by omega) (by omega) (by omega) hS hA hP hF he))
            | (rw [sScan_word (by omega) (by omega) (by omega)] at he
               exact g_locs (by exact ⟨rfl, rfl, rfl, rfl, trivial⟩) (ih (m - 1) (i + 1) (-1) (sWord T S st i) (by omega) (by omega) (by omega) (by omega) (by rw [sWord_cnt]; omega) (hS.of f63) ((f63.2.1 sg hne).trans hA) p63 (hF.trans f63) he))
            | (obtain rfl : st = -1 := by omega
               rw [sScan_skip (by omega) (by omega)] at he
               exact g_locs (by exact ⟨rfl, rfl, rfl, rfl, trivial⟩) (ih (m - 1) (i + 1) (-1) S (by omega) (by omega) (by omega) (by omega) (by omega) hS hA hP hF he))
            | (obtain rfl : st = -1 := by omega
               rw [sScan_begin (by omega) (by omega)] at he
               exact g_locs (by exact ⟨rfl, rfl, rfl, rfl, trivial⟩) (ih (m - 1) (i + 1) i S (by omega) (by omega) (by omega) (by omega) (by omega) hS hA hP hF he))
          · refine g_iload_n dX9_readCommand_81 rfl rfl ?_
            refine g_istore_n dX9_readCommand_82 rfl (by decide) ?_
            refine g_iinc dX9_readCommand_83 rfl (by decide) ?_
            refine g_goto (tgt := 27) dX9_readCommand_86 (by decide) ?_
            have hne := hS.ne
            first
            | (exfalso; omega)
            | (rw [sScan_on (by omega) (by omega) (by omega)] at he
               exact g_locs (by exact ⟨rfl, rfl, rfl, rfl, trivial⟩) (ih (m - 1) (i + 1) st S (by omega) (by omega) (by omega) (by omega) (by omega) hS hA hP hF he))
            | (rw [sScan_word (by omega) (by omega) (by omega)] at he
               exact g_locs (by exact ⟨rfl, rfl, rfl, rfl, trivial⟩) (ih (m - 1) (i + 1) (-1) (sWord T S st i) (by omega) (by omega) (by omega) (by omega) (by rw [sWord_cnt]; omega) (hS.of f63) ((f63.2.1 sg hne).trans hA) p63 (hF.trans f63) he))
            | (obtain rfl : st = -1 := by omega
               rw [sScan_skip (by omega) (by omega)] at he
               exact g_locs (by exact ⟨rfl, rfl, rfl, rfl, trivial⟩) (ih (m - 1) (i + 1) (-1) S (by omega) (by omega) (by omega) (by omega) (by omega) hS hA hP hF he))
            | (obtain rfl : st = -1 := by omega
               rw [sScan_begin (by omega) (by omega)] at he
               exact g_locs (by exact ⟨rfl, rfl, rfl, rfl, trivial⟩) (ih (m - 1) (i + 1) i S (by omega) (by omega) (by omega) (by omega) (by omega) hS hA hP hF he))
      · refine g_iload_n dX9_readCommand_55 rfl rfl ?_
        refine g_iconst dX9_readCommand_56 ?_
        refine g_icmp_eq (tgt := 71) dX9_readCommand_57 (by decide) (by omega) (by omega) (fun c_57 => ?_) (fun c_57 => ?_)
        · refine g_iload dX9_readCommand_71 rfl ?_
          refine g_if_ne (tgt := 83) dX9_readCommand_73 (by decide) (by omega) (fun c_73 => ?_) (fun c_73 => ?_)
          · refine g_iinc dX9_readCommand_83 rfl (by decide) ?_
            refine g_goto (tgt := 27) dX9_readCommand_86 (by decide) ?_
            have hne := hS.ne
            first
            | (exfalso; omega)
            | (rw [sScan_on (by omega) (by omega) (by omega)] at he
               exact g_locs (by exact ⟨rfl, rfl, rfl, rfl, trivial⟩) (ih (m - 1) (i + 1) st S (by omega) (by omega) (by omega) (by omega) (by omega) hS hA hP hF he))
            | (rw [sScan_word (by omega) (by omega) (by omega)] at he
               exact g_locs (by exact ⟨rfl, rfl, rfl, rfl, trivial⟩) (ih (m - 1) (i + 1) (-1) (sWord T S st i) (by omega) (by omega) (by omega) (by omega) (by rw [sWord_cnt]; omega) (hS.of f63) ((f63.2.1 sg hne).trans hA) p63 (hF.trans f63) he))
            | (obtain rfl : st = -1 := by omega
               rw [sScan_skip (by omega) (by omega)] at he
               exact g_locs (by exact ⟨rfl, rfl, rfl, rfl, trivial⟩) (ih (m - 1) (i + 1) (-1) S (by omega) (by omega) (by omega) (by omega) (by omega) hS hA hP hF he))
            | (obtain rfl : st = -1 := by omega
               rw [sScan_begin (by omega) (by omega)] at he
               exact g_locs (by exact ⟨rfl, rfl, rfl, rfl, trivial⟩) (ih (m - 1) (i + 1) i S (by omega) (by omega) (by omega) (by omega) (by omega) hS hA hP hF he))
          · refine g_iload_n dX9_readCommand_76 rfl rfl ?_
            refine g_iconst dX9_readCommand_77 ?_
            refine g_icmp_ne (tgt := 83) dX9_readCommand_78 (by decide) (by omega) (by omega) (fun c_78 => ?_) (fun c_78 => ?_)
            · refine g_iinc dX9_readCommand_83 rfl (by decide) ?_
              refine g_goto (tgt := 27) dX9_readCommand_86 (by decide) ?_
              have hne := hS.ne
              first
              | (exfalso; omega)
              | (rw [sScan_on (by omega) (by omega) (by omega)] at he
                 exact g_locs (by exact ⟨rfl, rfl, rfl, rfl, trivial⟩) (ih (m - 1) (i + 1) st S (by omega) (by omega) (by omega) (by omega) (by omega) hS hA hP hF he))
              | (rw [sScan_word (by omega) (by omega) (by omega)] at he
                 exact g_locs (by exact ⟨rfl, rfl, rfl, rfl, trivial⟩) (ih (m - 1) (i + 1) (-1) (sWord T S st i) (by omega) (by omega) (by omega) (by omega) (by rw [sWord_cnt]; omega) (hS.of f63) ((f63.2.1 sg hne).trans hA) p63 (hF.trans f63) he))
              | (obtain rfl : st = -1 := by omega
                 rw [sScan_skip (by omega) (by omega)] at he
                 exact g_locs (by exact ⟨rfl, rfl, rfl, rfl, trivial⟩) (ih (m - 1) (i + 1) (-1) S (by omega) (by omega) (by omega) (by omega) (by omega) hS hA hP hF he))
              | (obtain rfl : st = -1 := by omega
                 rw [sScan_begin (by omega) (by omega)] at he
                 exact g_locs (by exact ⟨rfl, rfl, rfl, rfl, trivial⟩) (ih (m - 1) (i + 1) i S (by omega) (by omega) (by omega) (by omega) (by omega) hS hA hP hF he))
            · refine g_iload_n dX9_readCommand_81 rfl rfl ?_
              refine g_istore_n dX9_readCommand_82 rfl (by decide) ?_
              refine g_iinc dX9_readCommand_83 rfl (by decide) ?_
              refine g_goto (tgt := 27) dX9_readCommand_86 (by decide) ?_
              have hne := hS.ne
              first
              | (exfalso; omega)
              | (rw [sScan_on (by omega) (by omega) (by omega)] at he
                 exact g_locs (by exact ⟨rfl, rfl, rfl, rfl, trivial⟩) (ih (m - 1) (i + 1) st S (by omega) (by omega) (by omega) (by omega) (by omega) hS hA hP hF he))
              | (rw [sScan_word (by omega) (by omega) (by omega)] at he
                 exact g_locs (by exact ⟨rfl, rfl, rfl, rfl, trivial⟩) (ih (m - 1) (i + 1) (-1) (sWord T S st i) (by omega) (by omega) (by omega) (by omega) (by rw [sWord_cnt]; omega) (hS.of f63) ((f63.2.1 sg hne).trans hA) p63 (hF.trans f63) he))
              | (obtain rfl : st = -1 := by omega
                 rw [sScan_skip (by omega) (by omega)] at he
                 exact g_locs (by exact ⟨rfl, rfl, rfl, rfl, trivial⟩) (ih (m - 1) (i + 1) (-1) S (by omega) (by omega) (by omega) (by omega) (by omega) hS hA hP hF he))
              | (obtain rfl : st = -1 := by omega
                 rw [sScan_begin (by omega) (by omega)] at he
                 exact g_locs (by exact ⟨rfl, rfl, rfl, rfl, trivial⟩) (ih (m - 1) (i + 1) i S (by omega) (by omega) (by omega) (by omega) (by omega) hS hA hP hF he))
        · refine g_aload_n dX9_readCommand_60 rfl rfl ?_
          refine g_iload_n dX9_readCommand_61 rfl rfl ?_
          refine g_iload_n dX9_readCommand_62 rfl rfl ?_
          refine g_callVr (i := 7) rfl (gK0 (by assumption)) (g_at7 (by assumption)) (k_C_readWord Y hS (by rw [hA]; exact hT) hP (by omega) st i (by omega)) u_X9_readWord mw_897 dX9_readCommand_63 rfl rfl ⟨Nat.le_of_ble_eq_true rfl, Nat.le_of_ble_eq_true rfl⟩ ⟨Nat.le_of_ble_eq_true rfl, Nat.le_of_ble_eq_true rfl⟩ (Nat.le_of_ble_eq_true rfl) (fun v63 I63 A63 R63 h63 => ?_)
          obtain ⟨rfl, p63, f63, n63⟩ := h63
          rw [hA] at p63
          refine g_iconst dX9_readCommand_66 ?_
          refine g_istore_n dX9_readCommand_67 rfl (by decide) ?_
          refine g_goto (tgt := 83) dX9_readCommand_68 (by decide) ?_
          refine g_iinc dX9_readCommand_83 rfl (by decide) ?_
          refine g_goto (tgt := 27) dX9_readCommand_86 (by decide) ?_
          have hne := hS.ne
          first
          | (exfalso; omega)
          | (rw [sScan_on (by omega) (by omega) (by omega)] at he
             exact g_locs (by exact ⟨rfl, rfl, rfl, rfl, trivial⟩) (ih (m - 1) (i + 1) st S (by omega) (by omega) (by omega) (by omega) (by omega) hS hA hP hF he))
          | (rw [sScan_word (by omega) (by omega) (by omega)] at he
             exact g_locs (by exact ⟨rfl, rfl, rfl, rfl, trivial⟩) (ih (m - 1) (i + 1) (-1) (sWord T S st i) (by omega) (by omega) (by omega) (by omega) (by rw [sWord_cnt]; omega) (hS.of f63) ((f63.2.1 sg hne).trans hA) p63 (hF.trans f63) he))
          | (obtain rfl : st = -1 := by omega
             rw [sScan_skip (by omega) (by omega)] at he
             exact g_locs (by exact ⟨rfl, rfl, rfl, rfl, trivial⟩) (ih (m - 1) (i + 1) (-1) S (by omega) (by omega) (by omega) (by omega) (by omega) hS hA hP hF he))
          | (obtain rfl : st = -1 := by omega
             rw [sScan_begin (by omega) (by omega)] at he
             exact g_locs (by exact ⟨rfl, rfl, rfl, rfl, trivial⟩) (ih (m - 1) (i + 1) i S (by omega) (by omega) (by omega) (by omega) (by omega) hS hA hP hF he))
set_option maxHeartbeats 1000000 in
set_option maxRecDepth 100000 in
theorem k_C_readCommand (Y : gEnv) {K N : Nat → Nat} {I : Nat → Nat → Int} {A : Nat → Int → Int} {R : Nat → Nat → Option Nat} {Q : Nat → Int → Option Nat} {sc sg ar : Nat} (hS : cS K N R sc sg ar) (hT : ∀ j, 0 ≤ j → j < 100 → 0 ≤ A sg j ∧ A sg j ≤ 126) (hn : 0 ≤ I 141 sc ∧ I 141 sc ≤ 100) (hk : 0 ≤ I 142 sc ∧ I 142 sc ≤ I 141 sc) : gC Y yX9_readCommand cX9_readCommand 5 none ({ frames := 7, cells := 0, slots := 0, locals := 210 } : Room) [.ref sc] K N I A R Q (g_wR K N Q (fun v I' A' R' => v = none ∧ cPs Y I' A' R' sc ar (sCmd (A sg) (I 141 sc) (I 142 sc)) ∧ cSf I I' A A' R R' sc ar ∧ I' 142 sc = sEnd (A sg) (I 141 sc) (I 142 sc) + 1)) gno := by
  refine gC_of (by decide) (Nat.le_of_ble_eq_true rfl) (fun X => ?_)
  obtain ⟨hKc, hRg, hKg, hNg, hRa, hKa, hNa⟩ := id hS
  refine g_aload_n dX9_readCommand_0 rfl rfl ?_
  refine g_null dX9_readCommand_1 ?_
  refine g_put_verbR (z := none) dX9_readCommand_2 mw_283 (by assumption) (fun R2 hR2 => ?_)
  refine g_aload_n dX9_readCommand_5 rfl rfl ?_
  refine g_iconst dX9_readCommand_6 ?_
  refine g_put_Script_words dX9_readCommand_7 mw_280 (by assumption) (fun I7 hI7 => ?_)
  refine g_aload_n dX9_readCommand_10 rfl rfl ?_
  refine g_iconst dX9_readCommand_11 ?_
  refine g_put_Script_hasOnlyNumbers  (by omega) dX9_readCommand_12 mw_281 (by assumption) (fun I12 hI12 => ?_)
  refine g_iconst dX9_readCommand_15 ?_
  refine g_istore_n dX9_readCommand_16 rfl (by decide) ?_
  have f12 : cSf I I12 A A R R2 sc ar := by
    subst hI12 hI7 hR2
    exact (cSf.upR.trans (cSf.up (by omega))).trans (cSf.up (by omega))
  have l12 : I12 141 sc = I 141 sc := f12.1 _ _ (by omega)
  have x12 : I12 142 sc = I 142 sc := by subst hI12 hI7; rw [g_up_ne1 _ _ (by omega), g_up_ne1 _ _ (by omega)]
  have p12 : cPs Y I12 A R2 sc ar sS0 := by
    subst hI12 hI7 hR2
    exact ⟨by simp [g_up]; rfl, by rw [g_up_ne1 _ _ (by omega)]; simp [g_up]; rfl, by simp [g_up]; rfl, fun j a b c => absurd c (by show ¬ j < 0 - 1; omega)⟩
  refine g_aload_n dX9_readCommand_17 rfl rfl ?_
  refine g_callVp (i := 7) rfl (gK0 (by assumption)) (g_at7 (by assumption)) (k_C_endOfCommand Y (hS.of f12) hT (by omega) (by omega)) u_X9_endOfCommand mw_893 dX9_readCommand_18 rfl rfl ⟨Nat.le_of_ble_eq_true rfl, Nat.le_of_ble_eq_true rfl⟩ ⟨Nat.le_of_ble_eq_true rfl, Nat.le_of_ble_eq_true rfl⟩ (Nat.le_of_ble_eq_true rfl) ?_
  rw [l12, x12]
  have her := sEnd_range (T := A sg) (n := I 141 sc) (b := I 142 sc) (by omega)
  refine g_istore_n dX9_readCommand_21 rfl (by decide) ?_
  refine g_aload_n dX9_readCommand_22 rfl rfl ?_
  refine g_get_Script_next dX9_readCommand_23 mw_279 (by assumption) ?_
  rw [x12]
  refine g_istore_n dX9_readCommand_26 rfl (by decide) ?_
  exact g_locs (by exact ⟨rfl, rfl, rfl, rfl, trivial⟩) (lp_C_readCommand (I0 := I) (A0 := A) (R0 := R) (T := A sg) hT (I 141 sc) (I 142 sc) (by omega) _ (sEnd (A sg) (I 141 sc) (I 142 sc) - I 142 sc).toNat (I 142 sc) (-1) sS0 (Nat.lt_succ_self _) (by omega) (by omega) (Or.inl rfl) (by rw [if_pos rfl]; show (0 : Int) ≤ 0 ∧ (0 : Int) + 0 + _ ≤ 100; omega) (hS.of f12) rfl p12 f12 rfl)
theorem sVr_some {Y : gEnv} {v : Int} (h : v ≠ 0) : sVr Y v = some (Y.2.2.1 (30 + (v - 1).toNat)) := by rw [sVr, if_neg h]
theorem sVr_eq {Y : gEnv} {v : Int} {b : Nat} (h : sVr Y v = some b) : v ≠ 0 ∧ b = Y.2.2.1 (30 + (v - 1).toNat) := by
  by_cases e : v = 0
  · rw [sVr, if_pos e] at h; cases h
  · rw [sVr, if_neg e] at h; exact ⟨e, (Option.some.inj h).symm⟩
theorem sVr_no {Y : gEnv} {v : Int} (h : sVr Y v = none) : v = 0 := by
  by_cases e : v = 0
  · exact e
  · rw [sVr, if_neg e] at h; cases h
set_option maxHeartbeats 1000000 in
set_option maxRecDepth 100000 in
theorem k_C_kindOfError (Y : gEnv) {K N : Nat → Nat} {I : Nat → Nat → Int} {A : Nat → Int → Int} {R : Nat → Nat → Option Nat} {Q : Nat → Int → Option Nat} {sc sg ar : Nat} (hS : cS K N R sc sg ar) {S : sSt} (hP : cPs Y I A R sc ar S) (hI : sInv S) (hs : S.2.1 ≤ 101) : gC Y yX9_kindOfError cX9_kindOfError 1 (some .int) ({ frames := 0, cells := 0, slots := 0, locals := 0 } : Room) [.ref sc] K N I A R Q (g_pu (some (vi (sKind S))) K N I A R Q) gno := by
  refine gC_of (by decide) (Nat.le_of_ble_eq_true rfl) (fun X => ?_)
  obtain ⟨hKc, hRg, hKg, hNg, hRa, hKa, hNa⟩ := id hS
  obtain ⟨p1, p2, p3, p4⟩ := hP
  obtain ⟨i1, i2, i3, i4, i5, i6⟩ := hI
  refine g_aload_n dX9_kindOfError_0 rfl rfl ?_
  refine g_get_verbR dX9_kindOfError_1 mw_283 (by assumption) ?_
  rw [p1]
  refine g_ifnonnull (tgt := 9) dX9_kindOfError_4 (by decide) (fun b_4 c_4 => ?_) (fun c_4 => ?_)
  · obtain ⟨q0, rfl⟩ := sVr_eq (by assumption)
    refine g_aload_n dX9_kindOfError_9 rfl rfl ?_
    refine g_get_Script_words dX9_kindOfError_10 mw_280 (by assumption) ?_
    refine g_iconst dX9_kindOfError_13 ?_
    refine g_isub dX9_kindOfError_14 ?_
    refine g_aload_n dX9_kindOfError_15 rfl rfl ?_
    refine g_get_verbR dX9_kindOfError_16 mw_283 (by assumption) ?_
    rw [p1, sVr_some q0]
    refine g_verbArgs (v := (sNeed S.1)) dX9_kindOfError_19 mw_1032 (by omega) (by
      have q1 : S.1 = 1 ∨ S.1 = 2 ∨ S.1 = 3 ∨ S.1 = 4 ∨ S.1 = 5 := by omega
      rcases q1 with q1 | q1 | q1 | q1 | q1 <;> rw [q1] <;> rfl) ?_
    refine g_icmp_eq (tgt := 27) dX9_kindOfError_22 (by decide) (by omega) (by unfold sNeed; split <;> (try split) <;> (try split) <;> omega) (fun c_22 => ?_) (fun c_22 => ?_)
    · refine g_aload_n dX9_kindOfError_27 rfl rfl ?_
      refine g_get_Script_hasOnlyNumbers dX9_kindOfError_28 mw_281 (by assumption) ?_
      refine g_if_eq (tgt := 38) dX9_kindOfError_31 (by decide) (by omega) (fun c_31 => ?_) (fun c_31 => ?_)
      · refine g_iconst dX9_kindOfError_38 ?_
        exact g_iret dX9_kindOfError_39 rfl (by decide) (by decide) (g_pu_i (by rw [sKind, if_neg q0, if_neg (by omega)]; first | (rw [if_pos (by omega)]; done) | (rw [if_neg (by omega)]; done)) _ _ _ _ _ _)
      · refine g_iconst dX9_kindOfError_34 ?_
        refine g_goto (tgt := 39) dX9_kindOfError_35 (by decide) ?_
        exact g_iret dX9_kindOfError_39 rfl (by decide) (by decide) (g_pu_i (by rw [sKind, if_neg q0, if_neg (by omega)]; first | (rw [if_pos (by omega)]; done) | (rw [if_neg (by omega)]; done)) _ _ _ _ _ _)
    · refine g_iconst dX9_kindOfError_25 ?_
      exact g_iret dX9_kindOfError_26 rfl (by decide) (by decide) (g_pu_i (by rw [sKind, if_neg q0, if_pos (by omega)]) _ _ _ _ _ _)
  · refine g_iconst dX9_kindOfError_7 ?_
    have q0 := sVr_no (by assumption)
    exact g_iret dX9_kindOfError_8 rfl (by decide) (by decide) (g_pu_i (by rw [sKind, if_pos q0]) _ _ _ _ _ _)
set_option maxHeartbeats 1000000 in
set_option maxRecDepth 100000 in
theorem k_C_rewind (Y : gEnv) {K N : Nat → Nat} {I : Nat → Nat → Int} {A : Nat → Int → Int} {R : Nat → Nat → Option Nat} {Q : Nat → Int → Option Nat} {sc sg ar : Nat} (hS : cS K N R sc sg ar) : gC Y yX9_rewind cX9_rewind 1 none ({ frames := 0, cells := 0, slots := 0, locals := 0 } : Room) [.ref sc] K N I A R Q (g_wr K N R Q (fun v I' A' => v = none ∧ I' = g_up I 142 sc 0 ∧ A' = A)) gno := by
  refine gC_of (by decide) (Nat.le_of_ble_eq_true rfl) (fun X => ?_)
  obtain ⟨hKc, hRg, hKg, hNg, hRa, hKa, hNa⟩ := id hS
  refine g_aload_n dX9_rewind_0 rfl rfl ?_
  refine g_iconst dX9_rewind_1 ?_
  refine g_put_Script_next dX9_rewind_2 mw_279 (by assumption) (fun I2 hI2 => ?_)
  exact g_vret dX9_rewind_5 rfl (by decide) (by decide) ⟨rfl, rfl, rfl, rfl, rfl, hI2, rfl⟩
set_option maxHeartbeats 1000000 in
set_option maxRecDepth 100000 in
theorem lp_C_findError {Y : gEnv} {X : gCtx} {K N : Nat → Nat} {I : Nat → Nat → Int} {A : Nat → Int → Int} {R : Nat → Nat → Option Nat} {Q : Nat → Int → Option Nat} {I0 : Nat → Nat → Int} {A0 : Nat → Int → Int} {R0 : Nat → Nat → Option Nat} {T : Int → Int} {sc sg ar : Nat} (hT : ∀ j, 0 ≤ j → j < 100 → 0 ≤ T j ∧ T j ≤ 126) (n : Int) (hn : 0 ≤ n ∧ n ≤ 100) : ∀ (f m : Nat) (s k : Int), m < f → 0 ≤ k ∧ k ≤ n + 1 → n + 1 - k ≤ m → 0 ≤ s ∧ s ≤ 101 → s + sCm T n k = sCm T n 0 → cS K N R sc sg ar → A sg = T → I 142 sc = k → I 141 sc = n → cSf I0 I A0 A R0 R sc ar → sErr T n m k s = sErr T n 101 0 0 → gJ Y X yX9_findError cX9_findError 4 (some .int) ({ frames := 8, cells := 0, slots := 0, locals := 234 } : Room) (g_wR K N Q (fun v I' A' R' => v = some (vi (sErr T n 101 0 0)) ∧ cSf I0 I' A0 A' R0 R' sc ar)) gno 0 0 11 [(0, .ref sc), (1, vi (sCm T n 0)), (2, vi s)] [] K N I A R Q := by
  intro f
  induction f generalizing I A R with
  | zero => intro m s k h; omega
  | succ f ih =>
  intro m s k hf hk hm hs hc hS hA hkI hnI hF he
  have hcr := sCm_range (T := T) (n := n) (k := k) (by omega)
  have hc0 := sCm_range (T := T) (n := n) (k := 0) (by omega)
  obtain ⟨hKc, hRg, hKg, hNg, hRa, hKa, hNa⟩ := id hS
  refine g_iload_n dX9_findError_11 rfl rfl ?_
  refine g_iload_n dX9_findError_12 rfl rfl ?_
  refine g_icmp_ge (tgt := 42) dX9_findError_13 (by decide) (by omega) (by omega) (fun c_13 => ?_) (fun c_13 => ?_)
  · refine g_iconst dX9_findError_42 ?_
    exact g_iret dX9_findError_43 rfl (by decide) (by decide) ⟨rfl, rfl, rfl, by
      have hkn : ¬ k ≤ n := fun e => by
        have := sCm_next (T := T) e
        have := sCm_range (T := T) (n := n) (k := sEnd T n k + 1) (by have := sEnd_range (T := T) e; omega)
        omega
      rw [← he, sErr_out hkn], hF⟩
  · have hkn : k ≤ n := by
      by_cases e : k ≤ n
      · exact e
      · rw [sCm_out e] at hc; omega
    have hcn := sCm_next (T := T) hkn
    have hci := sCmd_inv (T := T) (n := n) (b := k) (by omega)
    have hkr := sKind_range (sCmd T n k)
    have her := sEnd_range (T := T) (n := n) (b := k) (by omega)
    refine g_aload_n dX9_findError_16 rfl rfl ?_
    refine g_callVr (i := 7) rfl (gK0 (by assumption)) (g_at7 (by assumption)) (k_C_readCommand Y hS (by rw [hA]; exact hT) (by omega) (by omega)) u_X9_readCommand mw_889 dX9_findError_17 rfl rfl ⟨Nat.le_of_ble_eq_true rfl, Nat.le_of_ble_eq_true rfl⟩ ⟨Nat.le_of_ble_eq_true rfl, Nat.le_of_ble_eq_true rfl⟩ (Nat.le_of_ble_eq_true rfl) (fun v17 I17 A17 R17 h17 => ?_)
    obtain ⟨rfl, p17, f17, n17⟩ := h17
    rw [hA, hnI, hkI] at p17 n17
    have hS2 := hS.of f17
    have hA2 := (f17.2.1 sg hS.ne).trans hA
    have hF2 := hF.trans f17
    have hn2 : I17 141 sc = n := (f17.1 141 sc (by omega)).trans hnI
    refine g_aload_n dX9_findError_20 rfl rfl ?_
    refine g_callVp (i := 7) rfl (gK0 (by assumption)) (g_at7 (by assumption)) (k_C_kindOfError Y hS2 p17 hci.1 (by omega)) u_X9_kindOfError mw_967 dX9_findError_21 rfl rfl ⟨Nat.le_of_ble_eq_true rfl, Nat.le_of_ble_eq_true rfl⟩ ⟨Nat.le_of_ble_eq_true rfl, Nat.le_of_ble_eq_true rfl⟩ (Nat.le_of_ble_eq_true rfl) ?_
    refine g_istore_n dX9_findError_24 rfl (by decide) ?_
    refine g_iload_n dX9_findError_25 rfl rfl ?_
    refine g_if_eq (tgt := 36) dX9_findError_26 (by decide) (by omega) (fun c_26 => ?_) (fun c_26 => ?_)
    · refine g_iinc dX9_findError_36 rfl (by decide) ?_
      refine g_goto (tgt := 11) dX9_findError_39 (by decide) ?_
      rw [sErr_step (by omega) (by omega) (by omega)] at he
      exact g_locs (by exact ⟨rfl, rfl, rfl, trivial⟩) (ih (m - 1) (s + 1) (sEnd T n k + 1) (by omega) (by omega) (by omega) (by omega) (by omega) hS2 hA2 n17 hn2 hF2 he)
    · refine g_bipush dX9_findError_29 (by decide) ?_
      refine g_iload_n dX9_findError_31 rfl rfl ?_
      refine g_imul dX9_findError_32 ?_
      refine g_iload_n dX9_findError_33 rfl rfl ?_
      refine g_iadd dX9_findError_34 ?_
      exact g_iret dX9_findError_35 rfl (by decide) (by decide) ⟨rfl, rfl, rfl, by rw [← he, sErr_bad (by omega) (by omega) (by omega)], hF2⟩
set_option maxHeartbeats 1000000 in
set_option maxRecDepth 100000 in
theorem k_C_findError (Y : gEnv) {K N : Nat → Nat} {I : Nat → Nat → Int} {A : Nat → Int → Int} {R : Nat → Nat → Option Nat} {Q : Nat → Int → Option Nat} {sc sg ar : Nat} (hS : cS K N R sc sg ar) (hT : ∀ j, 0 ≤ j → j < 100 → 0 ≤ A sg j ∧ A sg j ≤ 126) (hn : 0 ≤ I 141 sc ∧ I 141 sc ≤ 100) : gC Y yX9_findError cX9_findError 4 (some .int) ({ frames := 8, cells := 0, slots := 0, locals := 234 } : Room) [.ref sc] K N I A R Q (g_wR K N Q (fun v I' A' R' => v = some (vi (sErr (A sg) (I 141 sc) 101 0 0)) ∧ cSf I I' A A' R R' sc ar)) gno := by
  refine gC_of (by decide) (Nat.le_of_ble_eq_true rfl) (fun X => ?_)
  obtain ⟨hKc, hRg, hKg, hNg, hRa, hKa, hNa⟩ := id hS
  refine g_aload_n dX9_findError_0 rfl rfl ?_
  refine g_callVp (i := 7) rfl (gK0 (by assumption)) (g_at7 (by assumption)) (k_C_countCommands Y hS hT hn) u_X9_countCommands mw_881 dX9_findError_1 rfl rfl ⟨Nat.le_of_ble_eq_true rfl, Nat.le_of_ble_eq_true rfl⟩ ⟨Nat.le_of_ble_eq_true rfl, Nat.le_of_ble_eq_true rfl⟩ (Nat.le_of_ble_eq_true rfl) ?_
  refine g_istore_n dX9_findError_4 rfl (by decide) ?_
  refine g_aload_n dX9_findError_5 rfl rfl ?_
  refine g_callVw (i := 7) rfl (gK0 (by assumption)) (g_at7 (by assumption)) (k_C_rewind Y hS) u_X9_rewind mw_885 dX9_findError_6 rfl rfl ⟨Nat.le_of_ble_eq_true rfl, Nat.le_of_ble_eq_true rfl⟩ ⟨Nat.le_of_ble_eq_true rfl, Nat.le_of_ble_eq_true rfl⟩ (Nat.le_of_ble_eq_true rfl) (fun v6 I6 A6 h6 => ?_)
  obtain ⟨rfl, i6, a6⟩ := h6
  obtain rfl := a6.symm
  have f6 : cSf I I6 A A R R sc ar := by rw [i6]; exact cSf.up (by omega)
  refine g_iconst dX9_findError_9 ?_
  refine g_istore_n dX9_findError_10 rfl (by decide) ?_
  exact g_locs (by exact ⟨rfl, rfl, rfl, trivial⟩) (lp_C_findError (I0 := I) (A0 := A) (R0 := R) (T := A sg) hT (I 141 sc) hn _ 101 0 0 (Nat.lt_succ_self _) (by omega) (by omega) (by omega) (by omega) hS rfl (by rw [i6]; simp [g_up]) (f6.1 141 sc (by omega)) f6 rfl)
