def g_wR (K N : Nat → Nat) (Q : Nat → Int → Option Nat) (P : Option Value → (Nat → Nat → Int) → (Nat → Int → Int) → (Nat → Nat → Option Nat) → Prop) : gPo := fun v K' N' I' A' R' Q' => K' = K ∧ N' = N ∧ Q' = Q ∧ P v I' A' R'
theorem g_get_verbR {Y : gEnv} {X : gCtx} {y : MethodName} {cc : ByteArray} {nL : Nat} {ret : Option FieldType} {rm : Room} {po : gPo} {px : gPx} {k n pc : Nat} {L : List (Nat × Value)} {st : List Value} {K N : Nat → Nat} {I : Nat → Nat → Int} {A : Nat → Int → Int} {R : Nat → Nat → Option Nat} {Q : Nat → Int → Option Nat} {idx q : Nat} (hd : decode cc pc = .ok (.getfield idx, 3)) (hw : Cond.fieldLink y.cls idx "TileFactory$Script" "verb" "LTileFactory$Verb;" ∈ lw_good) (hK : K q = 8) (kk : gJ Y X y cc nL ret rm po px k n (pc + 3) L (va_rf (R 146 q) :: st) K N I A R Q) : gJ Y X y cc nL ret rm po px k n pc L (.ref q :: st) K N I A R Q := g_getG lg_in7 rfl (by rw [hK]; decide) (g_at7 hK) 6 (by decide) hw rfl (by simp [g_f7]) hd kk
theorem g_put_verbR {Y : gEnv} {X : gCtx} {y : MethodName} {cc : ByteArray} {nL : Nat} {ret : Option FieldType} {rm : Room} {po : gPo} {px : gPx} {k n pc : Nat} {L : List (Nat × Value)} {st : List Value} {K N : Nat → Nat} {I : Nat → Nat → Int} {A : Nat → Int → Int} {R : Nat → Nat → Option Nat} {Q : Nat → Int → Option Nat} {idx q : Nat} {z : Option Nat} (hd : decode cc pc = .ok (.putfield idx, 3)) (hw : Cond.fieldLink y.cls idx "TileFactory$Script" "verb" "LTileFactory$Verb;" ∈ lw_good) (hK : K q = 8) (kk : ∀ (R' : Nat → Nat → Option Nat), R' = g_up R 146 q z → gJ Y X y cc nL ret rm po px k n (pc + 3) L st K N I A R' Q) : gJ Y X y cc nL ret rm po px k n pc L (va_rf z :: .ref q :: st) K N I A R Q := by
  cases z with
  | some a => exact g_put_Script_verb hd hw hK kk
  | none => exact g_putG lg_in7 tyX9 tyX9_ok nmX9 rfl (by rw [hK]; decide) (g_at7 hK) 6 (by decide) hw rfl (Or.inl rfl) (ty := .object "TileFactory$Verb") (by decide +kernel) rfl rfl (Nat.le_of_ble_eq_true rfl) (fun b => by
    by_cases hb : b = q
    · subst hb; rw [va_up_self, g_at7 hK]; simp [g_f7, g_up, va_rf]
    · rw [va_up_ne _ _ hb]; exact (g_cell_congr rfl rfl (fun f => rfl) rfl (fun f => g_up_ne2 _ _ hb) rfl).symm) hd (kk _ rfl)
theorem g_aretR {Y : gEnv} {X : gCtx} {y : MethodName} {cc : ByteArray} {nL : Nat} {ret : Option FieldType} {rm : Room} {po : gPo} {px : gPx} {k n pc : Nat} {L : List (Nat × Value)} {K N : Nat → Nat} {I : Nat → Nat → Int} {A : Nat → Int → Int} {R : Nat → Nat → Option Nat} {Q : Nat → Int → Option Nat} {z : Option Nat} {rt : FieldType} (hd : decode cc pc = .ok (.areturn, 1)) (hr : ret = some rt) (hrt : (∃ n, rt = .object n) ∨ ∃ t, rt = .array t) (hk : k ≤ rm.cells) (hn : n ≤ rm.slots) (hp : po (some (va_rf z)) K N I A R Q) : gJ Y X y cc nL ret rm po px k n pc L [va_rf z] K N I A R Q := by
  cases z with
  | some a => exact g_aret hd hr hrt hk hn hp
  | none => exact fun hx H locs ls hW hS hl => W.widen hk hn (vx_ret (W.aret hx.1 hx.2.1 (hr ▸ hx.2.2.2.2.2.2.2.2.2.1) hrt (Or.inl rfl) (fun t ht _ => g_ret hW hS hp ht) hS.2.2 hd (hlocks := hx.2.2.2.2.2.2.2.2.2.2.1)))
theorem g_callVr {Y : gEnv} {X : gCtx} {y : MethodName} {cc : ByteArray} {nL : Nat} {ret : Option FieldType} {rm : Room} {po : gPo} {px : gPx} {k n pc : Nat} {L : List (Nat × Value)} {st : List Value} {K N : Nat → Nat} {I : Nat → Nat → Int} {A : Nat → Int → Int} {R : Nat → Nat → Option Nat} {Q : Nat → Int → Option Nat} {yc : MethodName} {c' : ByteArray} {nL' a idx : Nat} {ret' : Option FieldType} {rm' : Room} {P : Option Value → (Nat → Nat → Int) → (Nat → Int → Int) → (Nat → Nat → Option Nat) → Prop} {As : List Value} {st0 : List Value} {b i m : Nat} {fs : List Value} {T : u_T} (hc : vwCl[i]? = some (yc.cls, T, m)) (hKb : K b ≠ 0) (hat : g_cell Y.2.2.1 K N I A R Q b = .inr (i, fs)) (hC : gC Y yc c' nL' ret' rm' (.ref b :: As) K N I A R Q (g_wR K N Q P) gno) (hu : gUV yc c' nL' ret' a) (hw : Cond.methodLink y.cls idx yc ∈ lw_good) (hd : decode cc pc = .ok (.invokevirtual idx, 3)) (hlen : As.length = a) (hst : st0 = As.reverse ++ .ref b :: st) (hroom : rm'.frames + 1 ≤ rm.frames ∧ 8 + (nL' + 11) + rm'.locals ≤ rm.locals) (hfit : k + rm'.cells ≤ rm.cells ∧ n + rm'.slots ≤ rm.slots) (hrest : (st.map fun v => v.category).sum ≤ 8)
    (kk : ∀ (v : Option Value) (I' : Nat → Nat → Int) (A' : Nat → Int → Int) (R' : Nat → Nat → Option Nat), P v I' A' R' → gJ Y X y cc nL ret rm po px (k + rm'.cells) (n + rm'.slots) (pc + 3) L (v.toList ++ st) K N I' A' R' Q) : gJ Y X y cc nL ret rm po px k n pc L st0 K N I A R Q :=
  g_callV hc hKb hat hC hu hw hd hlen hst hroom hfit hrest (fun v K' N' I' A' R' Q' h => by
    obtain ⟨h1, h2, h3, h4⟩ := h
    rw [h1, h2, h3]
    exact kk v I' A' R' h4)
/-- a Script -/
def cS (K N : Nat → Nat) (R : Nat → Nat → Option Nat) (sc sg ar : Nat) : Prop := K sc = 8 ∧ R 140 sc = some sg ∧ K sg = 12 ∧ N sg = 100 ∧ R 145 sc = some ar ∧ K ar = 13 ∧ N ar = 4
def sVr (Y : gEnv) (v : Int) : Option Nat := if v = 0 then none else some (Y.2.2.1 (30 + (v - 1).toNat))
def sEq (T : Int → Int) (f : Int) (i : Nat) : Nat → Int → Bool
  | 0, _ => true
  | n + 1, j => decide (sCh i j = T (f + j)) && sEq T f i n (j + 1)
def sWdN (T : Int → Int) (f t : Int) (i : Nat) : Bool := decide (sLn i = t - f) && sEq T f i (sLn i).toNat 0
theorem sEq_stop {T : Int → Int} {f j : Int} {i n : Nat} (h : n = 0) : sEq T f i n j = true := by subst h; rfl
theorem sEq_yes {T : Int → Int} {f j : Int} {i n : Nat} (h : 0 < n) (e : sCh i j = T (f + j)) : sEq T f i n j = sEq T f i (n - 1) (j + 1) := by
  obtain ⟨q, rfl⟩ : ∃ q, n = q + 1 := ⟨n - 1, by omega⟩
  simp [sEq, e]
theorem sEq_no {T : Int → Int} {f j : Int} {i n : Nat} (h : 0 < n) (e : ¬ sCh i j = T (f + j)) : sEq T f i n j = false := by
  obtain ⟨q, rfl⟩ : ∃ q, n = q + 1 := ⟨n - 1, by omega⟩
  simp [sEq, e]
theorem sLn_rng {i : Nat} (h : i < 5) : 4 ≤ sLn i ∧ sLn i ≤ 5 := by
  have : i = 0 ∨ i = 1 ∨ i = 2 ∨ i = 3 ∨ i = 4 := by omega
  rcases this with e | e | e | e | e <;> subst e <;> decide
theorem sCh_rng2 {i : Nat} (h : i < 5) {j : Int} (hj : 0 ≤ j ∧ j < sLn i) : 0 ≤ sCh i j ∧ sCh i j ≤ 126 := sCh_rng i h j.toNat (by have := hj.2; simp only [sLn] at this; omega)
theorem sWdN_eq {T : Int → Int} {f t : Int} : sVerb T f t = (if sWdN T f t 0 = true then 1 else if sWdN T f t 1 = true then 2 else if sWdN T f t 2 = true then 3 else if sWdN T f t 3 = true then 4 else if sWdN T f t 4 = true then 5 else 0) := by
  have e4 : ∀ (i : Nat) (a b c d : Int), sLn i = 4 → sCh i 0 = a → sCh i 1 = b → sCh i 2 = c → sCh i 3 = d → (sWdN T f t i = true ↔ sWd T f t a b c d 0 = true) := fun i a b c d h0 h1 h2 h3 h4 => by
    rw [sWd_iff]
    simp only [sWdN, sWdP, h0, show (4 : Int).toNat = 4 from rfl, sEq, Int.zero_add, show (0 : Int) + 1 = 1 from rfl, show (1 : Int) + 1 = 2 from rfl, show (2 : Int) + 1 = 3 from rfl, h1, h2, h3, h4, Bool.and_eq_true, decide_eq_true_eq, Int.add_zero, if_true, and_true, true_or]
    constructor <;> intro h <;> omega
  have e5 : ∀ (i : Nat) (a b c d e : Int), sLn i = 5 → e ≠ 0 → sCh i 0 = a → sCh i 1 = b → sCh i 2 = c → sCh i 3 = d → sCh i 4 = e → (sWdN T f t i = true ↔ sWd T f t a b c d e = true) := fun i a b c d e h0 he h1 h2 h3 h4 h5 => by
    rw [sWd_iff]
    simp only [sWdN, sWdP, h0, show (5 : Int).toNat = 5 from rfl, sEq, Int.zero_add, show (0 : Int) + 1 = 1 from rfl, show (1 : Int) + 1 = 2 from rfl, show (2 : Int) + 1 = 3 from rfl, show (3 : Int) + 1 = 4 from rfl, h1, h2, h3, h4, h5, Bool.and_eq_true, decide_eq_true_eq, Int.add_zero, if_neg he, and_true]
    constructor <;> intro h <;> omega
  have a0 := e4 0 102 105 114 101 rfl rfl rfl rfl rfl
  have a1 := e5 1 103 114 97 100 101 rfl (by decide) rfl rfl rfl rfl rfl
  have a2 := e4 2 112 97 99 107 rfl rfl rfl rfl rfl
  have a3 := e4 3 115 104 105 112 rfl rfl rfl rfl rfl
  have a4 := e4 4 100 114 111 112 rfl rfl rfl rfl rfl
  simp only [sVerb, a0, a1, a2, a3, a4]
set_option maxHeartbeats 1000000 in
set_option maxRecDepth 100000 in
theorem lp_C_isWord {Y : gEnv} {X : gCtx} {K N : Nat → Nat} {I : Nat → Nat → Int} {A : Nat → Int → Int} {R : Nat → Nat → Option Nat} {Q : Nat → Int → Option Nat} {sc sg ar : Nat} (hS : cS K N R sc sg ar) (hT : ∀ j, 0 ≤ j → j < 100 → 0 ≤ A sg j ∧ A sg j ≤ 126) {i : Nat} (hi : i < 5) (f0 t : Int) (hft : 0 ≤ f0 ∧ f0 < t ∧ t ≤ 100) (hl : sLn i = t - f0) : ∀ (f m : Nat) (j : Int), m < f → 0 ≤ j → j + m = sLn i → sEq (A sg) f0 i m j = sEq (A sg) f0 i (sLn i).toNat 0 → gJ Y X yX9_isWord cX9_isWord 5 (some .boolean) ({ frames := 4, cells := 0, slots := 0, locals := 141 } : Room) (g_pu (some (vi (if sWdN (A sg) f0 t i = true then 1 else 0))) K N I A R Q) gno 0 0 15 [(0, .ref sc), (1, .ref (Y.2.2.1 (40 + i))), (2, vi f0), (3, vi t), (4, vi j)] [] K N I A R Q := by
  obtain ⟨hKc, hRg, hKg, hNg, hRa, hKa, hNa⟩ := id hS
  have hln := sLn_rng hi

  intro f
  induction f with
  | zero => intro m j h; omega
  | succ f ih =>
  intro m j hf hj hm he
  refine g_iload dX9_isWord_15 rfl ?_
  refine g_aload_n dX9_isWord_17 rfl rfl ?_
  refine g_callStr hi rfl (k_J_length Y hi) u_J0_length mw_911 dX9_isWord_18 rfl rfl ⟨Nat.le_of_ble_eq_true rfl, Nat.le_of_ble_eq_true rfl⟩ ⟨Nat.le_of_ble_eq_true rfl, Nat.le_of_ble_eq_true rfl⟩ (Nat.le_of_ble_eq_true rfl) ?_
  refine g_icmp_ge (tgt := 50) dX9_isWord_21 (by decide) (by omega) (by omega) (fun c_21 => ?_) (fun c_21 => ?_)
  · refine g_iconst dX9_isWord_50 ?_
    exact g_zret dX9_isWord_51 rfl (by omega) (by decide) (by decide) (g_pu_i (by rw [if_pos (by rw [sWdN, ← he, sEq_stop (by omega), decide_eq_true hl]; rfl)]) _ _ _ _ _ _)
  · refine g_aload_n dX9_isWord_24 rfl rfl ?_
    refine g_iload dX9_isWord_25 rfl ?_
    refine g_callStr hi rfl (k_J_charAt Y hi j (by omega) (by omega) (sCh_rng2 hi (by omega))) u_J0_charAt mw_921 dX9_isWord_27 rfl rfl ⟨Nat.le_of_ble_eq_true rfl, Nat.le_of_ble_eq_true rfl⟩ ⟨Nat.le_of_ble_eq_true rfl, Nat.le_of_ble_eq_true rfl⟩ (Nat.le_of_ble_eq_true rfl) ?_
    refine g_aload_n dX9_isWord_30 rfl rfl ?_
    refine g_get_Script_signs dX9_isWord_31 mw_276 (by assumption) (by assumption) ?_
    refine g_iload_n dX9_isWord_34 rfl rfl ?_
    refine g_iload dX9_isWord_35 rfl ?_
    refine g_iadd dX9_isWord_37 ?_
    refine g_caload dX9_isWord_38 (by assumption) (by omega) (by omega) ?_
    refine g_icmp_eq (tgt := 44) dX9_isWord_39 (by decide) (by have := sCh_rng2 hi (j := j) (by omega); omega) (by have := hT (f0 + j) (by omega) (by omega); omega) (fun c_39 => ?_) (fun c_39 => ?_)
    · refine g_iinc dX9_isWord_44 rfl (by decide) ?_
      refine g_goto (tgt := 15) dX9_isWord_47 (by decide) ?_
      rw [sEq_yes (by omega) (by assumption)] at he
      exact g_locs (by exact ⟨rfl, rfl, rfl, rfl, rfl, trivial⟩) (ih (m - 1) (j + 1) (by omega) (by omega) (by omega) he)
    · refine g_iconst dX9_isWord_42 ?_
      exact g_zret dX9_isWord_43 rfl (by omega) (by decide) (by decide) (g_pu_i (by rw [if_neg (fun hh => by rw [sWdN, ← he, sEq_no (by omega) (by assumption), Bool.and_false] at hh; cases hh)]) _ _ _ _ _ _)
set_option maxHeartbeats 1000000 in
set_option maxRecDepth 100000 in
theorem k_C_isWord (Y : gEnv) {K N : Nat → Nat} {I : Nat → Nat → Int} {A : Nat → Int → Int} {R : Nat → Nat → Option Nat} {Q : Nat → Int → Option Nat} {sc sg ar : Nat} (hS : cS K N R sc sg ar) (hT : ∀ j, 0 ≤ j → j < 100 → 0 ≤ A sg j ∧ A sg j ≤ 126) {i : Nat} (hi : i < 5) (f0 t : Int) (hft : 0 ≤ f0 ∧ f0 < t ∧ t ≤ 100) : gC Y yX9_isWord cX9_isWord 5 (some .boolean) ({ frames := 4, cells := 0, slots := 0, locals := 141 } : Room) [.ref sc, .ref (Y.2.2.1 (40 + i)), vi f0, vi t] K N I A R Q (g_pu (some (vi (if sWdN (A sg) f0 t i = true then 1 else 0))) K N I A R Q) gno := by
  refine gC_of (by decide) (Nat.le_of_ble_eq_true rfl) (fun X => ?_)
  obtain ⟨hKc, hRg, hKg, hNg, hRa, hKa, hNa⟩ := id hS
  have hln := sLn_rng hi
  refine g_aload_n dX9_isWord_0 rfl rfl ?_
  refine g_callStr hi rfl (k_J_length Y hi) u_J0_length mw_911 dX9_isWord_1 rfl rfl ⟨Nat.le_of_ble_eq_true rfl, Nat.le_of_ble_eq_true rfl⟩ ⟨Nat.le_of_ble_eq_true rfl, Nat.le_of_ble_eq_true rfl⟩ (Nat.le_of_ble_eq_true rfl) ?_
  refine g_iload_n dX9_isWord_4 rfl rfl ?_
  refine g_iload_n dX9_isWord_5 rfl rfl ?_
  refine g_isub dX9_isWord_6 ?_
  refine g_icmp_eq (tgt := 12) dX9_isWord_7 (by decide) (by omega) (by omega) (fun c_7 => ?_) (fun c_7 => ?_)
  · refine g_iconst dX9_isWord_12 ?_
    refine g_istore dX9_isWord_13 (by decide) ?_
    exact g_locs (by exact ⟨rfl, rfl, rfl, rfl, rfl, trivial⟩) (lp_C_isWord hS hT hi f0 t hft (by omega) _ (sLn i).toNat 0 (Nat.lt_succ_self _) (by omega) (by omega) rfl)
  · refine g_iconst dX9_isWord_10 ?_
    exact g_zret dX9_isWord_11 rfl (by omega) (by decide) (by decide) (g_pu_i (by rw [if_neg (fun hh => by rw [sWdN, decide_eq_false (by omega), Bool.false_and] at hh; cases hh)]) _ _ _ _ _ _)
theorem sVr_at {Y : gEnv} {T : Int → Int} {f t i : Int} (hi : 0 ≤ i ∧ i < 5) (h : sWdN T f t i.toNat = true) (hb : ∀ j : Nat, (j : Int) < i → ¬ sWdN T f t j = true) : sVr Y (sVerb T f t) = some (Y.2.2.1 (30 + i.toNat)) := by
  have hv : sVerb T f t = i + 1 := by
    rw [sWdN_eq]
    have hc : i = 0 ∨ i = 1 ∨ i = 2 ∨ i = 3 ∨ i = 4 := by omega
    rcases hc with e | e | e | e | e <;> subst e
    · have h' : sWdN T f t 0 = true := h
      rw [if_pos h']; rfl
    · have h' : sWdN T f t 1 = true := h
      rw [if_neg (hb 0 (by omega)), if_pos h']; rfl
    · have h' : sWdN T f t 2 = true := h
      rw [if_neg (hb 0 (by omega)), if_neg (hb 1 (by omega)), if_pos h']; rfl
    · have h' : sWdN T f t 3 = true := h
      rw [if_neg (hb 0 (by omega)), if_neg (hb 1 (by omega)), if_neg (hb 2 (by omega)), if_pos h']; rfl
    · have h' : sWdN T f t 4 = true := h
      rw [if_neg (hb 0 (by omega)), if_neg (hb 1 (by omega)), if_neg (hb 2 (by omega)), if_neg (hb 3 (by omega)), if_pos h']; rfl
  rw [hv, sVr, if_neg (by omega), Int.add_sub_cancel]
theorem sVr_none {Y : gEnv} {T : Int → Int} {f t : Int} (hb : ∀ j : Nat, (j : Int) < 5 → ¬ sWdN T f t j = true) : sVr Y (sVerb T f t) = none := by
  rw [sWdN_eq, if_neg (hb 0 (by omega)), if_neg (hb 1 (by omega)), if_neg (hb 2 (by omega)), if_neg (hb 3 (by omega)), if_neg (hb 4 (by omega))]
  rfl
set_option maxHeartbeats 1000000 in
set_option maxRecDepth 100000 in
theorem lp_C_verbAt {Y : gEnv} {X : gCtx} {K N : Nat → Nat} {I : Nat → Nat → Int} {A : Nat → Int → Int} {R : Nat → Nat → Option Nat} {Q : Nat → Int → Option Nat} {sc sg ar : Nat} (hS : cS K N R sc sg ar) (hT : ∀ j, 0 ≤ j → j < 100 → 0 ≤ A sg j ∧ A sg j ≤ 126) (f0 t : Int) (hft : 0 ≤ f0 ∧ f0 < t ∧ t ≤ 100) : ∀ (f m : Nat) (i : Int), m < f → 0 ≤ i → i + m = 5 → (∀ j : Nat, (j : Int) < i → ¬ sWdN (A sg) f0 t j = true) → gJ Y X yX9_verbAt cX9_verbAt 4 (some (.object "TileFactory$Verb")) ({ frames := 5, cells := 0, slots := 0, locals := 165 } : Room) (g_pu (some (va_rf (sVr Y (sVerb (A sg) f0 t)))) K N I A R Q) gno 0 0 2 [(0, .ref sc), (1, vi f0), (2, vi t), (3, vi i)] [] K N I A R Q := by
  obtain ⟨hKc, hRg, hKg, hNg, hRa, hKa, hNa⟩ := id hS

  intro f
  induction f with
  | zero => intro m i h; omega
  | succ f ih =>
  intro m i hf hi hm hb
  refine g_iload_n dX9_verbAt_2 rfl rfl ?_
  refine g_verbs dX9_verbAt_3 mw_905 ?_
  refine g_verbsLen dX9_verbAt_6 ?_
  refine g_icmp_ge (tgt := 39) dX9_verbAt_7 (by decide) (by omega) (by omega) (fun c_7 => ?_) (fun c_7 => ?_)
  · skip
    refine g_null dX9_verbAt_39 ?_
    exact g_aretR (z := none) dX9_verbAt_40 rfl (Or.inl ⟨_, rfl⟩) (by decide) (by decide) (by rw [sVr_none (Y := Y) (T := A sg) (f := f0) (t := t) (fun j hj => hb j (by omega))]; exact ⟨rfl, rfl, rfl, rfl, rfl, rfl, rfl⟩)
  · refine g_aload_n dX9_verbAt_10 rfl rfl ?_
    refine g_verbs dX9_verbAt_11 mw_905 ?_
    refine g_iload_n dX9_verbAt_14 rfl rfl ?_
    refine g_verbsAt dX9_verbAt_15 (by omega) ?_
    refine g_verbWord dX9_verbAt_16 mw_1029 (by omega) ?_
    refine g_iload_n dX9_verbAt_19 rfl rfl ?_
    refine g_iload_n dX9_verbAt_20 rfl rfl ?_
    refine g_callVp (i := 7) rfl (gK0 (by assumption)) (g_at7 (by assumption)) (k_C_isWord Y hS hT (i := i.toNat) (by omega) f0 t hft) u_X9_isWord mw_907 dX9_verbAt_21 rfl rfl ⟨Nat.le_of_ble_eq_true rfl, Nat.le_of_ble_eq_true rfl⟩ ⟨Nat.le_of_ble_eq_true rfl, Nat.le_of_ble_eq_true rfl⟩ (Nat.le_of_ble_eq_true rfl) ?_
    obtain ⟨b21, p21, n21⟩ := ifd2 (sWdN (A sg) f0 t i.toNat = true)
    generalize (if sWdN (A sg) f0 t i.toNat = true then (1 : Int) else 0) = z21 at b21 p21 n21 ⊢
    refine g_if_eq (tgt := 33) dX9_verbAt_24 (by decide) (by omega) (fun c_24 => ?_) (fun c_24 => ?_)
    · refine g_iinc dX9_verbAt_33 rfl (by decide) ?_
      refine g_goto (tgt := 2) dX9_verbAt_36 (by decide) ?_
      exact g_locs (by exact ⟨rfl, rfl, rfl, rfl, trivial⟩) (ih (m - 1) (i + 1) (by omega) (by omega) (by omega) (fun j hj => by
        by_cases e : (j : Int) = i
        · rw [show j = i.toNat by omega]; exact n21 (by omega)
        · exact hb j (by omega)))
    · refine g_verbs dX9_verbAt_27 mw_905 ?_
      refine g_iload_n dX9_verbAt_30 rfl rfl ?_
      refine g_verbsAt dX9_verbAt_31 (by omega) ?_
      exact g_aret dX9_verbAt_32 rfl (Or.inl ⟨_, rfl⟩) (by decide) (by decide) (by rw [sVr_at (Y := Y) (T := A sg) (f := f0) (t := t) (i := i) (by omega) (p21 (by omega)) hb]; exact ⟨rfl, rfl, rfl, rfl, rfl, rfl, rfl⟩)
set_option maxHeartbeats 1000000 in
set_option maxRecDepth 100000 in
theorem k_C_verbAt (Y : gEnv) {K N : Nat → Nat} {I : Nat → Nat → Int} {A : Nat → Int → Int} {R : Nat → Nat → Option Nat} {Q : Nat → Int → Option Nat} {sc sg ar : Nat} (hS : cS K N R sc sg ar) (hT : ∀ j, 0 ≤ j → j < 100 → 0 ≤ A sg j ∧ A sg j ≤ 126) (f0 t : Int) (hft : 0 ≤ f0 ∧ f0 < t ∧ t ≤ 100) : gC Y yX9_verbAt cX9_verbAt 4 (some (.object "TileFactory$Verb")) ({ frames := 5, cells := 0, slots := 0, locals := 165 } : Room) [.ref sc, vi f0, vi t] K N I A R Q (g_pu (some (va_rf (sVr Y (sVerb (A sg) f0 t)))) K N I A R Q) gno := by
  refine gC_of (by decide) (Nat.le_of_ble_eq_true rfl) (fun X => ?_)
  refine g_iconst dX9_verbAt_0 ?_
  refine g_istore_n dX9_verbAt_1 rfl (by decide) ?_
  exact g_locs (by exact ⟨rfl, rfl, rfl, rfl, trivial⟩) (lp_C_verbAt hS hT f0 t hft _ 5 0 (Nat.lt_succ_self _) (by omega) (by omega) (fun j hj => by omega))
set_option maxHeartbeats 1000000 in
set_option maxRecDepth 100000 in
theorem lp_C_numberAt {Y : gEnv} {X : gCtx} {K N : Nat → Nat} {I : Nat → Nat → Int} {A : Nat → Int → Int} {R : Nat → Nat → Option Nat} {Q : Nat → Int → Option Nat} {sc sg ar : Nat} (hS : cS K N R sc sg ar) (hT : ∀ j, 0 ≤ j → j < 100 → 0 ≤ A sg j ∧ A sg j ≤ 126) (f0 t : Int) (hft : 0 ≤ f0 ∧ f0 < t ∧ t ≤ 100) (hd : ¬ (t - f0 < 1 ∨ 4 < t - f0)) : ∀ (f m : Nat) (i v : Int), m < f → f0 ≤ i → i + m = t → sNumL (A sg) m i v = sNumL (A sg) (t - f0).toNat f0 0 → gJ Y X yX9_numberAt cX9_numberAt 5 (some .int) ({ frames := 0, cells := 0, slots := 0, locals := 0 } : Room) (g_pu (some (vi (sNum (A sg) f0 t))) K N I A R Q) gno 0 0 21 [(0, .ref sc), (1, vi f0), (2, vi t), (3, vi v), (4, vi i)] [] K N I A R Q := by
  obtain ⟨hKc, hRg, hKg, hNg, hRa, hKa, hNa⟩ := id hS

  intro f
  induction f with
  | zero => intro m i v h; omega
  | succ f ih =>
  intro m i v hf hi hm he
  refine g_iload dX9_numberAt_21 rfl ?_
  refine g_iload_n dX9_numberAt_23 rfl rfl ?_
  refine g_icmp_ge (tgt := 75) dX9_numberAt_24 (by decide) (by omega) (by omega) (fun c_24 => ?_) (fun c_24 => ?_)
  · refine g_iload_n dX9_numberAt_75 rfl rfl ?_
    exact g_iret dX9_numberAt_76 rfl (by decide) (by decide) (g_pu_i (by rw [sNum, if_neg hd, ← he, sNumL_stop (by omega)]) _ _ _ _ _ _)
  · refine g_aload_n dX9_numberAt_27 rfl rfl ?_
    refine g_get_Script_signs dX9_numberAt_28 mw_276 (by assumption) (by assumption) ?_
    refine g_iload dX9_numberAt_31 rfl ?_
    refine g_caload dX9_numberAt_33 (by assumption) (by omega) (by omega) ?_
    refine g_bipush dX9_numberAt_34 (by decide) ?_
    refine g_icmp_lt (tgt := 51) dX9_numberAt_36 (by decide) (by have := hT i (by omega) (by omega); omega) (by omega) (fun c_36 => ?_) (fun c_36 => ?_)
    · refine g_iconst dX9_numberAt_51 ?_
      exact g_iret dX9_numberAt_52 rfl (by decide) (by decide) (g_pu_i (by rw [sNum, if_neg hd, ← he, sNumL_bad (by omega) (by omega)]) _ _ _ _ _ _)
    · refine g_aload_n dX9_numberAt_39 rfl rfl ?_
      refine g_get_Script_signs dX9_numberAt_40 mw_276 (by assumption) (by assumption) ?_
      refine g_iload dX9_numberAt_43 rfl ?_
      refine g_caload dX9_numberAt_45 (by assumption) (by omega) (by omega) ?_
      refine g_bipush dX9_numberAt_46 (by decide) ?_
      refine g_icmp_le (tgt := 53) dX9_numberAt_48 (by decide) (by have := hT i (by omega) (by omega); omega) (by omega) (fun c_48 => ?_) (fun c_48 => ?_)
      · refine g_bipush dX9_numberAt_53 (by decide) ?_
        refine g_iload_n dX9_numberAt_55 rfl rfl ?_
        refine g_imul dX9_numberAt_56 ?_
        refine g_aload_n dX9_numberAt_57 rfl rfl ?_
        refine g_get_Script_signs dX9_numberAt_58 mw_276 (by assumption) (by assumption) ?_
        refine g_iload dX9_numberAt_61 rfl ?_
        refine g_caload dX9_numberAt_63 (by assumption) (by omega) (by omega) ?_
        refine g_bipush dX9_numberAt_64 (by decide) ?_
        refine g_isub dX9_numberAt_66 ?_
        refine g_iadd dX9_numberAt_67 ?_
        refine g_istore_n dX9_numberAt_68 rfl (by decide) ?_
        refine g_iinc dX9_numberAt_69 rfl (by decide) ?_
        refine g_goto (tgt := 21) dX9_numberAt_72 (by decide) ?_
        rw [sNumL_step (by omega) (by omega)] at he
        exact g_locs (by exact ⟨rfl, rfl, rfl, rfl, rfl, trivial⟩) (ih (m - 1) (i + 1) _ (by omega) (by omega) (by omega) he)
      · refine g_iconst dX9_numberAt_51 ?_
        exact g_iret dX9_numberAt_52 rfl (by decide) (by decide) (g_pu_i (by rw [sNum, if_neg hd, ← he, sNumL_bad (by omega) (by omega)]) _ _ _ _ _ _)
set_option maxHeartbeats 1000000 in
set_option maxRecDepth 100000 in
theorem k_C_numberAt (Y : gEnv) {K N : Nat → Nat} {I : Nat → Nat → Int} {A : Nat → Int → Int} {R : Nat → Nat → Option Nat} {Q : Nat → Int → Option Nat} {sc sg ar : Nat} (hS : cS K N R sc sg ar) (hT : ∀ j, 0 ≤ j → j < 100 → 0 ≤ A sg j ∧ A sg j ≤ 126) (f0 t : Int) (hft : 0 ≤ f0 ∧ f0 < t ∧ t ≤ 100) : gC Y yX9_numberAt cX9_numberAt 5 (some .int) ({ frames := 0, cells := 0, slots := 0, locals := 0 } : Room) [.ref sc, vi f0, vi t] K N I A R Q (g_pu (some (vi (sNum (A sg) f0 t))) K N I A R Q) gno := by
  refine gC_of (by decide) (Nat.le_of_ble_eq_true rfl) (fun X => ?_)
  obtain ⟨hKc, hRg, hKg, hNg, hRa, hKa, hNa⟩ := id hS
  refine g_iload_n dX9_numberAt_0 rfl rfl ?_
  refine g_iload_n dX9_numberAt_1 rfl rfl ?_
  refine g_isub dX9_numberAt_2 ?_
  refine g_iconst dX9_numberAt_3 ?_
  refine g_icmp_lt (tgt := 14) dX9_numberAt_4 (by decide) (by omega) (by omega) (fun c_4 => ?_) (fun c_4 => ?_)
  · refine g_iconst dX9_numberAt_14 ?_
    exact g_iret dX9_numberAt_15 rfl (by decide) (by decide) (g_pu_i (by rw [sNum, if_pos (by omega)]) _ _ _ _ _ _)
  · refine g_iload_n dX9_numberAt_7 rfl rfl ?_
    refine g_iload_n dX9_numberAt_8 rfl rfl ?_
    refine g_isub dX9_numberAt_9 ?_
    refine g_iconst dX9_numberAt_10 ?_
    refine g_icmp_le (tgt := 16) dX9_numberAt_11 (by decide) (by omega) (by omega) (fun c_11 => ?_) (fun c_11 => ?_)
    · refine g_iconst dX9_numberAt_16 ?_
      refine g_istore_n dX9_numberAt_17 rfl (by decide) ?_
      refine g_iload_n dX9_numberAt_18 rfl rfl ?_
      refine g_istore dX9_numberAt_19 (by decide) ?_
      exact g_locs (by exact ⟨rfl, rfl, rfl, rfl, rfl, trivial⟩) (lp_C_numberAt hS hT f0 t hft (by omega) _ (t - f0).toNat f0 0 (Nat.lt_succ_self _) (by omega) (by omega) rfl)
    · refine g_iconst dX9_numberAt_14 ?_
      exact g_iret dX9_numberAt_15 rfl (by decide) (by decide) (g_pu_i (by rw [sNum, if_pos (by omega)]) _ _ _ _ _ _)
set_option maxHeartbeats 1000000 in
set_option maxRecDepth 100000 in
theorem k_C_readArgument (Y : gEnv) {K N : Nat → Nat} {I : Nat → Nat → Int} {A : Nat → Int → Int} {R : Nat → Nat → Option Nat} {Q : Nat → Int → Option Nat} {sc sg ar : Nat} (hS : cS K N R sc sg ar) (hT : ∀ j, 0 ≤ j → j < 100 → 0 ≤ A sg j ∧ A sg j ≤ 126) (f0 t : Int) (hft : 0 ≤ f0 ∧ f0 < t ∧ t ≤ 100) (hw : 1 ≤ I 143 sc ∧ I 143 sc ≤ 101) : gC Y yX9_readArgument cX9_readArgument 5 none ({ frames := 1, cells := 0, slots := 0, locals := 24 } : Room) [.ref sc, vi f0, vi t] K N I A R Q (g_wr K N R Q (fun v I' A' => v = none ∧ I' = (if sNum (A sg) f0 t = -1 then g_up I 144 sc 0 else I) ∧ A' = (if I 143 sc - 1 < 4 then g_uq A ar (I 143 sc - 1) (sNum (A sg) f0 t) else A))) gno := by
  refine gC_of (by decide) (Nat.le_of_ble_eq_true rfl) (fun X => ?_)
  obtain ⟨hKc, hRg, hKg, hNg, hRa, hKa, hNa⟩ := id hS
  have hnr := sNum_range (A sg) f0 t
  refine g_aload_n dX9_readArgument_0 rfl rfl ?_
  refine g_iload_n dX9_readArgument_1 rfl rfl ?_
  refine g_iload_n dX9_readArgument_2 rfl rfl ?_
  refine g_callVp (i := 7) rfl (gK0 (by assumption)) (g_at7 (by assumption)) (k_C_numberAt Y hS hT f0 t hft) u_X9_numberAt mw_963 dX9_readArgument_3 rfl rfl ⟨Nat.le_of_ble_eq_true rfl, Nat.le_of_ble_eq_true rfl⟩ ⟨Nat.le_of_ble_eq_true rfl, Nat.le_of_ble_eq_true rfl⟩ (Nat.le_of_ble_eq_true rfl) ?_
  refine g_istore_n dX9_readArgument_6 rfl (by decide) ?_
  refine g_iload_n dX9_readArgument_7 rfl rfl ?_
  refine g_iconst dX9_readArgument_8 ?_
  refine g_icmp_ne (tgt := 17) dX9_readArgument_9 (by decide) (by omega) (by omega) (fun c_9 => ?_) (fun c_9 => ?_)
  · refine g_aload_n dX9_readArgument_17 rfl rfl ?_
    refine g_get_Script_words dX9_readArgument_18 mw_280 (by assumption) ?_
    try rw [show I14 143 sc = I 143 sc by rw [hI14, g_up_ne1 _ _ (by omega)]]
    refine g_iconst dX9_readArgument_21 ?_
    refine g_isub dX9_readArgument_22 ?_
    refine g_istore dX9_readArgument_23 (by decide) ?_
    refine g_iload dX9_readArgument_25 rfl ?_
    refine g_if_lt (tgt := 48) dX9_readArgument_27 (by decide) (by omega) (fun c_27 => ?_) (fun c_27 => ?_)
    · exact g_vret dX9_readArgument_48 rfl (by decide) (by decide) (by
      first
      | (refine ⟨rfl, rfl, rfl, rfl, rfl, ?_, ?_⟩
         · first
           | (rw [if_pos (by omega)]; exact hI14)
           | (rw [if_neg (by omega)]; done)
         · first
           | (rw [if_pos (by omega)]; exact hA47)
           | (rw [if_neg (by omega)]; done))
      | (exfalso; omega))
    · refine g_iload dX9_readArgument_30 rfl ?_
      refine g_aload_n dX9_readArgument_32 rfl rfl ?_
      refine g_get_Script_arguments dX9_readArgument_33 mw_282 (by assumption) (by assumption) ?_
      refine g_alen_i dX9_readArgument_36 (by assumption) ?_
      refine g_icmp_ge (tgt := 48) dX9_readArgument_37 (by decide) (by omega) (by omega) (fun c_37 => ?_) (fun c_37 => ?_)
      · exact g_vret dX9_readArgument_48 rfl (by decide) (by decide) (by
      first
      | (refine ⟨rfl, rfl, rfl, rfl, rfl, ?_, ?_⟩
         · first
           | (rw [if_pos (by omega)]; exact hI14)
           | (rw [if_neg (by omega)]; done)
         · first
           | (rw [if_pos (by omega)]; exact hA47)
           | (rw [if_neg (by omega)]; done))
      | (exfalso; omega))
      · refine g_aload_n dX9_readArgument_40 rfl rfl ?_
        refine g_get_Script_arguments dX9_readArgument_41 mw_282 (by assumption) (by assumption) ?_
        refine g_iload dX9_readArgument_44 rfl ?_
        refine g_iload_n dX9_readArgument_46 rfl rfl ?_
        refine g_iastore dX9_readArgument_47 (by assumption) (by omega) (by omega) (fun A47 hA47 => ?_)
        exact g_vret dX9_readArgument_48 rfl (by decide) (by decide) (by
      first
      | (refine ⟨rfl, rfl, rfl, rfl, rfl, ?_, ?_⟩
         · first
           | (rw [if_pos (by omega)]; exact hI14)
           | (rw [if_neg (by omega)]; done)
         · first
           | (rw [if_pos (by omega)]; exact hA47)
           | (rw [if_neg (by omega)]; done))
      | (exfalso; omega))
  · refine g_aload_n dX9_readArgument_12 rfl rfl ?_
    refine g_iconst dX9_readArgument_13 ?_
    refine g_put_Script_hasOnlyNumbers  (by omega) dX9_readArgument_14 mw_281 (by assumption) (fun I14 hI14 => ?_)
    refine g_aload_n dX9_readArgument_17 rfl rfl ?_
    refine g_get_Script_words dX9_readArgument_18 mw_280 (by assumption) ?_
    try rw [show I14 143 sc = I 143 sc by rw [hI14, g_up_ne1 _ _ (by omega)]]
    refine g_iconst dX9_readArgument_21 ?_
    refine g_isub dX9_readArgument_22 ?_
    refine g_istore dX9_readArgument_23 (by decide) ?_
    refine g_iload dX9_readArgument_25 rfl ?_
    refine g_if_lt (tgt := 48) dX9_readArgument_27 (by decide) (by omega) (fun c_27 => ?_) (fun c_27 => ?_)
    · exact g_vret dX9_readArgument_48 rfl (by decide) (by decide) (by
      first
      | (refine ⟨rfl, rfl, rfl, rfl, rfl, ?_, ?_⟩
         · first
           | (rw [if_pos (by omega)]; exact hI14)
           | (rw [if_neg (by omega)]; done)
         · first
           | (rw [if_pos (by omega)]; exact hA47)
           | (rw [if_neg (by omega)]; done))
      | (exfalso; omega))
    · refine g_iload dX9_readArgument_30 rfl ?_
      refine g_aload_n dX9_readArgument_32 rfl rfl ?_
      refine g_get_Script_arguments dX9_readArgument_33 mw_282 (by assumption) (by assumption) ?_
      refine g_alen_i dX9_readArgument_36 (by assumption) ?_
      refine g_icmp_ge (tgt := 48) dX9_readArgument_37 (by decide) (by omega) (by omega) (fun c_37 => ?_) (fun c_37 => ?_)
      · exact g_vret dX9_readArgument_48 rfl (by decide) (by decide) (by
      first
      | (refine ⟨rfl, rfl, rfl, rfl, rfl, ?_, ?_⟩
         · first
           | (rw [if_pos (by omega)]; exact hI14)
           | (rw [if_neg (by omega)]; done)
         · first
           | (rw [if_pos (by omega)]; exact hA47)
           | (rw [if_neg (by omega)]; done))
      | (exfalso; omega))
      · refine g_aload_n dX9_readArgument_40 rfl rfl ?_
        refine g_get_Script_arguments dX9_readArgument_41 mw_282 (by assumption) (by assumption) ?_
        refine g_iload dX9_readArgument_44 rfl ?_
        refine g_iload_n dX9_readArgument_46 rfl rfl ?_
        refine g_iastore dX9_readArgument_47 (by assumption) (by omega) (by omega) (fun A47 hA47 => ?_)
        exact g_vret dX9_readArgument_48 rfl (by decide) (by decide) (by
      first
      | (refine ⟨rfl, rfl, rfl, rfl, rfl, ?_, ?_⟩
         · first
           | (rw [if_pos (by omega)]; exact hI14)
           | (rw [if_neg (by omega)]; done)
         · first
           | (rw [if_pos (by omega)]; exact hA47)
           | (rw [if_neg (by omega)]; done))
      | (exfalso; omega))
