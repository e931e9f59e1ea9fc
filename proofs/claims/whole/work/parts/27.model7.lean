/-! ===== a text, its commands ===== -/
def sWdP (T : Int → Int) (f t a b c d e : Int) : Prop := t - f = (if e = 0 then 4 else 5) ∧ T f = a ∧ T (f + 1) = b ∧ T (f + 2) = c ∧ T (f + 3) = d ∧ (e = 0 ∨ T (f + 4) = e)
def sWd (T : Int → Int) (f t a b c d e : Int) : Bool := decide (t - f = (if e = 0 then 4 else 5)) && (decide (T f = a) && (decide (T (f + 1) = b) && (decide (T (f + 2) = c) && (decide (T (f + 3) = d) && (decide (e = 0) || decide (T (f + 4) = e))))))
theorem sWd_iff {T : Int → Int} {f t a b c d e : Int} : sWd T f t a b c d e = true ↔ sWdP T f t a b c d e := by
  simp only [sWd, sWdP, Bool.and_eq_true, Bool.or_eq_true, decide_eq_true_eq]
def sVerb (T : Int → Int) (f t : Int) : Int := if sWd T f t 102 105 114 101 0 = true then 1 else if sWd T f t 103 114 97 100 101 = true then 2 else if sWd T f t 112 97 99 107 0 = true then 3 else if sWd T f t 115 104 105 112 0 = true then 4 else if sWd T f t 100 114 111 112 0 = true then 5 else 0
def sNumL (T : Int → Int) : Nat → Int → Int → Int
  | 0, _, v => v
  | n + 1, i, v => if T i < 48 ∨ 57 < T i then -1 else sNumL T n (i + 1) (10 * v + (T i - 48))
def sNum (T : Int → Int) (f t : Int) : Int := if t - f < 1 ∨ 4 < t - f then -1 else sNumL T (t - f).toNat f 0
theorem sNumL_stop {T : Int → Int} {i v : Int} {n : Nat} (h : n = 0) : sNumL T n i v = v := by subst h; rfl
theorem sNumL_bad {T : Int → Int} {i v : Int} {n : Nat} (h : 0 < n) (hp : T i < 48 ∨ 57 < T i) : sNumL T n i v = -1 := by
  obtain ⟨q, rfl⟩ : ∃ q, n = q + 1 := ⟨n - 1, by omega⟩
  simp only [sNumL, if_pos hp]
theorem sNumL_step {T : Int → Int} {i v : Int} {n : Nat} (h : 0 < n) (hp : ¬ (T i < 48 ∨ 57 < T i)) : sNumL T n i v = sNumL T (n - 1) (i + 1) (10 * v + (T i - 48)) := by
  obtain ⟨q, rfl⟩ : ∃ q, n = q + 1 := ⟨n - 1, by omega⟩
  simp only [sNumL, if_neg hp, Nat.add_sub_cancel]
abbrev sSt : Type := Int × Int × Int × (Int → Int)
def sWord (T : Int → Int) (S : sSt) (f t : Int) : sSt := if S.2.1 = 0 then (sVerb T f t, 1, S.2.2.1, S.2.2.2) else (S.1, S.2.1 + 1, (if sNum T f t = -1 then 0 else S.2.2.1), sU S.2.2.2 (S.2.1 - 1) (sNum T f t))
def sScan (T : Int → Int) : Nat → Int → Int → sSt → sSt
  | 0, i, st, S => if st = -1 then S else sWord T S st i
  | n + 1, i, st, S => if T i = 32 then (if st = -1 then sScan T n (i + 1) (-1) S else sScan T n (i + 1) (-1) (sWord T S st i)) else (if st = -1 then sScan T n (i + 1) i S else sScan T n (i + 1) st S)
def sEndP (T : Int → Int) : Int → Bool := fun i => decide (T i = 59)
def sEnd (T : Int → Int) (n b : Int) : Int := sLx (sEndP T) (n - b).toNat b
def sS0 : sSt := (0, 0, 1, fun _ => 0)
def sCmd (T : Int → Int) (n b : Int) : sSt := sScan T (sEnd T n b - b).toNat b (-1) sS0
def sNeed (v : Int) : Int := if v = 1 ∨ v = 5 then 4 else if v = 2 then 1 else if v = 4 then 3 else 0
def sKind (S : sSt) : Int := if S.1 = 0 then 1 else if S.2.1 - 1 ≠ sNeed S.1 then 2 else if S.2.2.1 = 0 then 3 else 0
def sErr (T : Int → Int) (n : Int) : Nat → Int → Int → Int
  | 0, _, _ => -1
  | f + 1, k, m => if k ≤ n then (if 0 < sKind (sCmd T n k) then 10 * m + sKind (sCmd T n k) else sErr T n f (sEnd T n k + 1) (m + 1)) else -1
def sCode (W : Int → Int) (S : sSt) : Int := if S.1 = 1 then sFireT W (S.2.2.2 0) (S.2.2.2 1) (S.2.2.2 2) (S.2.2.2 3) else if S.1 = 2 then sGradeT W (S.2.2.2 0) else if S.1 = 4 then sDeliverT W (S.2.2.2 0) (S.2.2.2 1) (S.2.2.2 2) else if S.1 = 5 then sDropT W (S.2.2.2 0) (S.2.2.2 1) (S.2.2.2 2) (S.2.2.2 3) else 0
def sApp (W : Int → Int) (S : sSt) : Int → Int := if S.1 = 1 then sFire W (S.2.2.2 0) (S.2.2.2 1) (S.2.2.2 2) (S.2.2.2 3) else if S.1 = 2 then sGrade W (S.2.2.2 0) else if S.1 = 3 then sPack W else if S.1 = 4 then sDel W (S.2.2.2 0) (S.2.2.2 1) (S.2.2.2 2) else sDrop W (S.2.2.2 0) (S.2.2.2 1) (S.2.2.2 2) (S.2.2.2 3)
def sExeN (T : Int → Int) (n : Int) : Nat → Int → Int → (Int → Int) → Int
  | 0, _, m, _ => m
  | f + 1, k, m, W => if k ≤ n then (if 0 < sCode W (sCmd T n k) then m else sExeN T n f (sEnd T n k + 1) (m + 1) (sApp W (sCmd T n k))) else m
def sExeW (T : Int → Int) (n : Int) : Nat → Int → (Int → Int) → (Int → Int)
  | 0, _, W => W
  | f + 1, k, W => if k ≤ n then (if 0 < sCode W (sCmd T n k) then W else sExeW T n f (sEnd T n k + 1) (sApp W (sCmd T n k))) else W
theorem sEnd_range {T : Int → Int} {n b : Int} (h : b ≤ n) : b ≤ sEnd T n b ∧ sEnd T n b ≤ n ∧ (sEnd T n b < n → T (sEnd T n b) = 59) ∧ ∀ j, b ≤ j → j < sEnd T n b → T j ≠ 59 := by
  obtain ⟨h1, h2, h3, h4⟩ := sLx_range (P := sEndP T) (n - b).toNat b
  refine ⟨h1, by unfold sEnd; omega, fun h5 => ?_, fun j a c => ?_⟩
  · have := h3 (by unfold sEnd at h5; omega)
    simpa [sEndP, sEnd] using this
  · have := h4 j a c
    simpa [sEndP] using this
theorem sScan_stop {T : Int → Int} {n : Nat} {i : Int} {S : sSt} (h : n = 0) : sScan T n i (-1) S = S := by subst h; simp [sScan]
theorem sScan_last {T : Int → Int} {n : Nat} {i st : Int} {S : sSt} (h : n = 0) (h2 : st ≠ -1) : sScan T n i st S = sWord T S st i := by subst h; simp [sScan, h2]
theorem sScan_skip {T : Int → Int} {n : Nat} {i : Int} {S : sSt} (h : 0 < n) (h1 : T i = 32) : sScan T n i (-1) S = sScan T (n - 1) (i + 1) (-1) S := by
  obtain ⟨q, rfl⟩ : ∃ q, n = q + 1 := ⟨n - 1, by omega⟩
  simp [sScan, h1]
theorem sScan_word {T : Int → Int} {n : Nat} {i st : Int} {S : sSt} (h : 0 < n) (h1 : T i = 32) (h2 : st ≠ -1) : sScan T n i st S = sScan T (n - 1) (i + 1) (-1) (sWord T S st i) := by
  obtain ⟨q, rfl⟩ : ∃ q, n = q + 1 := ⟨n - 1, by omega⟩
  simp [sScan, h1, h2]
theorem sScan_begin {T : Int → Int} {n : Nat} {i : Int} {S : sSt} (h : 0 < n) (h1 : T i ≠ 32) : sScan T n i (-1) S = sScan T (n - 1) (i + 1) i S := by
  obtain ⟨q, rfl⟩ : ∃ q, n = q + 1 := ⟨n - 1, by omega⟩
  simp [sScan, h1]
theorem sScan_on {T : Int → Int} {n : Nat} {i st : Int} {S : sSt} (h : 0 < n) (h1 : T i ≠ 32) (h2 : st ≠ -1) : sScan T n i st S = sScan T (n - 1) (i + 1) st S := by
  obtain ⟨q, rfl⟩ : ∃ q, n = q + 1 := ⟨n - 1, by omega⟩
  simp [sScan, h1, h2]
/-- a run of signs that are no blanks -/
theorem sScan_run {T : Int → Int} {st : Int} {S : sSt} (h2 : st ≠ -1) : ∀ (q n : Nat) (i : Int), q ≤ n → (∀ j, i ≤ j → j < i + q → T j ≠ 32) → sScan T n i st S = sScan T (n - q) (i + q) st S
  | 0, n, i, _, _ => by simp
  | q + 1, n, i, h, hj => by
    rw [sScan_on (by omega) (hj i (by omega) (by omega)) h2, sScan_run h2 q (n - 1) (i + 1) (by omega) (fun j a b => hj j (by omega) (by omega)), show n - 1 - q = n - (q + 1) by omega, show i + 1 + (q : Int) = i + ((q + 1 : Nat) : Int) by omega]
/-- a whole word -/
theorem sScan_run0 {T : Int → Int} {S : sSt} {n : Nat} {i k : Int} (h0 : 0 ≤ i) (h1 : i < k) (h2 : k ≤ i + n) (hj : ∀ j, i ≤ j → j < k → T j ≠ 32) : sScan T n i (-1) S = sScan T (n - (k - i).toNat) k i S := by
  rw [sScan_begin (by omega) (hj i (by omega) h1), sScan_run (by omega) (k - i - 1).toNat (n - 1) (i + 1) (by omega) (fun j a b => hj j (by omega) (by omega)), show n - 1 - (k - i - 1).toNat = n - (k - i).toNat by omega, show i + 1 + (((k - i - 1).toNat : Nat) : Int) = k by omega]
/-- the reference's memory of a command -/
def mPr (I : Nat → Nat → Int) (A : Nat → Int → Int) (x ag : Nat) (S : sSt) : Prop := I 207 x = S.1 ∧ I 208 x = (if S.2.1 = 0 then 0 else S.2.1 - 1) ∧ I 209 x = S.2.2.1 ∧ (∀ j, 0 ≤ j → j < S.2.1 - 1 → S.2.2.2 j ≠ -1 → A ag j = S.2.2.2 j) ∧ (S.2.2.1 = 0 ∨ S.2.2.1 = 1) ∧ 0 ≤ S.2.1
def mPf (I I' : Nat → Nat → Int) (A A' : Nat → Int → Int) (x ag : Nat) : Prop := (∀ f q, (q ≠ x ∨ f < 207 ∨ 209 < f) → I' f q = I f q) ∧ (∀ q, q ≠ ag → A' q = A q)
theorem mPf.rfl {I : Nat → Nat → Int} {A : Nat → Int → Int} {x ag : Nat} : mPf I I A A x ag := ⟨fun _ _ _ => Eq.refl _, fun _ _ => Eq.refl _⟩
theorem mPf.trans {I I1 I2 : Nat → Nat → Int} {A A1 A2 : Nat → Int → Int} {x ag : Nat} (h1 : mPf I I1 A A1 x ag) (h2 : mPf I1 I2 A1 A2 x ag) : mPf I I2 A A2 x ag := ⟨fun f q h => (h2.1 f q h).trans (h1.1 f q h), fun q h => (h2.2 q h).trans (h1.2 q h)⟩
theorem mPf.up {I I' : Nat → Nat → Int} {A : Nat → Int → Int} {x ag f : Nat} {v : Int} (hf : 207 ≤ f ∧ f ≤ 209) (h : I' = g_up I f x v) : mPf I I' A A x ag := ⟨fun g q hg => by
  rw [h]
  by_cases e : g = f
  · exact g_up_ne2 _ _ (by omega)
  · exact g_up_ne1 _ _ e, fun _ _ => Eq.refl _⟩
set_option maxHeartbeats 4000000 in
set_option maxRecDepth 100000 in
theorem k_M_isWord (Y : gEnv) {K N : Nat → Nat} {I : Nat → Nat → Int} {A : Nat → Int → Int} {R : Nat → Nat → Option Nat} {Q : Nat → Int → Option Nat} {x w sv tx ag : Nat} (hM : mS K N R x w sv tx ag) (hT : ∀ j, 0 ≤ j → j < 100 → 0 ≤ A tx j ∧ A tx j ≤ 126) (f t a b c d e : Int) (hf : 0 ≤ f ∧ f < t ∧ t ≤ 100) (ha : 0 ≤ a ∧ a ≤ 126) (hb : 0 ≤ b ∧ b ≤ 126) (hc : 0 ≤ c ∧ c ≤ 126) (hd : 0 ≤ d ∧ d ≤ 126) (he : 0 ≤ e ∧ e ≤ 126) : gC Y yX13_isWord cX13_isWord 9 (some .boolean) ({ frames := 0, cells := 0, slots := 0, locals := 0 } : Room) [.ref x, vi f, vi t, vi a, vi b, vi c, vi d, vi e] K N I A R Q (g_pu (some (vi (if sWd (A tx) f t a b c d e = true then 1 else 0))) K N I A R Q) gno := by
  refine gC_of (by decide) (Nat.le_of_ble_eq_true rfl) (fun X => ?_)
  obtain ⟨hKx, hRw, hRs, hRt, hRa, hKw, hNw, hKs, hNs, hKt, hNt, hKa, hNa, hta⟩ := id hM
  refine g_iload dX13_isWord_0 rfl ?_
  refine g_if_ne (tgt := 9) dX13_isWord_2 (by decide) (by omega) (fun c_2 => ?_) (fun c_2 => ?_)
  · refine g_iconst dX13_isWord_9 ?_
    refine g_istore dX13_isWord_10 (by decide) ?_
    refine g_iload_n dX13_isWord_12 rfl rfl ?_
    refine g_iload_n dX13_isWord_13 rfl rfl ?_
    refine g_isub dX13_isWord_14 ?_
    refine g_iload dX13_isWord_15 rfl ?_
    refine g_icmp_ne (tgt := 92) dX13_isWord_17 (by decide) (by omega) (by omega) (fun c_17 => ?_) (fun c_17 => ?_)
    · refine g_iconst dX13_isWord_92 ?_
      exact g_zret dX13_isWord_93 rfl (by omega) (by decide) (by decide) (g_pu_i (by first | (rw [if_pos (sWd_iff.mpr (by unfold sWdP; split <;> omega))]; done) | (rw [if_neg (fun hh => by have h5 := sWd_iff.mp hh; unfold sWdP at h5; split at h5 <;> omega)]; done)) _ _ _ _ _ _)
    · refine g_aload_n dX13_isWord_20 rfl rfl ?_
      refine g_get_Model_text dX13_isWord_21 mw_1157 (by assumption) (by assumption) ?_
      refine g_iload_n dX13_isWord_24 rfl rfl ?_
      refine g_iaload dX13_isWord_25 (by assumption) (by omega) (by omega) ?_
      refine g_iload_n dX13_isWord_26 rfl rfl ?_
      refine g_icmp_ne (tgt := 92) dX13_isWord_27 (by decide) (by have := hT f (by omega) (by omega); omega) (by omega) (fun c_27 => ?_) (fun c_27 => ?_)
      · refine g_iconst dX13_isWord_92 ?_
        exact g_zret dX13_isWord_93 rfl (by omega) (by decide) (by decide) (g_pu_i (by first | (rw [if_pos (sWd_iff.mpr (by unfold sWdP; split <;> omega))]; done) | (rw [if_neg (fun hh => by have h5 := sWd_iff.mp hh; unfold sWdP at h5; split at h5 <;> omega)]; done)) _ _ _ _ _ _)
      · refine g_aload_n dX13_isWord_30 rfl rfl ?_
        refine g_get_Model_text dX13_isWord_31 mw_1157 (by assumption) (by assumption) ?_
        refine g_iload_n dX13_isWord_34 rfl rfl ?_
        refine g_iconst dX13_isWord_35 ?_
        refine g_iadd dX13_isWord_36 ?_
        refine g_iaload dX13_isWord_37 (by assumption) (by omega) (by omega) ?_
        refine g_iload dX13_isWord_38 rfl ?_
        refine g_icmp_ne (tgt := 92) dX13_isWord_40 (by decide) (by have := hT (f + 1) (by omega) (by omega); omega) (by omega) (fun c_40 => ?_) (fun c_40 => ?_)
        · refine g_iconst dX13_isWord_92 ?_
          exact g_zret dX13_isWord_93 rfl (by omega) (by decide) (by decide) (g_pu_i (by first | (rw [if_pos (sWd_iff.mpr (by unfold sWdP; split <;> omega))]; done) | (rw [if_neg (fun hh => by have h5 := sWd_iff.mp hh; unfold sWdP at h5; split at h5 <;> omega)]; done)) _ _ _ _ _ _)
        · refine g_aload_n dX13_isWord_43 rfl rfl ?_
          refine g_get_Model_text dX13_isWord_44 mw_1157 (by assumption) (by assumption) ?_
          refine g_iload_n dX13_isWord_47 rfl rfl ?_
          refine g_iconst dX13_isWord_48 ?_
          refine g_iadd dX13_isWord_49 ?_
          refine g_iaload dX13_isWord_50 (by assumption) (by omega) (by omega) ?_
          refine g_iload dX13_isWord_51 rfl ?_
          refine g_icmp_ne (tgt := 92) dX13_isWord_53 (by decide) (by have := hT (f + 2) (by omega) (by omega); omega) (by omega) (fun c_53 => ?_) (fun c_53 => ?_)
          · refine g_iconst dX13_isWord_92 ?_
            exact g_zret dX13_isWord_93 rfl (by omega) (by decide) (by decide) (g_pu_i (by first | (rw [if_pos (sWd_iff.mpr (by unfold sWdP; split <;> omega))]; done) | (rw [if_neg (fun hh => by have h5 := sWd_iff.mp hh; unfold sWdP at h5; split at h5 <;> omega)]; done)) _ _ _ _ _ _)
          · refine g_aload_n dX13_isWord_56 rfl rfl ?_
            refine g_get_Model_text dX13_isWord_57 mw_1157 (by assumption) (by assumption) ?_
            refine g_iload_n dX13_isWord_60 rfl rfl ?_
            refine g_iconst dX13_isWord_61 ?_
            refine g_iadd dX13_isWord_62 ?_
            refine g_iaload dX13_isWord_63 (by assumption) (by omega) (by omega) ?_
            refine g_iload dX13_isWord_64 rfl ?_
            refine g_icmp_ne (tgt := 92) dX13_isWord_66 (by decide) (by have := hT (f + 3) (by omega) (by omega); omega) (by omega) (fun c_66 => ?_) (fun c_66 => ?_)
            · refine g_iconst dX13_isWord_92 ?_
              exact g_zret dX13_isWord_93 rfl (by omega) (by decide) (by decide) (g_pu_i (by first | (rw [if_pos (sWd_iff.mpr (by unfold sWdP; split <;> omega))]; done) | (rw [if_neg (fun hh => by have h5 := sWd_iff.mp hh; unfold sWdP at h5; split at h5 <;> omega)]; done)) _ _ _ _ _ _)
            · refine g_iload dX13_isWord_69 rfl ?_
              refine g_iconst dX13_isWord_71 ?_
              refine g_icmp_eq (tgt := 88) dX13_isWord_72 (by decide) (by omega) (by omega) (fun c_72 => ?_) (fun c_72 => ?_)
              · refine g_iconst dX13_isWord_88 ?_
                refine g_goto (tgt := 93) dX13_isWord_89 (by decide) ?_
                exact g_zret dX13_isWord_93 rfl (by omega) (by decide) (by decide) (g_pu_i (by first | (rw [if_pos (sWd_iff.mpr (by unfold sWdP; split <;> omega))]; done) | (rw [if_neg (fun hh => by have h5 := sWd_iff.mp hh; unfold sWdP at h5; split at h5 <;> omega)]; done)) _ _ _ _ _ _)
              · refine g_aload_n dX13_isWord_75 rfl rfl ?_
                refine g_get_Model_text dX13_isWord_76 mw_1157 (by assumption) (by assumption) ?_
                refine g_iload_n dX13_isWord_79 rfl rfl ?_
                refine g_iconst dX13_isWord_80 ?_
                refine g_iadd dX13_isWord_81 ?_
                refine g_iaload dX13_isWord_82 (by assumption) (by omega) (by omega) ?_
                refine g_iload dX13_isWord_83 rfl ?_
                refine g_icmp_ne (tgt := 92) dX13_isWord_85 (by decide) (by have := hT (f + 4) (by omega) (by omega); omega) (by omega) (fun c_85 => ?_) (fun c_85 => ?_)
                · refine g_iconst dX13_isWord_92 ?_
                  exact g_zret dX13_isWord_93 rfl (by omega) (by decide) (by decide) (g_pu_i (by first | (rw [if_pos (sWd_iff.mpr (by unfold sWdP; split <;> omega))]; done) | (rw [if_neg (fun hh => by have h5 := sWd_iff.mp hh; unfold sWdP at h5; split at h5 <;> omega)]; done)) _ _ _ _ _ _)
                · refine g_iconst dX13_isWord_88 ?_
                  refine g_goto (tgt := 93) dX13_isWord_89 (by decide) ?_
                  exact g_zret dX13_isWord_93 rfl (by omega) (by decide) (by decide) (g_pu_i (by first | (rw [if_pos (sWd_iff.mpr (by unfold sWdP; split <;> omega))]; done) | (rw [if_neg (fun hh => by have h5 := sWd_iff.mp hh; unfold sWdP at h5; split at h5 <;> omega)]; done)) _ _ _ _ _ _)
  · refine g_iconst dX13_isWord_5 ?_
    refine g_goto (tgt := 10) dX13_isWord_6 (by decide) ?_
    refine g_istore dX13_isWord_10 (by decide) ?_
    refine g_iload_n dX13_isWord_12 rfl rfl ?_
    refine g_iload_n dX13_isWord_13 rfl rfl ?_
    refine g_isub dX13_isWord_14 ?_
    refine g_iload dX13_isWord_15 rfl ?_
    refine g_icmp_ne (tgt := 92) dX13_isWord_17 (by decide) (by omega) (by omega) (fun c_17 => ?_) (fun c_17 => ?_)
    · refine g_iconst dX13_isWord_92 ?_
      exact g_zret dX13_isWord_93 rfl (by omega) (by decide) (by decide) (g_pu_i (by first | (rw [if_pos (sWd_iff.mpr (by unfold sWdP; split <;> omega))]; done) | (rw [if_neg (fun hh => by have h5 := sWd_iff.mp hh; unfold sWdP at h5; split at h5 <;> omega)]; done)) _ _ _ _ _ _)
    · refine g_aload_n dX13_isWord_20 rfl rfl ?_
      refine g_get_Model_text dX13_isWord_21 mw_1157 (by assumption) (by assumption) ?_
      refine g_iload_n dX13_isWord_24 rfl rfl ?_
      refine g_iaload dX13_isWord_25 (by assumption) (by omega) (by omega) ?_
      refine g_iload_n dX13_isWord_26 rfl rfl ?_
      refine g_icmp_ne (tgt := 92) dX13_isWord_27 (by decide) (by have := hT f (by omega) (by omega); omega) (by omega) (fun c_27 => ?_) (fun c_27 => ?_)
      · refine g_iconst dX13_isWord_92 ?_
        exact g_zret dX13_isWord_93 rfl (by omega) (by decide) (by decide) (g_pu_i (by first | (rw [if_pos (sWd_iff.mpr (by unfold sWdP; split <;> omega))]; done) | (rw [if_neg (fun hh => by have h5 := sWd_iff.mp hh; unfold sWdP at h5; split at h5 <;> omega)]; done)) _ _ _ _ _ _)
      · refine g_aload_n dX13_isWord_30 rfl rfl ?_
        refine g_get_Model_text dX13_isWord_31 mw_1157 (by assumption) (by assumption) ?_
        refine g_iload_n dX13_isWord_34 rfl rfl ?_
        refine g_iconst dX13_isWord_35 ?_
        refine g_iadd dX13_isWord_36 ?_
        refine g_iaload dX13_isWord_37 (by assumption) (by omega) (by omega) ?_
        refine g_iload dX13_isWord_38 rfl ?_
        refine g_icmp_ne (tgt := 92) dX13_isWord_40 (by decide) (by have := hT (f + 1) (by omega) (by omega); omega) (by omega) (fun c_40 => ?_) (fun c_40 => ?_)
        · refine g_iconst dX13_isWord_92 ?_
          exact g_zret dX13_isWord_93 rfl (by omega) (by decide) (by decide) (g_pu_i (by first | (rw [if_pos (sWd_iff.mpr (by unfold sWdP; split <;> omega))]; done) | (rw [if_neg (fun hh => by have h5 := sWd_iff.mp hh; unfold sWdP at h5; split at h5 <;> omega)]; done)) _ _ _ _ _ _)
        · refine g_aload_n dX13_isWord_43 rfl rfl ?_
          refine g_get_Model_text dX13_isWord_44 mw_1157 (by assumption) (by assumption) ?_
          refine g_iload_n dX13_isWord_47 rfl rfl ?_
          refine g_iconst dX13_isWord_48 ?_
          refine g_iadd dX13_isWord_49 ?_
          refine g_iaload dX13_isWord_50 (by assumption) (by omega) (by omega) ?_
          refine g_iload dX13_isWord_51 rfl ?_
          refine g_icmp_ne (tgt := 92) dX13_isWord_53 (by decide) (by have := hT (f + 2) (by omega) (by omega); omega) (by omega) (fun c_53 => ?_) (fun c_53 => ?_)
          · refine g_iconst dX13_isWord_92 ?_
            exact g_zret dX13_isWord_93 rfl (by omega) (by decide) (by decide) (g_pu_i (by first | (rw [if_pos (sWd_iff.mpr (by unfold sWdP; split <;> omega))]; done) | (rw [if_neg (fun hh => by have h5 := sWd_iff.mp hh; unfold sWdP at h5; split at h5 <;> omega)]; done)) _ _ _ _ _ _)
          · refine g_aload_n dX13_isWord_56 rfl rfl ?_
            refine g_get_Model_text dX13_isWord_57 mw_1157 (by assumption) (by assumption) ?_
            refine g_iload_n dX13_isWord_60 rfl rfl ?_
            refine g_iconst dX13_isWord_61 ?_
            refine g_iadd dX13_isWord_62 ?_
            refine g_iaload dX13_isWord_63 (by assumption) (by omega) (by omega) ?_
            refine g_iload dX13_isWord_64 rfl ?_
            refine g_icmp_ne (tgt := 92) dX13_isWord_66 (by decide) (by have := hT (f + 3) (by omega) (by omega); omega) (by omega) (fun c_66 => ?_) (fun c_66 => ?_)
            · refine g_iconst dX13_isWord_92 ?_
              exact g_zret dX13_isWord_93 rfl (by omega) (by decide) (by decide) (g_pu_i (by first | (rw [if_pos (sWd_iff.mpr (by unfold sWdP; split <;> omega))]; done) | (rw [if_neg (fun hh => by have h5 := sWd_iff.mp hh; unfold sWdP at h5; split at h5 <;> omega)]; done)) _ _ _ _ _ _)
            · refine g_iload dX13_isWord_69 rfl ?_
              refine g_iconst dX13_isWord_71 ?_
              refine g_icmp_eq (tgt := 88) dX13_isWord_72 (by decide) (by omega) (by omega) (fun c_72 => ?_) (fun c_72 => ?_)
              · refine g_iconst dX13_isWord_88 ?_
                refine g_goto (tgt := 93) dX13_isWord_89 (by decide) ?_
                exact g_zret dX13_isWord_93 rfl (by omega) (by decide) (by decide) (g_pu_i (by first | (rw [if_pos (sWd_iff.mpr (by unfold sWdP; split <;> omega))]; done) | (rw [if_neg (fun hh => by have h5 := sWd_iff.mp hh; unfold sWdP at h5; split at h5 <;> omega)]; done)) _ _ _ _ _ _)
              · refine g_aload_n dX13_isWord_75 rfl rfl ?_
                refine g_get_Model_text dX13_isWord_76 mw_1157 (by assumption) (by assumption) ?_
                refine g_iload_n dX13_isWord_79 rfl rfl ?_
                refine g_iconst dX13_isWord_80 ?_
                refine g_iadd dX13_isWord_81 ?_
                refine g_iaload dX13_isWord_82 (by assumption) (by omega) (by omega) ?_
                refine g_iload dX13_isWord_83 rfl ?_
                refine g_icmp_ne (tgt := 92) dX13_isWord_85 (by decide) (by have := hT (f + 4) (by omega) (by omega); omega) (by omega) (fun c_85 => ?_) (fun c_85 => ?_)
                · refine g_iconst dX13_isWord_92 ?_
                  exact g_zret dX13_isWord_93 rfl (by omega) (by decide) (by decide) (g_pu_i (by first | (rw [if_pos (sWd_iff.mpr (by unfold sWdP; split <;> omega))]; done) | (rw [if_neg (fun hh => by have h5 := sWd_iff.mp hh; unfold sWdP at h5; split at h5 <;> omega)]; done)) _ _ _ _ _ _)
                · refine g_iconst dX13_isWord_88 ?_
                  refine g_goto (tgt := 93) dX13_isWord_89 (by decide) ?_
                  exact g_zret dX13_isWord_93 rfl (by omega) (by decide) (by decide) (g_pu_i (by first | (rw [if_pos (sWd_iff.mpr (by unfold sWdP; split <;> omega))]; done) | (rw [if_neg (fun hh => by have h5 := sWd_iff.mp hh; unfold sWdP at h5; split at h5 <;> omega)]; done)) _ _ _ _ _ _)
set_option maxHeartbeats 4000000 in
set_option maxRecDepth 100000 in
theorem k_M_wordOf (Y : gEnv) {K N : Nat → Nat} {I : Nat → Nat → Int} {A : Nat → Int → Int} {R : Nat → Nat → Option Nat} {Q : Nat → Int → Option Nat} {x w sv tx ag : Nat} (hM : mS K N R x w sv tx ag) (hT : ∀ j, 0 ≤ j → j < 100 → 0 ≤ A tx j ∧ A tx j ≤ 126) (f t : Int) (hf : 0 ≤ f ∧ f < t ∧ t ≤ 100) : gC Y yX13_wordOf cX13_wordOf 3 (some .int) ({ frames := 1, cells := 0, slots := 0, locals := 28 } : Room) [.ref x, vi f, vi t] K N I A R Q (g_pu (some (vi (sVerb (A tx) f t))) K N I A R Q) gno := by
  refine gC_of (by decide) (Nat.le_of_ble_eq_true rfl) (fun X => ?_)
  obtain ⟨hKx, hRw, hRs, hRt, hRa, hKw, hNw, hKs, hNs, hKt, hNt, hKa, hNa, hta⟩ := id hM
  refine g_aload_n dX13_wordOf_0 rfl rfl ?_
  refine g_iload_n dX13_wordOf_1 rfl rfl ?_
  refine g_iload_n dX13_wordOf_2 rfl rfl ?_
  refine g_bipush dX13_wordOf_3 (by decide) ?_
  refine g_bipush dX13_wordOf_5 (by decide) ?_
  refine g_bipush dX13_wordOf_7 (by decide) ?_
  refine g_bipush dX13_wordOf_9 (by decide) ?_
  refine g_iconst dX13_wordOf_11 ?_
  refine g_callVp (i := 10) rfl (gK0 (by assumption)) (g_at10 (by assumption)) (k_M_isWord Y hM hT _ _ _ _ _ _ _ (by omega) (by omega) (by omega) (by omega) (by omega) (by omega)) u_X13_isWord mw_1491 dX13_wordOf_12 rfl rfl ⟨Nat.le_of_ble_eq_true rfl, Nat.le_of_ble_eq_true rfl⟩ ⟨Nat.le_of_ble_eq_true rfl, Nat.le_of_ble_eq_true rfl⟩ (Nat.le_of_ble_eq_true rfl) ?_
  obtain ⟨b12, p12, n12⟩ := ifd2 (sWd (A tx) f t 102 105 114 101 0 = true)
  generalize (if sWd (A tx) f t 102 105 114 101 0 = true then (1 : Int) else 0) = z12 at b12 p12 n12 ⊢
  refine g_if_eq (tgt := 20) dX13_wordOf_15 (by decide) (by omega) (fun c_15 => ?_) (fun c_15 => ?_)
  · refine g_aload_n dX13_wordOf_20 rfl rfl ?_
    refine g_iload_n dX13_wordOf_21 rfl rfl ?_
    refine g_iload_n dX13_wordOf_22 rfl rfl ?_
    refine g_bipush dX13_wordOf_23 (by decide) ?_
    refine g_bipush dX13_wordOf_25 (by decide) ?_
    refine g_bipush dX13_wordOf_27 (by decide) ?_
    refine g_bipush dX13_wordOf_29 (by decide) ?_
    refine g_bipush dX13_wordOf_31 (by decide) ?_
    refine g_callVp (i := 10) rfl (gK0 (by assumption)) (g_at10 (by assumption)) (k_M_isWord Y hM hT _ _ _ _ _ _ _ (by omega) (by omega) (by omega) (by omega) (by omega) (by omega)) u_X13_isWord mw_1491 dX13_wordOf_33 rfl rfl ⟨Nat.le_of_ble_eq_true rfl, Nat.le_of_ble_eq_true rfl⟩ ⟨Nat.le_of_ble_eq_true rfl, Nat.le_of_ble_eq_true rfl⟩ (Nat.le_of_ble_eq_true rfl) ?_
    obtain ⟨b33, p33, n33⟩ := ifd2 (sWd (A tx) f t 103 114 97 100 101 = true)
    generalize (if sWd (A tx) f t 103 114 97 100 101 = true then (1 : Int) else 0) = z33 at b33 p33 n33 ⊢
    refine g_if_eq (tgt := 41) dX13_wordOf_36 (by decide) (by omega) (fun c_36 => ?_) (fun c_36 => ?_)
    · refine g_aload_n dX13_wordOf_41 rfl rfl ?_
      refine g_iload_n dX13_wordOf_42 rfl rfl ?_
      refine g_iload_n dX13_wordOf_43 rfl rfl ?_
      refine g_bipush dX13_wordOf_44 (by decide) ?_
      refine g_bipush dX13_wordOf_46 (by decide) ?_
      refine g_bipush dX13_wordOf_48 (by decide) ?_
      refine g_bipush dX13_wordOf_50 (by decide) ?_
      refine g_iconst dX13_wordOf_52 ?_
      refine g_callVp (i := 10) rfl (gK0 (by assumption)) (g_at10 (by assumption)) (k_M_isWord Y hM hT _ _ _ _ _ _ _ (by omega) (by omega) (by omega) (by omega) (by omega) (by omega)) u_X13_isWord mw_1491 dX13_wordOf_53 rfl rfl ⟨Nat.le_of_ble_eq_true rfl, Nat.le_of_ble_eq_true rfl⟩ ⟨Nat.le_of_ble_eq_true rfl, Nat.le_of_ble_eq_true rfl⟩ (Nat.le_of_ble_eq_true rfl) ?_
      obtain ⟨b53, p53, n53⟩ := ifd2 (sWd (A tx) f t 112 97 99 107 0 = true)
      generalize (if sWd (A tx) f t 112 97 99 107 0 = true then (1 : Int) else 0) = z53 at b53 p53 n53 ⊢
      refine g_if_eq (tgt := 61) dX13_wordOf_56 (by decide) (by omega) (fun c_56 => ?_) (fun c_56 => ?_)
      · refine g_aload_n dX13_wordOf_61 rfl rfl ?_
        refine g_iload_n dX13_wordOf_62 rfl rfl ?_
        refine g_iload_n dX13_wordOf_63 rfl rfl ?_
        refine g_bipush dX13_wordOf_64 (by decide) ?_
        refine g_bipush dX13_wordOf_66 (by decide) ?_
        refine g_bipush dX13_wordOf_68 (by decide) ?_
        refine g_bipush dX13_wordOf_70 (by decide) ?_
        refine g_iconst dX13_wordOf_72 ?_
        refine g_callVp (i := 10) rfl (gK0 (by assumption)) (g_at10 (by assumption)) (k_M_isWord Y hM hT _ _ _ _ _ _ _ (by omega) (by omega) (by omega) (by omega) (by omega) (by omega)) u_X13_isWord mw_1491 dX13_wordOf_73 rfl rfl ⟨Nat.le_of_ble_eq_true rfl, Nat.le_of_ble_eq_true rfl⟩ ⟨Nat.le_of_ble_eq_true rfl, Nat.le_of_ble_eq_true rfl⟩ (Nat.le_of_ble_eq_true rfl) ?_
        obtain ⟨b73, p73, n73⟩ := ifd2 (sWd (A tx) f t 115 104 105 112 0 = true)
        generalize (if sWd (A tx) f t 115 104 105 112 0 = true then (1 : Int) else 0) = z73 at b73 p73 n73 ⊢
        refine g_if_eq (tgt := 81) dX13_wordOf_76 (by decide) (by omega) (fun c_76 => ?_) (fun c_76 => ?_)
        · refine g_aload_n dX13_wordOf_81 rfl rfl ?_
          refine g_iload_n dX13_wordOf_82 rfl rfl ?_
          refine g_iload_n dX13_wordOf_83 rfl rfl ?_
          refine g_bipush dX13_wordOf_84 (by decide) ?_
          refine g_bipush dX13_wordOf_86 (by decide) ?_
          refine g_bipush dX13_wordOf_88 (by decide) ?_
          refine g_bipush dX13_wordOf_90 (by decide) ?_
          refine g_iconst dX13_wordOf_92 ?_
          refine g_callVp (i := 10) rfl (gK0 (by assumption)) (g_at10 (by assumption)) (k_M_isWord Y hM hT _ _ _ _ _ _ _ (by omega) (by omega) (by omega) (by omega) (by omega) (by omega)) u_X13_isWord mw_1491 dX13_wordOf_93 rfl rfl ⟨Nat.le_of_ble_eq_true rfl, Nat.le_of_ble_eq_true rfl⟩ ⟨Nat.le_of_ble_eq_true rfl, Nat.le_of_ble_eq_true rfl⟩ (Nat.le_of_ble_eq_true rfl) ?_
          obtain ⟨b93, p93, n93⟩ := ifd2 (sWd (A tx) f t 100 114 111 112 0 = true)
          generalize (if sWd (A tx) f t 100 114 111 112 0 = true then (1 : Int) else 0) = z93 at b93 p93 n93 ⊢
          refine g_if_eq (tgt := 103) dX13_wordOf_96 (by decide) (by omega) (fun c_96 => ?_) (fun c_96 => ?_)
          · refine g_iconst dX13_wordOf_103 ?_
            exact g_iret dX13_wordOf_104 rfl (by decide) (by decide) (g_pu_i (by first | (unfold sVerb; rw [if_neg (n12 (by omega)), if_neg (n33 (by omega)), if_neg (n53 (by omega)), if_neg (n73 (by omega)), if_pos (p93 (by omega))]; done) | (unfold sVerb; rw [if_neg (n12 (by omega)), if_neg (n33 (by omega)), if_neg (n53 (by omega)), if_neg (n73 (by omega)), if_neg (n93 (by omega))]; done)) _ _ _ _ _ _)
          · refine g_iconst dX13_wordOf_99 ?_
            refine g_goto (tgt := 104) dX13_wordOf_100 (by decide) ?_
            exact g_iret dX13_wordOf_104 rfl (by decide) (by decide) (g_pu_i (by first | (unfold sVerb; rw [if_neg (n12 (by omega)), if_neg (n33 (by omega)), if_neg (n53 (by omega)), if_neg (n73 (by omega)), if_pos (p93 (by omega))]; done) | (unfold sVerb; rw [if_neg (n12 (by omega)), if_neg (n33 (by omega)), if_neg (n53 (by omega)), if_neg (n73 (by omega)), if_neg (n93 (by omega))]; done)) _ _ _ _ _ _)
        · refine g_iconst dX13_wordOf_79 ?_
          exact g_iret dX13_wordOf_80 rfl (by decide) (by decide) (g_pu_i (by unfold sVerb; rw [if_neg (n12 (by omega)), if_neg (n33 (by omega)), if_neg (n53 (by omega)), if_pos (p73 (by omega))]) _ _ _ _ _ _)
      · refine g_iconst dX13_wordOf_59 ?_
        exact g_iret dX13_wordOf_60 rfl (by decide) (by decide) (g_pu_i (by unfold sVerb; rw [if_neg (n12 (by omega)), if_neg (n33 (by omega)), if_pos (p53 (by omega))]) _ _ _ _ _ _)
    · refine g_iconst dX13_wordOf_39 ?_
      exact g_iret dX13_wordOf_40 rfl (by decide) (by decide) (g_pu_i (by unfold sVerb; rw [if_neg (n12 (by omega)), if_pos (p33 (by omega))]) _ _ _ _ _ _)
  · refine g_iconst dX13_wordOf_18 ?_
    exact g_iret dX13_wordOf_19 rfl (by decide) (by decide) (g_pu_i (by unfold sVerb; rw [if_pos (p12 (by omega))]) _ _ _ _ _ _)
set_option maxHeartbeats 4000000 in
set_option maxRecDepth 100000 in
theorem lp_M_takeArgument {Y : gEnv} {X : gCtx} {K N : Nat → Nat} {I : Nat → Nat → Int} {A : Nat → Int → Int} {R : Nat → Nat → Option Nat} {Q : Nat → Int → Option Nat} {po : gPo} {px : gPx} {x w sv tx ag : Nat} (hM : mS K N R x w sv tx ag) (hT : ∀ j, 0 ≤ j → j < 100 → 0 ≤ A tx j ∧ A tx j ≤ 126) (f0 t : Int) (hf : 0 ≤ f0 ∧ f0 < t ∧ t ≤ 100) (kx : ∀ v q k : Int, (q = 0 ∨ q = 1) → (q = 1 → v = sNum (A tx) f0 t ∧ 0 ≤ v) → (q = 0 → sNum (A tx) f0 t = -1) → gJ Y X yX13_takeArgument cX13_takeArgument 6 none ({ frames := 1, cells := 0, slots := 0, locals := 25 } : Room) po px 0 0 71 [(0, .ref x), (1, vi f0), (2, vi t), (3, vi v), (4, vi q), (5, vi k)] [] K N I A R Q) : ∀ (f m : Nat) (k v q : Int), m < f → f0 ≤ k → k + m = t → (q = 0 ∨ q = 1) → (q = 1 → sNum (A tx) f0 t = sNumL (A tx) m k v ∧ 0 ≤ v) → (q = 0 → sNum (A tx) f0 t = -1) → gJ Y X yX13_takeArgument cX13_takeArgument 6 none ({ frames := 1, cells := 0, slots := 0, locals := 25 } : Room) po px 0 0 19 [(0, .ref x), (1, vi f0), (2, vi t), (3, vi v), (4, vi q), (5, vi k)] [] K N I A R Q := by
  obtain ⟨hKx, hRw, hRs, hRt, hRa, hKw, hNw, hKs, hNs, hKt, hNt, hKa, hNa, hta⟩ := id hM
  intro f
  induction f with
  | zero => intro m k v q h; omega
  | succ f ih =>
  intro m k v q hf2 hk hm hq h1 h0
  refine g_iload dX13_takeArgument_19 rfl ?_
  refine g_iload_n dX13_takeArgument_21 rfl rfl ?_
  refine g_icmp_ge (tgt := 71) dX13_takeArgument_22 (by decide) (by omega) (by omega) (fun c_22 => ?_) (fun c_22 => ?_)
  · first
    | exact g_locs (by exact ⟨rfl, rfl, rfl, rfl, rfl, rfl, trivial⟩) (kx v q k hq (fun hz => ⟨by rw [(h1 hz).1, sNumL_stop (by omega)], (h1 hz).2⟩) h0)
    | exact g_locs (by exact ⟨rfl, rfl, rfl, rfl, rfl, rfl, trivial⟩) (kx v q k hq (fun hz => by omega) h0)
  · refine g_iload dX13_takeArgument_25 rfl ?_
    refine g_if_eq (tgt := 71) dX13_takeArgument_27 (by decide) (by omega) (fun c_27 => ?_) (fun c_27 => ?_)
    · first
      | exact g_locs (by exact ⟨rfl, rfl, rfl, rfl, rfl, rfl, trivial⟩) (kx v q k hq (fun hz => ⟨by rw [(h1 hz).1, sNumL_stop (by omega)], (h1 hz).2⟩) h0)
      | exact g_locs (by exact ⟨rfl, rfl, rfl, rfl, rfl, rfl, trivial⟩) (kx v q k hq (fun hz => by omega) h0)
    · have hTk := hT k (by omega) (by omega)
      refine g_aload_n dX13_takeArgument_30 rfl rfl ?_
      refine g_get_Model_text dX13_takeArgument_31 mw_1157 (by assumption) (by assumption) ?_
      refine g_iload dX13_takeArgument_34 rfl ?_
      refine g_iaload dX13_takeArgument_36 (by assumption) (by omega) (by omega) ?_
      refine g_i2l dX13_takeArgument_37 (by omega) ?_
      refine g_ldc2 (c := 48) dX13_takeArgument_38 mw_1499 (by decide) ?_
      refine g_ldc2 (c := 57) dX13_takeArgument_41 mw_1500 (by decide) ?_
      refine g_callSp (k_M_in Y _ _ _ (by omega) (by omega) (by omega)) u_X13_in mw_1199 rfl dX13_takeArgument_44 rfl rfl ⟨Nat.le_of_ble_eq_true rfl, Nat.le_of_ble_eq_true rfl⟩ ⟨Nat.le_of_ble_eq_true rfl, Nat.le_of_ble_eq_true rfl⟩ (Nat.le_of_ble_eq_true rfl) ?_
      obtain ⟨b44, p44, n44⟩ := ifd2 (48 ≤ A tx k ∧ A tx k ≤ 57)
      generalize (if 48 ≤ A tx k ∧ A tx k ≤ 57 then (1 : Int) else 0) = z44 at b44 p44 n44 ⊢
      obtain ⟨g1, g2⟩ := h1 (by omega)
      refine g_istore dX13_takeArgument_47 (by decide) ?_
      refine g_bipush dX13_takeArgument_49 (by decide) ?_
      refine g_iload_n dX13_takeArgument_51 rfl rfl ?_
      refine g_imul dX13_takeArgument_52 ?_
      refine g_aload_n dX13_takeArgument_53 rfl rfl ?_
      refine g_get_Model_text dX13_takeArgument_54 mw_1157 (by assumption) (by assumption) ?_
      refine g_iload dX13_takeArgument_57 rfl ?_
      refine g_iaload dX13_takeArgument_59 (by assumption) (by omega) (by omega) ?_
      refine g_iadd dX13_takeArgument_60 ?_
      refine g_bipush dX13_takeArgument_61 (by decide) ?_
      refine g_isub dX13_takeArgument_63 ?_
      refine g_istore_n dX13_takeArgument_64 rfl (by decide) ?_
      refine g_iinc dX13_takeArgument_65 rfl (by decide) ?_
      refine g_goto (tgt := 19) dX13_takeArgument_68 (by decide) ?_
      exact g_locs (by exact ⟨rfl, rfl, rfl, rfl, rfl, rfl, trivial⟩) (ih (m - 1) (k + 1) (10 * v + A tx k - 48) z44 (by omega) (by omega) (by omega) b44 (fun hz => ⟨by rw [g1, sNumL_step (by omega) (by have := p44 (by omega); omega), show 10 * v + (A tx k - 48) = 10 * v + A tx k - 48 by omega], by have := p44 (by omega); omega⟩) (fun hz => by rw [g1, sNumL_bad (by omega) (by have := n44 hz; omega)]))
set_option maxHeartbeats 4000000 in
set_option maxRecDepth 100000 in
theorem k_M_takeArgument (Y : gEnv) {K N : Nat → Nat} {I : Nat → Nat → Int} {A : Nat → Int → Int} {R : Nat → Nat → Option Nat} {Q : Nat → Int → Option Nat} {x w sv tx ag : Nat} (hM : mS K N R x w sv tx ag) (hT : ∀ j, 0 ≤ j → j < 100 → 0 ≤ A tx j ∧ A tx j ≤ 126) (f0 t : Int) (hf : 0 ≤ f0 ∧ f0 < t ∧ t ≤ 100) (h8 : 0 ≤ I 208 x ∧ I 208 x < 100) (h9 : I 209 x = 0 ∨ I 209 x = 1) : gC Y yX13_takeArgument cX13_takeArgument 6 none ({ frames := 1, cells := 0, slots := 0, locals := 25 } : Room) [.ref x, vi f0, vi t] K N I A R Q (g_wr K N R Q (fun v I' A' => v = none ∧ I' = g_up (g_up I 209 x (if I 209 x ≠ 0 ∧ sNum (A tx) f0 t ≠ -1 then 1 else 0)) 208 x (I 208 x + 1) ∧ ∃ z : Int, A' = g_uq A ag (I 208 x) z ∧ (sNum (A tx) f0 t ≠ -1 → z = sNum (A tx) f0 t))) gno := by
  refine gC_of (by decide) (Nat.le_of_ble_eq_true rfl) (fun X => ?_)
  obtain ⟨hKx, hRw, hRs, hRt, hRa, hKw, hNw, hKs, hNs, hKt, hNt, hKa, hNa, hta⟩ := id hM
  have kx : ∀ v q k : Int, (q = 0 ∨ q = 1) → (q = 1 → v = sNum (A tx) f0 t ∧ 0 ≤ v) → (q = 0 → sNum (A tx) f0 t = -1) → gJ Y X yX13_takeArgument cX13_takeArgument 6 none ({ frames := 1, cells := 0, slots := 0, locals := 25 } : Room) (g_wr K N R Q (fun v I' A' => v = none ∧ I' = g_up (g_up I 209 x (if I 209 x ≠ 0 ∧ sNum (A tx) f0 t ≠ -1 then 1 else 0)) 208 x (I 208 x + 1) ∧ ∃ z : Int, A' = g_uq A ag (I 208 x) z ∧ (sNum (A tx) f0 t ≠ -1 → z = sNum (A tx) f0 t))) gno 0 0 71 [(0, .ref x), (1, vi f0), (2, vi t), (3, vi v), (4, vi q), (5, vi k)] [] K N I A R Q := by
    intro v q k hq g1 g0
    refine g_aload_n dX13_takeArgument_71 rfl rfl ?_
    refine g_aload_n dX13_takeArgument_72 rfl rfl ?_
    refine g_get_Model_areNumbers dX13_takeArgument_73 mw_1164 (by assumption) ?_
    refine g_if_eq (tgt := 88) dX13_takeArgument_76 (by decide) (by omega) (fun c_76 => ?_) (fun c_76 => ?_)
    · refine g_iconst dX13_takeArgument_88 ?_
      refine g_put_Model_areNumbers  (by omega) dX13_takeArgument_89 mw_1164 (by assumption) (fun I89 hI89 => ?_)
      have e208 : I89 208 x = I 208 x := by rw [hI89]; simp [g_up]
      refine g_aload_n dX13_takeArgument_92 rfl rfl ?_
      refine g_get_Model_argument dX13_takeArgument_93 mw_1158 (by assumption) (by assumption) ?_
      refine g_aload_n dX13_takeArgument_96 rfl rfl ?_
      refine g_get_Model_arguments dX13_takeArgument_97 mw_1163 (by assumption) ?_
      refine g_iload_n dX13_takeArgument_100 rfl rfl ?_
      refine g_iastore dX13_takeArgument_101 (by assumption) (by omega) (by rw [e208]; omega) (fun A101 hA101 => ?_)
      refine g_aload_n dX13_takeArgument_102 rfl rfl ?_
      refine g_dup dX13_takeArgument_103 rfl ?_
      refine g_get_Model_arguments dX13_takeArgument_104 mw_1163 (by assumption) ?_
      refine g_iconst dX13_takeArgument_107 ?_
      refine g_iadd dX13_takeArgument_108 ?_
      refine g_put_Model_arguments dX13_takeArgument_109 mw_1163 (by assumption) (fun I109 hI109 => ?_)
      exact g_vret dX13_takeArgument_112 rfl (by decide) (by decide) ⟨rfl, rfl, rfl, rfl, rfl, by
      rw [hI109, e208, hI89]
      first
      | (rw [if_pos ⟨by omega, fun hh => by have := g1 (by omega); omega⟩]; done)
      | (rw [if_neg (fun hh => by have := hh.1; omega)]; done)
      | (rw [if_neg (fun hh => hh.2 (g0 (by omega)))]; done), v, by rw [hA101, e208], fun hn => by
      rcases hq with hq | hq
      · exact absurd (g0 hq) hn
      · exact (g1 hq).1⟩
    · refine g_iload dX13_takeArgument_79 rfl ?_
      refine g_if_eq (tgt := 88) dX13_takeArgument_81 (by decide) (by omega) (fun c_81 => ?_) (fun c_81 => ?_)
      · refine g_iconst dX13_takeArgument_88 ?_
        refine g_put_Model_areNumbers  (by omega) dX13_takeArgument_89 mw_1164 (by assumption) (fun I89 hI89 => ?_)
        have e208 : I89 208 x = I 208 x := by rw [hI89]; simp [g_up]
        refine g_aload_n dX13_takeArgument_92 rfl rfl ?_
        refine g_get_Model_argument dX13_takeArgument_93 mw_1158 (by assumption) (by assumption) ?_
        refine g_aload_n dX13_takeArgument_96 rfl rfl ?_
        refine g_get_Model_arguments dX13_takeArgument_97 mw_1163 (by assumption) ?_
        refine g_iload_n dX13_takeArgument_100 rfl rfl ?_
        refine g_iastore dX13_takeArgument_101 (by assumption) (by omega) (by rw [e208]; omega) (fun A101 hA101 => ?_)
        refine g_aload_n dX13_takeArgument_102 rfl rfl ?_
        refine g_dup dX13_takeArgument_103 rfl ?_
        refine g_get_Model_arguments dX13_takeArgument_104 mw_1163 (by assumption) ?_
        refine g_iconst dX13_takeArgument_107 ?_
        refine g_iadd dX13_takeArgument_108 ?_
        refine g_put_Model_arguments dX13_takeArgument_109 mw_1163 (by assumption) (fun I109 hI109 => ?_)
        exact g_vret dX13_takeArgument_112 rfl (by decide) (by decide) ⟨rfl, rfl, rfl, rfl, rfl, by
      rw [hI109, e208, hI89]
      first
      | (rw [if_pos ⟨by omega, fun hh => by have := g1 (by omega); omega⟩]; done)
      | (rw [if_neg (fun hh => by have := hh.1; omega)]; done)
      | (rw [if_neg (fun hh => hh.2 (g0 (by omega)))]; done), v, by rw [hA101, e208], fun hn => by
      rcases hq with hq | hq
      · exact absurd (g0 hq) hn
      · exact (g1 hq).1⟩
      · refine g_iconst dX13_takeArgument_84 ?_
        refine g_goto (tgt := 89) dX13_takeArgument_85 (by decide) ?_
        refine g_put_Model_areNumbers  (by omega) dX13_takeArgument_89 mw_1164 (by assumption) (fun I89 hI89 => ?_)
        have e208 : I89 208 x = I 208 x := by rw [hI89]; simp [g_up]
        refine g_aload_n dX13_takeArgument_92 rfl rfl ?_
        refine g_get_Model_argument dX13_takeArgument_93 mw_1158 (by assumption) (by assumption) ?_
        refine g_aload_n dX13_takeArgument_96 rfl rfl ?_
        refine g_get_Model_arguments dX13_takeArgument_97 mw_1163 (by assumption) ?_
        refine g_iload_n dX13_takeArgument_100 rfl rfl ?_
        refine g_iastore dX13_takeArgument_101 (by assumption) (by omega) (by rw [e208]; omega) (fun A101 hA101 => ?_)
        refine g_aload_n dX13_takeArgument_102 rfl rfl ?_
        refine g_dup dX13_takeArgument_103 rfl ?_
        refine g_get_Model_arguments dX13_takeArgument_104 mw_1163 (by assumption) ?_
        refine g_iconst dX13_takeArgument_107 ?_
        refine g_iadd dX13_takeArgument_108 ?_
        refine g_put_Model_arguments dX13_takeArgument_109 mw_1163 (by assumption) (fun I109 hI109 => ?_)
        exact g_vret dX13_takeArgument_112 rfl (by decide) (by decide) ⟨rfl, rfl, rfl, rfl, rfl, by
      rw [hI109, e208, hI89]
      first
      | (rw [if_pos ⟨by omega, fun hh => by have := g1 (by omega); omega⟩]; done)
      | (rw [if_neg (fun hh => by have := hh.1; omega)]; done)
      | (rw [if_neg (fun hh => hh.2 (g0 (by omega)))]; done), v, by rw [hA101, e208], fun hn => by
      rcases hq with hq | hq
      · exact absurd (g0 hq) hn
      · exact (g1 hq).1⟩
  refine g_iconst dX13_takeArgument_0 ?_
  refine g_istore_n dX13_takeArgument_1 rfl (by decide) ?_
  refine g_iload_n dX13_takeArgument_2 rfl rfl ?_
  refine g_iload_n dX13_takeArgument_3 rfl rfl ?_
  refine g_isub dX13_takeArgument_4 ?_
  refine g_iconst dX13_takeArgument_5 ?_
  refine g_icmp_ge (tgt := 13) dX13_takeArgument_6 (by decide) (by omega) (by omega) (fun c_6 => ?_) (fun c_6 => ?_)
  · refine g_iconst dX13_takeArgument_13 ?_
    refine g_istore dX13_takeArgument_14 (by decide) ?_
    refine g_iload_n dX13_takeArgument_16 rfl rfl ?_
    refine g_istore dX13_takeArgument_17 (by decide) ?_
    first
    | exact g_locs (by exact ⟨rfl, rfl, rfl, rfl, rfl, rfl, trivial⟩) (lp_M_takeArgument hM hT f0 t hf kx _ (t - f0).toNat f0 0 1 (Nat.lt_succ_self _) (by omega) (by omega) (by omega) (fun _ => ⟨by unfold sNum; rw [if_neg (by omega)], by omega⟩) (fun h => by omega))
    | exact g_locs (by exact ⟨rfl, rfl, rfl, rfl, rfl, rfl, trivial⟩) (lp_M_takeArgument hM hT f0 t hf kx _ (t - f0).toNat f0 0 0 (Nat.lt_succ_self _) (by omega) (by omega) (by omega) (fun h => by omega) (fun _ => by unfold sNum; rw [if_pos (by omega)]))
  · refine g_iconst dX13_takeArgument_9 ?_
    refine g_goto (tgt := 14) dX13_takeArgument_10 (by decide) ?_
    refine g_istore dX13_takeArgument_14 (by decide) ?_
    refine g_iload_n dX13_takeArgument_16 rfl rfl ?_
    refine g_istore dX13_takeArgument_17 (by decide) ?_
    first
    | exact g_locs (by exact ⟨rfl, rfl, rfl, rfl, rfl, rfl, trivial⟩) (lp_M_takeArgument hM hT f0 t hf kx _ (t - f0).toNat f0 0 1 (Nat.lt_succ_self _) (by omega) (by omega) (by omega) (fun _ => ⟨by unfold sNum; rw [if_neg (by omega)], by omega⟩) (fun h => by omega))
    | exact g_locs (by exact ⟨rfl, rfl, rfl, rfl, rfl, rfl, trivial⟩) (lp_M_takeArgument hM hT f0 t hf kx _ (t - f0).toNat f0 0 0 (Nat.lt_succ_self _) (by omega) (by omega) (by omega) (fun h => by omega) (fun _ => by unfold sNum; rw [if_pos (by omega)]))
