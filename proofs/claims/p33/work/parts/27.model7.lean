/-! ===== a text, its commands ===== -/
def sWdP (T : Int → Int) (f t a b c d e : Int) : Prop := t - f = (if e = 0 then 4 else 5) ∧ T f = a ∧ T (f + 1) = b ∧ T (f + 2) = c ∧ T (f + 3) = d ∧ (e = 0 ∨ T (f + 4) = e)
def sWd (T : Int → Int) (f t a b c d e : Int) : Bool := decide (t - f = (if e = 0 then 4 else 5)) && (decide (T f = a) && (decide (T (f + 1) = b) && (decide (T (f + 2) = c) && (decide (T (f + 3) = d) && (decide (e = 0) || decide (T (f + 4) = e))))))
theorem sWd_iff {T : Int → Int} {f t a b c d e : Int} : sWd T f t a b c d e = true ↔ sWdP T f t a b c d e := by
  simp only [sWd, sWdP, Bool.and_eq_true, Bool.or_eq_true, decide_eq_true_eq]
def sVerb (T : Int → Int) (f t : Int) : Int := if sWd T f t 102 105 114 101 0 = true then 1 else if sWd T f t 103 114 97 100 101 = true then 2 else if sWd T f t 112 97 99 107 0 = true then 3 else if sWd T f t 115 104 105 112 0 = true then 4 else if sWd T f t 100 114 111 112 0 = true then 5 else 0
def sNumL (T : Int → Int) : Nat → Int → Int → Int
  | 0, _, v => v
  | n + 1, i, v => if T i < 48 ∨ 57 < T i then -1 else sNumL T n (i + 1) (10 * v + (T i - 48))
def sNum (T : Int → Int) (f t : Int) : Int := if t - f < 1 ∨ 4 < t - f then -1 else sNumL T (t - f).toNat f 0
theorem sNumL_stop {T : Int → Int} {i v : Int} {n : Nat} (h : n = 0) : sNumL T n i v = v := by subst h; rfl
theorem sNumL_bad {T : Int → Int} {i v : Int} {n : Nat} (h : 0 < n) (hp : T i < 48 ∨ 57 < T i) : sNumL T n i v = -1 := by
  obtain ⟨q, rfl⟩ : ∃ q, n = q + 1 := ⟨n - 1, by omega⟩
  simp only [sNumL, if_pos hp]
theorem sNumL_step {T : Int → Int} {i v : Int} {n : Nat} (h : 0 < n) (hp : ¬ (T i < 48 ∨ 57 < T i)) : sNumL T n i v = sNumL T (n - 1) (i + 1) (10 * v + (T i - 48)) := by
  obtain ⟨q, rfl⟩ : ∃ q, n = q + 1 := ⟨n - 1, by omega⟩
  simp only [sNumL, if_neg hp, Nat.add_sub_cancel]
abbrev sSt : Type := Int × Int × Int × (Int → Int)
def sWord (T : Int → Int) (S : sSt) (f t : Int) : sSt := if S.2.1 = 0 then (sVerb T f t, 1, S.2.2.1, S.2.2.2) else (S.1, S.2.1 + 1, (if sNum T f t = -1 then 0 else S.2.2.1), sU S.2.2.2 (S.2.1 - 1) (sNum T f t))
def sScan (T : Int → Int) : Nat → Int → Int → sSt → sSt
  | 0, i, st, S => if st = -1 then S else sWord T S st i
  | n + 1, i, st, S => if T i = 32 then (if st = -1 then sScan T n (i + 1) (-1) S else sScan T n (i + 1) (-1) (sWord T S st i)) else (if st = -1 then sScan T n (i + 1) i S else sScan T n (i + 1) st S)
def sEndP (T : Int → Int) : Int → Bool := fun i => decide (T i = 59)
def sEnd (T : Int → Int) (n b : Int) : Int := sLx (sEndP T) (n - b).toNat b
def sS0 : sSt := (0, 0, 1, fun _ => 0)
def sCmd (T : Int → Int) (n b : Int) : sSt := sScan T (sEnd T n b - b).toNat b (-1) sS0
def sNeed (v : Int) : Int := if v = 1 ∨ v = 5 then 4 else if v = 2 then 1 else if v = 4 then 3 else 0
def sKind (S : sSt) : Int := if S.1 = 0 then 1 else if S.2.1 - 1 ≠ sNeed S.1 then 2 else if S.2.2.1 = 0 then 3 else 0
def sErr (T : Int → Int) (n : Int) : Nat → Int → Int → Int
  | 0, _, _ => -1
  | f + 1, k, m => if k ≤ n then (if 0 < sKind (sCmd T n k) then 10 * m + sKind (sCmd T n k) else sErr T n f (sEnd T n k + 1) (m + 1)) else -1
theorem sEnd_range {T : Int → Int} {n b : Int} (h : b ≤ n) : b ≤ sEnd T n b ∧ sEnd T n b ≤ n ∧ (sEnd T n b < n → T (sEnd T n b) = 59) ∧ ∀ j, b ≤ j → j < sEnd T n b → T j ≠ 59 := by
  obtain ⟨h1, h2, h3, h4⟩ := sLx_range (P := sEndP T) (n - b).toNat b
  refine ⟨h1, by unfold sEnd; omega, fun h5 => ?_, fun j a c => ?_⟩
  · have := h3 (by unfold sEnd at h5; omega)
    simpa [sEndP, sEnd] using this
  · have := h4 j a c
    simpa [sEndP] using this
theorem sScan_stop {T : Int → Int} {n : Nat} {i : Int} {S : sSt} (h : n = 0) : sScan T n i (-1) S = S := by subst h; simp [sScan]
theorem sScan_last {T : Int → Int} {n : Nat} {i st : Int} {S : sSt} (h : n = 0) (h2 : st ≠ -1) : sScan T n i st S = sWord T S st i := by subst h; simp [sScan, h2]
theorem sScan_skip {T : Int → Int} {n : Nat} {i : Int} {S : sSt} (h : 0 < n) (h1 : T i = 32) : sScan T n i (-1) S = sScan T (n - 1) (i + 1) (-1) S := by
  obtain ⟨q, rfl⟩ : ∃ q, n = q + 1 := ⟨n - 1, by omega⟩
  simp [sScan, h1]
theorem sScan_word {T : Int → Int} {n : Nat} {i st : Int} {S : sSt} (h : 0 < n) (h1 : T i = 32) (h2 : st ≠ -1) : sScan T n i st S = sScan T (n - 1) (i + 1) (-1) (sWord T S st i) := by
  obtain ⟨q, rfl⟩ : ∃ q, n = q + 1 := ⟨n - 1, by omega⟩
  simp [sScan, h1, h2]
theorem sScan_begin {T : Int → Int} {n : Nat} {i : Int} {S : sSt} (h : 0 < n) (h1 : T i ≠ 32) : sScan T n i (-1) S = sScan T (n - 1) (i + 1) i S := by
  obtain ⟨q, rfl⟩ : ∃ q, n = q + 1 := ⟨n - 1, by omega⟩
  simp [sScan, h1]
theorem sScan_on {T : Int → Int} {n : Nat} {i st : Int} {S : sSt} (h : 0 < n) (h1 : T i ≠ 32) (h2 : st ≠ -1) : sScan T n i st S = sScan T (n - 1) (i + 1) st S := by
  obtain ⟨q, rfl⟩ : ∃ q, n = q + 1 := ⟨n - 1, by omega⟩
  simp [sScan, h1, h2]
/-- the reference's memory of a command -/
def mPr (I : Nat → Nat → Int) (A : Nat → Int → Int) (x ag : Nat) (S : sSt) : Prop := I 207 x = S.1 ∧ I 208 x = (if S.2.1 = 0 then 0 else S.2.1 - 1) ∧ I 209 x = S.2.2.1 ∧ (∀ j, 0 ≤ j → j < S.2.1 - 1 → S.2.2.2 j ≠ -1 → A ag j = S.2.2.2 j) ∧ (S.2.2.1 = 0 ∨ S.2.2.1 = 1) ∧ 0 ≤ S.2.1
def mPf (I I' : Nat → Nat → Int) (A A' : Nat → Int → Int) (x ag : Nat) : Prop := (∀ f q, (q ≠ x ∨ f < 207 ∨ 209 < f) → I' f q = I f q) ∧ (∀ q, q ≠ ag → A' q = A q)
theorem mPf.rfl {I : Nat → Nat → Int} {A : Nat → Int → Int} {x ag : Nat} : mPf I I A A x ag := ⟨fun _ _ _ => Eq.refl _, fun _ _ => Eq.refl _⟩
theorem mPf.trans {I I1 I2 : Nat → Nat → Int} {A A1 A2 : Nat → Int → Int} {x ag : Nat} (h1 : mPf I I1 A A1 x ag) (h2 : mPf I1 I2 A1 A2 x ag) : mPf I I2 A A2 x ag := ⟨fun f q h => (h2.1 f q h).trans (h1.1 f q h), fun q h => (h2.2 q h).trans (h1.2 q h)⟩
theorem mPf.up {I I' : Nat → Nat → Int} {A : Nat → Int → Int} {x ag f : Nat} {v : Int} (hf : 207 ≤ f ∧ f ≤ 209) (h : I' = g_up I f x v) : mPf I I' A A x ag := ⟨fun g q hg => by
  rw [h]
  by_cases e : g = f
  · exact g_up_ne2 _ _ (by omega)
  · exact g_up_ne1 _ _ e, fun _ _ => Eq.refl _⟩
