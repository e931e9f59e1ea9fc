/-! ===== the numbers of a factory: w in the reference's order; what each call answers and makes of w ===== -/
def sU (w : Int → Int) (i v : Int) : Int → Int := fun j => if j = i then v else w j
theorem sU_eq (w : Int → Int) (i v : Int) : sU w i v i = v := by simp [sU]
theorem sU_ne (w : Int → Int) {i j : Int} (v : Int) (h : j ≠ i) : sU w i v j = w j := by simp [sU, h]
def g_rw (A : Nat → Int → Int) (q : Nat) (f : Int → Int) : Nat → Int → Int := fun b j => if b = q then f j else A b j
theorem g_rw_at (A : Nat → Int → Int) (q : Nat) (f : Int → Int) : g_rw A q f q = f := by funext j; simp [g_rw]
theorem g_rw_ne (A : Nat → Int → Int) {q b : Nat} (f : Int → Int) (h : b ≠ q) : g_rw A q f b = A b := by funext j; simp [g_rw, h]
theorem g_rw_self (A : Nat → Int → Int) (q : Nat) : g_rw A q (A q) = A := by
  funext b j
  by_cases h : b = q
  · subst h; simp [g_rw]
  · simp [g_rw, h]
theorem g_rw_rw (A : Nat → Int → Int) (q : Nat) (f g : Int → Int) : g_rw (g_rw A q f) q g = g_rw A q g := by
  funext b j
  by_cases h : b = q <;> simp [g_rw, h]
theorem g_uq_rw (A : Nat → Int → Int) (q : Nat) (i z : Int) : g_uq A q i z = g_rw A q (sU (A q) i z) := by
  funext b j
  by_cases h : b = q
  · subst h; simp [g_uq, g_rw, sU]
  · simp [g_uq, g_rw, h]
theorem g_uq_rw2 (A : Nat → Int → Int) (q : Nat) (f : Int → Int) (i z : Int) : g_uq (g_rw A q f) q i z = g_rw A q (sU f i z) := by rw [g_uq_rw, g_rw_at, g_rw_rw]
theorem g_up_up {α : Type} (I : Nat → Nat → α) (f q : Nat) (a b : α) : g_up (g_up I f q a) f q b = g_up I f q b := by
  funext c d
  by_cases h : c = f <;> by_cases h2 : d = q <;> simp [g_up, h, h2]
/-- the first place from l on, n of them, with P; -1 if none -/
def sIx (P : Int → Bool) : Nat → Int → Int
  | 0, _ => -1
  | n + 1, l => if P l then l else sIx P n (l + 1)
def sSum (f : Int → Int) : Nat → Int → Int
  | 0, _ => 0
  | n + 1, l => f l + sSum f n (l + 1)
theorem m64 {z : Int} (h : -1000000000000000 ≤ z ∧ z ≤ 1000000000000000) : -9223372036854775808 ≤ z ∧ z ≤ 9223372036854775807 := by omega
theorem td_pos {a b : Int} (ha : 0 ≤ a) : a.tdiv b = a / b := Int.tdiv_eq_ediv_of_nonneg ha
def sFindP (w : Int → Int) (g s r : Int) : Int → Bool := fun l => decide (w (410 + l) = g) && (decide (w (570 + l) = s) && decide (w (730 + l) = r))
def sFind (w : Int → Int) (g s r : Int) : Int := sIx (sFindP w g s r) (w 1614).toNat 0
def sContent (w : Int → Int) (l : Int) : Int := w (890 + l) + w (1050 + l) * w 89
def sWorth (w : Int → Int) (l : Int) : Int := if w (730 + l) = 1 then w (12 + w (410 + l)) else (w (12 + w (410 + l))).tdiv 2
def sWarm (w : Int → Int) (kiln position peak : Int) : Int := peak + w (16 + 8 * kiln + position) + (if kiln = 2 then 5 * (position - 3) else 0)
def sClamp (z : Int) : Int := if z < 0 then 0 else if 19 < z then 19 else z
def sShade (w : Int → Int) (kiln position glaze peak : Int) : Int := sClamp (w glaze + (w (4 + glaze) * (sWarm w kiln position peak - 1000)) / 100)
def sStays (sharp : Int) : Nat → Int → Int
  | 0, h => h
  | n + 1, h => sStays sharp n (h - (h * sharp + 99).tdiv 100)
def sB1 (b : Prop) [Decidable b] : Int := if b then 1 else 0
def mS (K N : Nat → Nat) (R : Nat → Nat → Option Nat) (x w sv tx ag : Nat) : Prop := K x = 11 ∧ R 200 x = some w ∧ R 201 x = some sv ∧ R 202 x = some tx ∧ R 203 x = some ag ∧ K w = 14 ∧ N w = 1618 ∧ K sv = 14 ∧ N sv = 9708 ∧ K tx = 13 ∧ N tx = 100 ∧ K ag = 13 ∧ N ag = 100
def mB (f : Int → Int) : Prop := ∀ i, -1000000000000000 ≤ f i ∧ f i ≤ 1000000000000000
theorem sIx_stop {P : Int → Bool} {n : Nat} {l : Int} (h : n = 0) : sIx P n l = -1 := by subst h; rfl
theorem sIx_hit {P : Int → Bool} {n : Nat} {l : Int} (h : 0 < n) (hp : P l = true) : sIx P n l = l := by
  obtain ⟨m, rfl⟩ : ∃ m, n = m + 1 := ⟨n - 1, by omega⟩
  simp [sIx, hp]
theorem sIx_miss {P : Int → Bool} {n : Nat} {l : Int} (h : 0 < n) (hp : P l = false) : sIx P n l = sIx P (n - 1) (l + 1) := by
  obtain ⟨m, rfl⟩ : ∃ m, n = m + 1 := ⟨n - 1, by omega⟩
  simp [sIx, hp]
theorem sSum_stop {f : Int → Int} {n : Nat} {l : Int} (h : n = 0) : sSum f n l = 0 := by subst h; rfl
theorem sSum_step {f : Int → Int} {n : Nat} {l : Int} (h : 0 < n) : sSum f n l = f l + sSum f (n - 1) (l + 1) := by
  obtain ⟨m, rfl⟩ : ∃ m, n = m + 1 := ⟨n - 1, by omega⟩
  rfl
theorem sStays_stop {s h : Int} {n : Nat} (hn : n = 0) : sStays s n h = h := by subst hn; rfl
theorem sStays_step {s h : Int} {n : Nat} (hn : 0 < n) : sStays s n h = sStays s (n - 1) (h - (h * s + 99).tdiv 100) := by
  obtain ⟨m, rfl⟩ : ∃ m, n = m + 1 := ⟨n - 1, by omega⟩
  rfl
theorem sHundredth {v : Int} : (if v < 100 * v.tdiv 100 then v.tdiv 100 - 1 else v.tdiv 100) = v / 100 := by
  by_cases h : 0 ≤ v
  · rw [td_pos h]
    split <;> omega
  · have e : v.tdiv 100 = -((-v) / 100) := by
      rw [← td_pos (show 0 ≤ -v by omega), Int.neg_tdiv, Int.neg_neg]
    rw [e]
    split <;> omega
