/-! ===== the numbers of a factory: w in the reference's order; what each call answers and makes of w ===== -/
def sU (w : Int → Int) (i v : Int) : Int → Int := fun j => if j = i then v else w j
theorem sU_eq (w : Int → Int) (i v : Int) : sU w i v i = v := by simp [sU]
theorem sU_ne (w : Int → Int) {i j : Int} (v : Int) (h : j ≠ i) : sU w i v j = w j := by simp [sU, h]
def g_rw (A : Nat → Int → Int) (q : Nat) (f : Int → Int) : Nat → Int → Int := fun b j => if b = q then f j else A b j
theorem g_rw_at (A : Nat → Int → Int) (q : Nat) (f : Int → Int) : g_rw A q f q = f := by funext j; simp [g_rw]
theorem g_rw_ne (A : Nat → Int → Int) {q b : Nat} (f : Int → Int) (h : b ≠ q) : g_rw A q f b = A b := by funext j; simp [g_rw, h]
theorem g_rw_self (A : Nat → Int → Int) (q : Nat) : g_rw A q (A q) = A := by
  funext b j
  by_cases h : b = q
  · subst h; simp [g_rw]
  · simp [g_rw, h]
theorem g_rw_rw (A : Nat → Int → Int) (q : Nat) (f g : Int → Int) : g_rw (g_rw A q f) q g = g_rw A q g := by
  funext b j
  by_cases h : b = q <;> simp [g_rw, h]
theorem g_uq_rw (A : Nat → Int → Int) (q : Nat) (i z : Int) : g_uq A q i z = g_rw A q (sU (A q) i z) := by
  funext b j
  by_cases h : b = q
  · subst h; simp [g_uq, g_rw, sU]
  · simp [g_uq, g_rw, h]
theorem g_uq_rw2 (A : Nat → Int → Int) (q : Nat) (f : Int → Int) (i z : Int) : g_uq (g_rw A q f) q i z = g_rw A q (sU f i z) := by rw [g_uq_rw, g_rw_at, g_rw_rw]
theorem g_up_up {α : Type} (I : Nat → Nat → α) (f q : Nat) (a b : α) : g_up (g_up I f q a) f q b = g_up I f q b := by
  funext c d
  by_cases h : c = f <;> by_cases h2 : d = q <;> simp [g_up, h, h2]
/-- the first place from l on, n of them, with P; -1 if none -/
def sIx (P : Int → Bool) : Nat → Int → Int
  | 0, _ => -1
  | n + 1, l => if P l then l else sIx P n (l + 1)
def sSum (f : Int → Int) : Nat → Int → Int
  | 0, _ => 0
  | n + 1, l => f l + sSum f n (l + 1)
theorem m64 {z : Int} (h : -1000000000000000 ≤ z ∧ z ≤ 1000000000000000) : -9223372036854775808 ≤ z ∧ z ≤ 9223372036854775807 := by omega
theorem td_pos {a b : Int} (ha : 0 ≤ a) : a.tdiv b = a / b := Int.tdiv_eq_ediv_of_nonneg ha
def sFindP (w : Int → Int) (g s r : Int) : Int → Bool := fun l => decide (w (410 + l) = g) && (decide (w (570 + l) = s) && decide (w (730 + l) = r))
def sFind (w : Int → Int) (g s r : Int) : Int := sIx (sFindP w g s r) (w 1614).toNat 0
def sContent (w : Int → Int) (l : Int) : Int := w (890 + l) + w (1050 + l) * w 89
def sWorth (w : Int → Int) (l : Int) : Int := if w (730 + l) = 1 then w (12 + w (410 + l)) else (w (12 + w (410 + l))).tdiv 2
def sWarm (w : Int → Int) (kiln position peak : Int) : Int := peak + w (16 + 8 * kiln + position) + (if kiln = 2 then 5 * (position - 3) else 0)
def sClamp (z : Int) : Int := if z < 0 then 0 else if 19 < z then 19 else z
def sShade (w : Int → Int) (kiln position glaze peak : Int) : Int := sClamp (w glaze + (w (4 + glaze) * (sWarm w kiln position peak - 1000)) / 100)
def sStays (sharp : Int) : Nat → Int → Int
  | 0, h => h
  | n + 1, h => sStays sharp n (h - (h * sharp + 99).tdiv 100)
def sB1 (b : Prop) [Decidable b] : Int := if b then 1 else 0
def mS (K N : Nat → Nat) (R : Nat → Nat → Option Nat) (x w sv tx ag : Nat) : Prop := K x = 11 ∧ R 200 x = some w ∧ R 201 x = some sv ∧ R 202 x = some tx ∧ R 203 x = some ag ∧ K w = 14 ∧ N w = 1618 ∧ K sv = 14 ∧ N sv = 9708 ∧ K tx = 13 ∧ N tx = 100 ∧ K ag = 13 ∧ N ag = 100
def mB (f : Int → Int) : Prop := ∀ i, -1000000000000000 ≤ f i ∧ f i ≤ 1000000000000000
theorem sIx_stop {P : Int → Bool} {n : Nat} {l : Int} (h : n = 0) : sIx P n l = -1 := by subst h; rfl
theorem sIx_hit {P : Int → Bool} {n : Nat} {l : Int} (h : 0 < n) (hp : P l = true) : sIx P n l = l := by
  obtain ⟨m, rfl⟩ : ∃ m, n = m + 1 := ⟨n - 1, by omega⟩
  simp [sIx, hp]
theorem sIx_miss {P : Int → Bool} {n : Nat} {l : Int} (h : 0 < n) (hp : P l = false) : sIx P n l = sIx P (n - 1) (l + 1) := by
  obtain ⟨m, rfl⟩ : ∃ m, n = m + 1 := ⟨n - 1, by omega⟩
  simp [sIx, hp]
theorem sSum_stop {f : Int → Int} {n : Nat} {l : Int} (h : n = 0) : sSum f n l = 0 := by subst h; rfl
theorem sSum_step {f : Int → Int} {n : Nat} {l : Int} (h : 0 < n) : sSum f n l = f l + sSum f (n - 1) (l + 1) := by
  obtain ⟨m, rfl⟩ : ∃ m, n = m + 1 := ⟨n - 1, by omega⟩
  rfl
theorem sStays_stop {s h : Int} {n : Nat} (hn : n = 0) : sStays s n h = h := by subst hn; rfl
theorem sStays_step {s h : Int} {n : Nat} (hn : 0 < n) : sStays s n h = sStays s (n - 1) (h - (h * s + 99).tdiv 100) := by
  obtain ⟨m, rfl⟩ : ∃ m, n = m + 1 := ⟨n - 1, by omega⟩
  rfl
theorem sHundredth {v : Int} : (if v < 100 * v.tdiv 100 then v.tdiv 100 - 1 else v.tdiv 100) = v / 100 := by
  by_cases h : 0 ≤ v
  · rw [td_pos h]
    split <;> omega
  · have e : v.tdiv 100 = -((-v) / 100) := by
      rw [← td_pos (show 0 ≤ -v by omega), Int.neg_tdiv, Int.neg_neg]
    rw [e]
    split <;> omega
theorem sMulB {a b B C : Int} (ha : 0 ≤ a ∧ a ≤ B) (hb : -C ≤ b ∧ b ≤ C) : -(B * C) ≤ a * b ∧ a * b ≤ B * C := by
  have hB : 0 ≤ B := by omega
  have hC : 0 ≤ C := by omega
  have h1 : a * b ≤ B * C := by
    rcases Int.le_total 0 b with h | h
    · exact Int.mul_le_mul ha.2 hb.2 h hB
    · have h2 := Int.mul_nonpos_of_nonneg_of_nonpos ha.1 h
      have h3 := Int.mul_nonneg hB hC
      omega
  have h2 : a * (-b) ≤ B * C := by
    rcases Int.le_total 0 (-b) with h | h
    · exact Int.mul_le_mul ha.2 (by omega) h hB
    · have h2 := Int.mul_nonpos_of_nonneg_of_nonpos ha.1 h
      have h3 := Int.mul_nonneg hB hC
      omega
  rw [Int.mul_neg] at h2
  omega
def sMay (w : Int → Int) (g r b l : Int) : Bool := decide (w (410 + l) = g) && (decide (w (730 + l) = r) && decide (b ≤ w (1050 + l)))
def sBet (w : Int → Int) (l e : Int) : Bool := decide (e = -1) || (decide (w (1050 + l) < w (1050 + e)) || (decide (w (1050 + l) = w (1050 + e)) && decide (w (570 + l) < w (570 + e))))
def sLotL (w : Int → Int) (g r b : Int) : Nat → Int → Int → Int
  | 0, _, e => e
  | n + 1, l, e => sLotL w g r b n (l + 1) (if sMay w g r b l && sBet w l e then l else e)
def sLotFor (w : Int → Int) (g r b : Int) : Int := sLotL w g r b (w 1614).toNat 0 (-1)
theorem sLotL_stop {w : Int → Int} {g r b l e : Int} {n : Nat} (h : n = 0) : sLotL w g r b n l e = e := by subst h; rfl
theorem sLotL_take {w : Int → Int} {g r b l e : Int} {n : Nat} (h : 0 < n) (hp : (sMay w g r b l && sBet w l e) = true) : sLotL w g r b n l e = sLotL w g r b (n - 1) (l + 1) l := by
  obtain ⟨m, rfl⟩ : ∃ m, n = m + 1 := ⟨n - 1, by omega⟩
  simp only [sLotL, hp, if_true, Nat.add_sub_cancel]
theorem sLotL_skip {w : Int → Int} {g r b l e : Int} {n : Nat} (h : 0 < n) (hp : (sMay w g r b l && sBet w l e) = false) : sLotL w g r b n l e = sLotL w g r b (n - 1) (l + 1) e := by
  obtain ⟨m, rfl⟩ : ∃ m, n = m + 1 := ⟨n - 1, by omega⟩
  simp only [sLotL, hp, Nat.add_sub_cancel]
  rfl
def sFireT (w : Int → Int) (kiln glaze peak tiles : Int) : Int := if ¬ (0 ≤ kiln ∧ kiln ≤ 2 ∧ 0 ≤ glaze ∧ glaze ≤ 3) then 1 else if ¬ (800 ≤ peak ∧ peak ≤ 1200 ∧ 1 ≤ tiles ∧ tiles ≤ 100) then 2 else if w 1610 = 2000 then 3 else 0
def sGradeT (w : Int → Int) (passes : Int) : Int := if ¬ (1 ≤ passes ∧ passes ≤ 10) then 1 else if w 1613 = 0 then 2 else 0
def sDeliverT (w : Int → Int) (g r b : Int) : Int := if ¬ (0 ≤ g ∧ g ≤ 3) then 1 else if ¬ (1 ≤ r ∧ r ≤ 2 ∧ 1 ≤ b ∧ b ≤ 100000) then 2 else if w 1615 = 40 ∨ sLotFor w g r b = -1 then 3 else 0
def sDropT (w : Int → Int) (g s r b : Int) : Int := if sFind w g s r = -1 then 1 else if ¬ (0 ≤ b ∧ b ≤ w 89) then 2 else if w (1050 + sFind w g s r) = 0 then 3 else 0
theorem sIx_range {P : Int → Bool} : ∀ (n : Nat) (l : Int), sIx P n l = -1 ∨ (l ≤ sIx P n l ∧ sIx P n l < l + n ∧ P (sIx P n l) = true)
  | 0, l => Or.inl rfl
  | n + 1, l => by
    by_cases h : P l = true
    · right
      rw [sIx_hit (by omega) h]
      exact ⟨by omega, by omega, h⟩
    · rw [sIx_miss (by omega) (by simpa using h), Nat.add_sub_cancel]
      rcases sIx_range n (l + 1) with h1 | ⟨h1, h2, h3⟩
      · exact Or.inl h1
      · exact Or.inr ⟨by omega, by omega, h3⟩
theorem sFind_range {w : Int → Int} (hn : 0 ≤ w 1614) (g s r : Int) : sFind w g s r = -1 ∨ (0 ≤ sFind w g s r ∧ sFind w g s r < w 1614 ∧ sFindP w g s r (sFind w g s r) = true) := by
  rcases sIx_range (P := sFindP w g s r) (w 1614).toNat 0 with h | ⟨h1, h2, h3⟩
  · exact Or.inl h
  · exact Or.inr ⟨h1, by unfold sFind; omega, h3⟩
theorem sLotL_range {w : Int → Int} {g r b : Int} : ∀ (n : Nat) (l e : Int), (sLotL w g r b n l e = e ∨ (l ≤ sLotL w g r b n l e ∧ sLotL w g r b n l e < l + n ∧ sMay w g r b (sLotL w g r b n l e) = true))
  | 0, l, e => Or.inl rfl
  | n + 1, l, e => by
    by_cases h : (sMay w g r b l && sBet w l e) = true
    · rw [sLotL_take (by omega) h, Nat.add_sub_cancel]
      rcases sLotL_range n (l + 1) l with h1 | ⟨h1, h2, h3⟩
      · rw [h1]
        simp at h
        exact Or.inr ⟨by omega, by omega, h.1⟩
      · exact Or.inr ⟨by omega, by omega, h3⟩
    · rw [sLotL_skip (by omega) (by simpa using h), Nat.add_sub_cancel]
      rcases sLotL_range n (l + 1) e with h1 | ⟨h1, h2, h3⟩
      · exact Or.inl h1
      · exact Or.inr ⟨by omega, by omega, h3⟩
theorem sLotFor_range {w : Int → Int} (hn : 0 ≤ w 1614) (g r b : Int) : sLotFor w g r b = -1 ∨ (0 ≤ sLotFor w g r b ∧ sLotFor w g r b < w 1614 ∧ sMay w g r b (sLotFor w g r b) = true) := by
  rcases sLotL_range (w := w) (g := g) (r := r) (b := b) (w 1614).toNat 0 (-1) with h | ⟨h1, h2, h3⟩
  · exact Or.inl h
  · exact Or.inr ⟨h1, by unfold sLotFor; omega, h3⟩
