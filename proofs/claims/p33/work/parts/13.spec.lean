/-! ===== the numbers of a factory: w in the reference's order; what each call answers and makes of w ===== -/
def sU (w : Int → Int) (i v : Int) : Int → Int := fun j => if j = i then v else w j
theorem sU_eq (w : Int → Int) (i v : Int) : sU w i v i = v := by simp [sU]
theorem sU_ne (w : Int → Int) {i j : Int} (v : Int) (h : j ≠ i) : sU w i v j = w j := by simp [sU, h]
def g_rw (A : Nat → Int → Int) (q : Nat) (f : Int → Int) : Nat → Int → Int := fun b j => if b = q then f j else A b j
theorem g_rw_at (A : Nat → Int → Int) (q : Nat) (f : Int → Int) : g_rw A q f q = f := by funext j; simp [g_rw]
theorem g_rw_ne (A : Nat → Int → Int) {q b : Nat} (f : Int → Int) (h : b ≠ q) : g_rw A q f b = A b := by funext j; simp [g_rw, h]
theorem g_rw_self (A : Nat → Int → Int) (q : Nat) : g_rw A q (A q) = A := by
  funext b j
  by_cases h : b = q
  · subst h; simp [g_rw]
  · simp [g_rw, h]
theorem g_rw_rw (A : Nat → Int → Int) (q : Nat) (f g : Int → Int) : g_rw (g_rw A q f) q g = g_rw A q g := by
  funext b j
  by_cases h : b = q <;> simp [g_rw, h]
theorem g_uq_rw (A : Nat → Int → Int) (q : Nat) (i z : Int) : g_uq A q i z = g_rw A q (sU (A q) i z) := by
  funext b j
  by_cases h : b = q
  · subst h; simp [g_uq, g_rw, sU]
  · simp [g_uq, g_rw, h]
theorem g_uq_rw2 (A : Nat → Int → Int) (q : Nat) (f : Int → Int) (i z : Int) : g_uq (g_rw A q f) q i z = g_rw A q (sU f i z) := by rw [g_uq_rw, g_rw_at, g_rw_rw]
theorem g_up_up {α : Type} (I : Nat → Nat → α) (f q : Nat) (a b : α) : g_up (g_up I f q a) f q b = g_up I f q b := by
  funext c d
  by_cases h : c = f <;> by_cases h2 : d = q <;> simp [g_up, h, h2]
/-- the first place from l on, n of them, with P; -1 if none -/
def sIx (P : Int → Bool) : Nat → Int → Int
  | 0, _ => -1
  | n + 1, l => if P l then l else sIx P n (l + 1)
def sSum (f : Int → Int) : Nat → Int → Int
  | 0, _ => 0
  | n + 1, l => f l + sSum f n (l + 1)
theorem td_pos {a b : Int} (ha : 0 ≤ a) : a.tdiv b = a / b := Int.tdiv_eq_ediv_of_nonneg ha
def sFindP (w : Int → Int) (g s r : Int) : Int → Bool := fun l => decide (w (410 + l) = g) && (decide (w (570 + l) = s) && decide (w (730 + l) = r))
def sFind (w : Int → Int) (g s r : Int) : Int := sIx (sFindP w g s r) (w 1614).toNat 0
def sContent (w : Int → Int) (l : Int) : Int := w (890 + l) + w (1050 + l) * w 89
def sWorth (w : Int → Int) (l : Int) : Int := if w (730 + l) = 1 then w (12 + w (410 + l)) else (w (12 + w (410 + l))).tdiv 2
def sWarm (w : Int → Int) (kiln position peak : Int) : Int := peak + w (16 + 8 * kiln + position) + (if kiln = 2 then 5 * (position - 3) else 0)
def sClamp (z : Int) : Int := if z < 0 then 0 else if 19 < z then 19 else z
def sShade (w : Int → Int) (kiln position glaze peak : Int) : Int := sClamp (w glaze + (w (4 + glaze) * (sWarm w kiln position peak - 1000)) / 100)
def sStays (sharp : Int) : Nat → Int → Int
  | 0, h => h
  | n + 1, h => sStays sharp n (h - (h * sharp + 99).tdiv 100)
theorem sIx_stop {P : Int → Bool} {n : Nat} {l : Int} (h : n = 0) : sIx P n l = -1 := by subst h; rfl
theorem sIx_hit {P : Int → Bool} {n : Nat} {l : Int} (h : 0 < n) (hp : P l = true) : sIx P n l = l := by
  obtain ⟨m, rfl⟩ : ∃ m, n = m + 1 := ⟨n - 1, by omega⟩
  simp [sIx, hp]
theorem sIx_miss {P : Int → Bool} {n : Nat} {l : Int} (h : 0 < n) (hp : P l = false) : sIx P n l = sIx P (n - 1) (l + 1) := by
  obtain ⟨m, rfl⟩ : ∃ m, n = m + 1 := ⟨n - 1, by omega⟩
  simp [sIx, hp]
theorem sSum_stop {f : Int → Int} {n : Nat} {l : Int} (h : n = 0) : sSum f n l = 0 := by subst h; rfl
theorem sSum_step {f : Int → Int} {n : Nat} {l : Int} (h : 0 < n) : sSum f n l = f l + sSum f (n - 1) (l + 1) := by
  obtain ⟨m, rfl⟩ : ∃ m, n = m + 1 := ⟨n - 1, by omega⟩
  rfl
theorem sStays_stop {s h : Int} {n : Nat} (hn : n = 0) : sStays s n h = h := by subst hn; rfl
theorem sStays_step {s h : Int} {n : Nat} (hn : 0 < n) : sStays s n h = sStays s (n - 1) (h - (h * s + 99).tdiv 100) := by
  obtain ⟨m, rfl⟩ : ∃ m, n = m + 1 := ⟨n - 1, by omega⟩
  rfl
theorem sMulB {a b B C : Int} (ha : 0 ≤ a ∧ a ≤ B) (hb : -C ≤ b ∧ b ≤ C) : -(B * C) ≤ a * b ∧ a * b ≤ B * C := by
  have hB : 0 ≤ B := by omega
  have hC : 0 ≤ C := by omega
  have h1 : a * b ≤ B * C := by
    rcases Int.le_total 0 b with h | h
    · exact Int.mul_le_mul ha.2 hb.2 h hB
    · have h2 := Int.mul_nonpos_of_nonneg_of_nonpos ha.1 h
      have h3 := Int.mul_nonneg hB hC
      omega
  have h2 : a * (-b) ≤ B * C := by
    rcases Int.le_total 0 (-b) with h | h
    · exact Int.mul_le_mul ha.2 (by omega) h hB
    · have h2 := Int.mul_nonpos_of_nonneg_of_nonpos ha.1 h
      have h3 := Int.mul_nonneg hB hC
      omega
  rw [Int.mul_neg] at h2
  omega
def sMay (w : Int → Int) (g r b l : Int) : Bool := decide (w (410 + l) = g) && (decide (w (730 + l) = r) && decide (b ≤ w (1050 + l)))
def sBet (w : Int → Int) (l e : Int) : Bool := decide (e = -1) || (decide (w (1050 + l) < w (1050 + e)) || (decide (w (1050 + l) = w (1050 + e)) && decide (w (570 + l) < w (570 + e))))
def sLotL (w : Int → Int) (g r b : Int) : Nat → Int → Int → Int
  | 0, _, e => e
  | n + 1, l, e => sLotL w g r b n (l + 1) (if sMay w g r b l && sBet w l e then l else e)
def sLotFor (w : Int → Int) (g r b : Int) : Int := sLotL w g r b (w 1614).toNat 0 (-1)
theorem sLotL_stop {w : Int → Int} {g r b l e : Int} {n : Nat} (h : n = 0) : sLotL w g r b n l e = e := by subst h; rfl
theorem sLotL_take {w : Int → Int} {g r b l e : Int} {n : Nat} (h : 0 < n) (hp : (sMay w g r b l && sBet w l e) = true) : sLotL w g r b n l e = sLotL w g r b (n - 1) (l + 1) l := by
  obtain ⟨m, rfl⟩ : ∃ m, n = m + 1 := ⟨n - 1, by omega⟩
  simp only [sLotL, hp, if_true, Nat.add_sub_cancel]
theorem sLotL_skip {w : Int → Int} {g r b l e : Int} {n : Nat} (h : 0 < n) (hp : (sMay w g r b l && sBet w l e) = false) : sLotL w g r b n l e = sLotL w g r b (n - 1) (l + 1) e := by
  obtain ⟨m, rfl⟩ : ∃ m, n = m + 1 := ⟨n - 1, by omega⟩
  simp only [sLotL, hp, Nat.add_sub_cancel]
  rfl
def sFireT (w : Int → Int) (kiln glaze peak tiles : Int) : Int := if ¬ (0 ≤ kiln ∧ kiln ≤ 2 ∧ 0 ≤ glaze ∧ glaze ≤ 3) then 1 else if ¬ (800 ≤ peak ∧ peak ≤ 1200 ∧ 1 ≤ tiles ∧ tiles ≤ 100) then 2 else if w 1610 = 2000 then 3 else 0
def sGradeT (w : Int → Int) (passes : Int) : Int := if ¬ (1 ≤ passes ∧ passes ≤ 10) then 1 else if w 1613 = 0 then 2 else 0
def sDeliverT (w : Int → Int) (g r b : Int) : Int := if ¬ (0 ≤ g ∧ g ≤ 3) then 1 else if ¬ (1 ≤ r ∧ r ≤ 2 ∧ 1 ≤ b ∧ b ≤ 100000) then 2 else if w 1615 = 40 ∨ sLotFor w g r b = -1 then 3 else 0
def sDropT (w : Int → Int) (g s r b : Int) : Int := if sFind w g s r = -1 then 1 else if ¬ (0 ≤ b ∧ b ≤ w 89) then 2 else if w (1050 + sFind w g s r) = 0 then 3 else 0
theorem sIx_range {P : Int → Bool} : ∀ (n : Nat) (l : Int), sIx P n l = -1 ∨ (l ≤ sIx P n l ∧ sIx P n l < l + n ∧ P (sIx P n l) = true)
  | 0, l => Or.inl rfl
  | n + 1, l => by
    by_cases h : P l = true
    · right
      rw [sIx_hit (by omega) h]
      exact ⟨by omega, by omega, h⟩
    · rw [sIx_miss (by omega) (by simpa using h), Nat.add_sub_cancel]
      rcases sIx_range n (l + 1) with h1 | ⟨h1, h2, h3⟩
      · exact Or.inl h1
      · exact Or.inr ⟨by omega, by omega, h3⟩
theorem sFind_range {w : Int → Int} (hn : 0 ≤ w 1614) (g s r : Int) : sFind w g s r = -1 ∨ (0 ≤ sFind w g s r ∧ sFind w g s r < w 1614 ∧ sFindP w g s r (sFind w g s r) = true) := by
  rcases sIx_range (P := sFindP w g s r) (w 1614).toNat 0 with h | ⟨h1, h2, h3⟩
  · exact Or.inl h
  · exact Or.inr ⟨h1, by unfold sFind; omega, h3⟩
theorem sLotL_range {w : Int → Int} {g r b : Int} : ∀ (n : Nat) (l e : Int), (sLotL w g r b n l e = e ∨ (l ≤ sLotL w g r b n l e ∧ sLotL w g r b n l e < l + n ∧ sMay w g r b (sLotL w g r b n l e) = true))
  | 0, l, e => Or.inl rfl
  | n + 1, l, e => by
    by_cases h : (sMay w g r b l && sBet w l e) = true
    · rw [sLotL_take (by omega) h, Nat.add_sub_cancel]
      rcases sLotL_range n (l + 1) l with h1 | ⟨h1, h2, h3⟩
      · rw [h1]
        simp at h
        exact Or.inr ⟨by omega, by omega, h.1⟩
      · exact Or.inr ⟨by omega, by omega, h3⟩
    · rw [sLotL_skip (by omega) (by simpa using h), Nat.add_sub_cancel]
      rcases sLotL_range n (l + 1) e with h1 | ⟨h1, h2, h3⟩
      · exact Or.inl h1
      · exact Or.inr ⟨by omega, by omega, h3⟩
theorem sLotFor_range {w : Int → Int} (hn : 0 ≤ w 1614) (g r b : Int) : sLotFor w g r b = -1 ∨ (0 ≤ sLotFor w g r b ∧ sLotFor w g r b < w 1614 ∧ sMay w g r b (sLotFor w g r b) = true) := by
  rcases sLotL_range (w := w) (g := g) (r := r) (b := b) (w 1614).toNat 0 (-1) with h | ⟨h1, h2, h3⟩
  · exact Or.inl h
  · exact Or.inr ⟨h1, by unfold sLotFor; omega, h3⟩
def sShift (w : Int → Int) (k : Int) : Int → Int := fun j => if 1570 ≤ j ∧ j < 1570 + k then w (j + 1) else if 1590 ≤ j ∧ j < 1590 + k then w (j + 1) else w j
def sHap1 (w : Int → Int) : Int → Int := if w 1616 = 20 then sU (sShift w 19) 1616 (sShift w 19 1616 - 1) else w
def sPut3 (a : Int → Int) (k num : Int) : Int → Int := sU (sU (sU a (1570 + a 1616) k) (1590 + (sU a (1570 + a 1616) k) 1616) num) 1616 ((sU (sU a (1570 + a 1616) k) (1590 + (sU a (1570 + a 1616) k) 1616) num) 1616 + 1)
def sHap (w : Int → Int) (k num : Int) : Int → Int := sPut3 (sHap1 w) k num
def sBrk (w : Int → Int) (t : Int) : Int → Int := if 0 < t then sHap (sU w 1612 (w 1612 + t)) 4 t else sU w 1612 (w 1612 + t)
def sAddAt (w : Int → Int) (l t h : Int) : Int → Int := sU (sU w (890 + l) (w (890 + l) + t)) (1210 + l) ((sU w (890 + l) (w (890 + l) + t)) (1210 + l) + h)
def sAddNew (w : Int → Int) (m g s r : Int) : Int → Int := sU (sU (sU (sU w 1614 (w 1614 + 1)) (410 + m) g) (570 + m) s) (730 + m) r
def sAdd (w : Int → Int) (g s r t h : Int) : Int → Int := if t = 0 then w else if sFind w g s r = -1 then sAddAt (sAddNew w (w 1614) g s r) (w 1614) t h else sAddAt w (sFind w g s r) t h
def sLx (P : Int → Bool) : Nat → Int → Int
  | 0, l => l
  | n + 1, l => if P l then l else sLx P n (l + 1)
theorem sLx_hit {P : Int → Bool} {n : Nat} {l : Int} (h : 0 < n) (hp : P l = true) : sLx P n l = l := by
  obtain ⟨m, rfl⟩ : ∃ m, n = m + 1 := ⟨n - 1, by omega⟩
  simp [sLx, hp]
theorem sLx_miss {P : Int → Bool} {n : Nat} {l : Int} (h : 0 < n) (hp : P l = false) : sLx P n l = sLx P (n - 1) (l + 1) := by
  obtain ⟨m, rfl⟩ : ∃ m, n = m + 1 := ⟨n - 1, by omega⟩
  simp [sLx, hp]
theorem sLx_range {P : Int → Bool} : ∀ (n : Nat) (l : Int), l ≤ sLx P n l ∧ sLx P n l ≤ l + n ∧ (sLx P n l < l + n → P (sLx P n l) = true) ∧ ∀ j, l ≤ j → j < sLx P n l → P j = false
  | 0, l => ⟨Int.le_refl _, by simp [sLx], by simp [sLx], fun j h1 h2 => by simp [sLx] at h2; omega⟩
  | n + 1, l => by
    by_cases h : P l = true
    · rw [sLx_hit (by omega) h]
      exact ⟨by omega, by omega, fun _ => h, fun j h1 h2 => by omega⟩
    · have hf : P l = false := by simpa using h
      rw [sLx_miss (by omega) hf, Nat.add_sub_cancel]
      obtain ⟨h1, h2, h3, h4⟩ := sLx_range (P := P) n (l + 1)
      exact ⟨by omega, by omega, fun h5 => h3 (by omega), fun j h5 h6 => by
        by_cases e : j = l
        · rw [e]; exact hf
        · exact h4 j (by omega) h6⟩
def sLayP (w : Int → Int) (g s : Int) : Int → Bool := fun p => decide (w (90 + p) = g) && decide (w (170 + p) = s)
def sLayI (w : Int → Int) (g s : Int) : Int := sLx (sLayP w g s) (w 1613).toNat 0
def sLayNew (w : Int → Int) (p g s : Int) : Int → Int := sU (sU (sU (sU (sU w 1613 (w 1613 + 1)) (90 + p) g) (170 + p) s) (250 + p) 0) (330 + p) 0
def sLayAt (w : Int → Int) (p t h : Int) : Int → Int := sU (sU w (250 + p) (w (250 + p) + t)) (330 + p) ((sU w (250 + p) (w (250 + p) + t)) (330 + p) + h)
def sLay (w : Int → Int) (g s t h : Int) : Int → Int := sLayAt (if sLayI w g s = w 1613 then sLayNew w (sLayI w g s) g s else w) (sLayI w g s) t h
def sPackK (w : Int → Int) (k : Int) : Int → Int := fun j => if 1050 ≤ j ∧ j < 1050 + k then w j + (w (j - 160)).tdiv (w 89) else if 890 ≤ j ∧ j < 890 + k then w j - (w j).tdiv (w 89) * w 89 else w j
def sPack (w : Int → Int) : Int → Int := sPackK w (w 1614)
theorem sPackK_0 (w : Int → Int) : sPackK w 0 = w := by
  funext j
  simp only [sPackK]
  rw [if_neg (by omega), if_neg (by omega)]
theorem sPackK_in {w : Int → Int} {k l : Int} (hk : 0 ≤ k ∧ k ≤ l ∧ l < 160) : sPackK w k (890 + l) = w (890 + l) ∧ sPackK w k (1050 + l) = w (1050 + l) ∧ sPackK w k 89 = w 89 ∧ sPackK w k 1614 = w 1614 := by
  simp only [sPackK]
  refine ⟨?_, ?_, ?_, ?_⟩ <;> rw [if_neg (by omega), if_neg (by omega)]
theorem sPackK_succ {w : Int → Int} {k q : Int} (hk : 0 ≤ k ∧ k < 160) (hq : q = (w (890 + k)).tdiv (w 89)) : sU (sU (sPackK w k) (1050 + k) (w (1050 + k) + q)) (890 + k) (w (890 + k) - q * w 89) = sPackK w (k + 1) := by
  subst hq
  funext j
  simp only [sU, sPackK]
  by_cases h1 : j = 890 + k
  · subst h1
    rw [if_pos rfl, if_neg (by omega), if_pos (by omega)]
  · rw [if_neg h1]
    by_cases h2 : j = 1050 + k
    · subst h2
      rw [if_pos rfl, if_pos (by omega), show 1050 + k - 160 = 890 + k by omega]
    · rw [if_neg h2]
      by_cases h3 : 1050 ≤ j ∧ j < 1050 + k
      · rw [if_pos h3, if_pos (by omega)]
      · rw [if_neg h3, if_neg (show ¬ (1050 ≤ j ∧ j < 1050 + (k + 1)) by omega)]
        by_cases h4 : 890 ≤ j ∧ j < 890 + k
        · rw [if_pos h4, if_pos (by omega)]
        · rw [if_neg h4, if_neg (by omega)]
def sSvS (s : Int → Int) (k : Int) : Int → Int := fun j => if 0 ≤ j ∧ j < k then s (j + 1618) else s j
def sSvC (s w : Int → Int) (m k : Int) : Int → Int := fun j => if m * 1618 ≤ j ∧ j < m * 1618 + k then w (j - m * 1618) else s j
def sSvd (s w : Int → Int) (m : Int) : Int → Int := if m = 6 then sSvC (sSvS s 8090) w 5 1618 else sSvC s w m 1618
theorem sSvS_0 (s : Int → Int) : sSvS s 0 = s := by funext j; simp only [sSvS]; rw [if_neg (by omega)]
theorem sSvS_succ {s : Int → Int} {k : Int} (hk : 0 ≤ k) : sU (sSvS s k) k (sSvS s k (k + 1618)) = sSvS s (k + 1) := by
  funext j
  simp only [sU, sSvS]
  by_cases h : j = k
  · subst h; rw [if_pos rfl, if_neg (by omega), if_pos (by omega)]
  · rw [if_neg h]
    by_cases h2 : 0 ≤ j ∧ j < k
    · rw [if_pos h2, if_pos (by omega)]
    · rw [if_neg h2, if_neg (by omega)]
theorem sSvC_0 (s w : Int → Int) (m : Int) : sSvC s w m 0 = s := by funext j; simp only [sSvC]; rw [if_neg (by omega)]
theorem sSvC_succ {s w : Int → Int} {m k : Int} (hk : 0 ≤ k) : sU (sSvC s w m k) (m * 1618 + k) (w k) = sSvC s w m (k + 1) := by
  funext j
  simp only [sU, sSvC]
  by_cases h : j = m * 1618 + k
  · subst h; rw [if_pos rfl, if_pos (by omega), show m * 1618 + k - m * 1618 = k by omega]
  · rw [if_neg h]
    by_cases h2 : m * 1618 ≤ j ∧ j < m * 1618 + k
    · rw [if_pos h2, if_pos (by omega)]
    · rw [if_neg h2, if_neg (by omega)]
