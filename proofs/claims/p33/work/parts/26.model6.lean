theorem ifd2 (p : Prop) [Decidable p] : ((if p then (1 : Int) else 0) = 0 ∨ (if p then (1 : Int) else 0) = 1) ∧ ((if p then (1 : Int) else 0) ≠ 0 → p) ∧ ((if p then (1 : Int) else 0) = 0 → ¬ p) := by
  by_cases h : p
  · rw [if_pos h]; exact ⟨Or.inr rfl, fun _ => h, fun h => absurd h (by decide)⟩
  · rw [if_neg h]; exact ⟨Or.inl rfl, fun h => absurd rfl h, fun _ => h⟩
def sEvQ (w : Int → Int) (i p : Int) : Int := if i < w 1616 then w (1570 + 20 * p + w 1616 - 1 - i) else -1
def sLoose (w : Int → Int) : Int := sSum (fun l => w (890 + l)) (w 1614).toNat 0
def sBoxes (w : Int → Int) : Int := sSum (fun l => w (1050 + l)) (w 1614).toNat 0
def sWorthAll (w : Int → Int) : Int := sSum (fun l => sContent w l * sWorth w l) (w 1614).toNat 0
def sTotQ (w : Int → Int) (m n p : Int) : Int := if p = 0 then w 88 else if p = 1 then w 89 else if p = 2 then w 1610 else if p = 3 then w 1611 else if p = 4 then w 1612 else if p = 5 then sumP w else if p = 6 then sLoose w else if p = 7 then sBoxes w else if p = 8 then sumO w * w 89 else if p = 9 then w 1613 else if p = 10 then w 1614 else if p = 11 then w 1615 else if p = 12 then m else if p = 13 then sWorthAll w else if p = 14 then w 1617 else n
def sCnt8 (w : Int → Int) (k g sh pk : Int) (n : Nat) (p : Int) : Int := sSum (fun p => if sShade w k p g pk = sh then 1 else 0) n p
def sBestL (w : Int → Int) (k g sh : Int) : Nat → Int → Int → Int → Int
  | 0, _, b, _ => b
  | n + 1, pk, b, m => if m < sCnt8 w k g sh pk 8 0 then sBestL w k g sh n (pk + 1) pk (sCnt8 w k g sh pk 8 0) else sBestL w k g sh n (pk + 1) b m
theorem sBestL_stop {w : Int → Int} {k g sh pk b m : Int} {n : Nat} (h : n = 0) : sBestL w k g sh n pk b m = b := by subst h; rfl
theorem sBestL_take {w : Int → Int} {k g sh pk b m : Int} {n : Nat} (h : 0 < n) (hp : m < sCnt8 w k g sh pk 8 0) : sBestL w k g sh n pk b m = sBestL w k g sh (n - 1) (pk + 1) pk (sCnt8 w k g sh pk 8 0) := by
  obtain ⟨q, rfl⟩ : ∃ q, n = q + 1 := ⟨n - 1, by omega⟩
  simp only [sBestL, if_pos hp, Nat.add_sub_cancel]
theorem sBestL_skip {w : Int → Int} {k g sh pk b m : Int} {n : Nat} (h : 0 < n) (hp : ¬ m < sCnt8 w k g sh pk 8 0) : sBestL w k g sh n pk b m = sBestL w k g sh (n - 1) (pk + 1) b m := by
  obtain ⟨q, rfl⟩ : ∃ q, n = q + 1 := ⟨n - 1, by omega⟩
  simp only [sBestL, if_neg hp, Nat.add_sub_cancel]
theorem sCnt8_range (w : Int → Int) (k g sh pk : Int) (n : Nat) (p : Int) : 0 ≤ sCnt8 w k g sh pk n p ∧ sCnt8 w k g sh pk n p ≤ n := by
  have h1 := sSum_nn (f := fun p => if sShade w k p g pk = sh then 1 else 0) n p (fun j _ _ => by show 0 ≤ (if _ then (1 : Int) else 0); split <;> omega)
  have h2 := sSum_leq (f := fun p => if sShade w k p g pk = sh then 1 else 0) (g := fun _ => 1) n p (fun j _ _ => by show (if _ then (1 : Int) else 0) ≤ 1; split <;> omega)
  rw [sSum_const] at h2
  simp only [sCnt8]
  omega
def sLgL (w : Int → Int) (g r : Int) : Nat → Int → Int → Int
  | 0, _, m => m
  | n + 1, l, m => sLgL w g r n (l + 1) (if w (410 + l) = g ∧ w (730 + l) = r ∧ m < w (1050 + l) then w (1050 + l) else m)
def sWants (x y z a b c l : Int) : Int := (if x = l then a else 0) + (if y = l then b else 0) + (if z = l then c else 0)
def sN3 (x y z : Int) : Int := (if x = -1 then 0 else 1) + (if y = -1 then 0 else 1) + (if z = -1 then 0 else 1)
def sMadeL (w : Int → Int) (x y z a b c : Int) : Nat → Int → Int → Int
  | 0, _, t => if t = 0 then 0 else sN3 x y z
  | n + 1, l, t => sMadeL w x y z a b c n (l + 1) (if t ≠ 0 ∧ sWants x y z a b c l ≤ w (1050 + l) then 1 else 0)
def sMade (w : Int → Int) (x y z a b c : Int) : Int := sMadeL w x y z a b c (w 1614).toNat 0 1
theorem sN3_range (x y z : Int) : 0 ≤ sN3 x y z ∧ sN3 x y z ≤ 3 := by
  simp only [sN3]
  split <;> split <;> split <;> omega
theorem sMadeL_range {w : Int → Int} {x y z a b c : Int} : ∀ (n : Nat) (l t : Int), 0 ≤ sMadeL w x y z a b c n l t ∧ sMadeL w x y z a b c n l t ≤ 3
  | 0, l, t => by
    have := sN3_range x y z
    simp only [sMadeL]
    split <;> omega
  | n + 1, l, t => sMadeL_range n (l + 1) _
def sIs (w : Int → Int) (g r l : Int) : Bool := decide (l = -1) || (decide (w (410 + l) = g) && decide (w (730 + l) = r))
def sM1 (w : Int → Int) (g r x y z a b c : Int) : Int := if sIs w g r z = true then sMade w x y z a b c else 0
def sMz (w : Int → Int) (g r x y a b c : Int) : Nat → Int → Int → Int
  | 0, _, m => m
  | n + 1, z, m => if sIs w g r y = true ∧ m < 3 then sMz w g r x y a b c n (z + 1) (if m < sM1 w g r x y z a b c then sM1 w g r x y z a b c else m) else m
def sMy (w : Int → Int) (g r x a b c : Int) (N : Nat) : Nat → Int → Int → Int
  | 0, _, m => m
  | n + 1, y, m => if sIs w g r x = true then sMy w g r x a b c N n (y + 1) (sMz w g r x y a b c N (-1) m) else m
def sMx (w : Int → Int) (g r a b c : Int) (N : Nat) : Nat → Int → Int → Int
  | 0, _, m => m
  | n + 1, x, m => sMx w g r a b c N n (x + 1) (sMy w g r x a b c N N (-1) m)
def sMost (w : Int → Int) (g r a b c : Int) : Int := sMx w g r a b c (w 1614 + 1).toNat (w 1614 + 1).toNat (-1) 0
theorem sM1_range (w : Int → Int) (g r x y z a b c : Int) : 0 ≤ sM1 w g r x y z a b c ∧ sM1 w g r x y z a b c ≤ 3 := by
  simp only [sM1]
  split
  · exact sMadeL_range _ _ _
  · omega
theorem sMz_out {w : Int → Int} {g r x y a b c z m : Int} {n : Nat} (hp : ¬ (sIs w g r y = true ∧ m < 3)) : sMz w g r x y a b c n z m = m := by
  cases n with
  | zero => rfl
  | succ n => simp only [sMz, if_neg hp]
theorem sMz_step {w : Int → Int} {g r x y a b c z m : Int} {n : Nat} (h : 0 < n) (hp : sIs w g r y = true ∧ m < 3) : sMz w g r x y a b c n z m = sMz w g r x y a b c (n - 1) (z + 1) (if m < sM1 w g r x y z a b c then sM1 w g r x y z a b c else m) := by
  obtain ⟨q, rfl⟩ : ∃ q, n = q + 1 := ⟨n - 1, by omega⟩
  simp only [sMz, if_pos hp, Nat.add_sub_cancel]
theorem sMy_out {w : Int → Int} {g r x a b c y m : Int} {N n : Nat} (hp : ¬ sIs w g r x = true) : sMy w g r x a b c N n y m = m := by
  cases n with
  | zero => rfl
  | succ n => simp only [sMy, if_neg hp]
theorem sMy_step {w : Int → Int} {g r x a b c y m : Int} {N n : Nat} (h : 0 < n) (hp : sIs w g r x = true) : sMy w g r x a b c N n y m = sMy w g r x a b c N (n - 1) (y + 1) (sMz w g r x y a b c N (-1) m) := by
  obtain ⟨q, rfl⟩ : ∃ q, n = q + 1 := ⟨n - 1, by omega⟩
  simp only [sMy, if_pos hp, Nat.add_sub_cancel]
theorem sMx_step {w : Int → Int} {g r a b c x m : Int} {N n : Nat} (h : 0 < n) : sMx w g r a b c N n x m = sMx w g r a b c N (n - 1) (x + 1) (sMy w g r x a b c N N (-1) m) := by
  obtain ⟨q, rfl⟩ : ∃ q, n = q + 1 := ⟨n - 1, by omega⟩
  simp only [sMx, Nat.add_sub_cancel]
theorem sMz_range {w : Int → Int} {g r x y a b c : Int} : ∀ (n : Nat) (z m : Int), 0 ≤ m ∧ m ≤ 3 → 0 ≤ sMz w g r x y a b c n z m ∧ sMz w g r x y a b c n z m ≤ 3
  | 0, z, m, h => h
  | n + 1, z, m, h => by
    simp only [sMz]
    split
    · refine sMz_range n (z + 1) _ ?_
      have := sM1_range w g r x y z a b c
      split <;> omega
    · exact h
theorem sMy_range {w : Int → Int} {g r x a b c : Int} {N : Nat} : ∀ (n : Nat) (y m : Int), 0 ≤ m ∧ m ≤ 3 → 0 ≤ sMy w g r x a b c N n y m ∧ sMy w g r x a b c N n y m ≤ 3
  | 0, z, m, h => h
  | n + 1, y, m, h => by
    simp only [sMy]
    split
    · exact sMy_range n (y + 1) _ (sMz_range _ _ _ h)
    · exact h
def sHideL (w : Int → Int) (ps : Int) (n : Nat) (p : Int) : Int := sSum (fun p => sStays (w 88) ps.toNat (w (330 + p))) n p
