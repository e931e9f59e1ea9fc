theorem ifd2 (p : Prop) [Decidable p] : ((if p then (1 : Int) else 0) = 0 ∨ (if p then (1 : Int) else 0) = 1) ∧ ((if p then (1 : Int) else 0) ≠ 0 → p) ∧ ((if p then (1 : Int) else 0) = 0 → ¬ p) := by
  by_cases h : p
  · rw [if_pos h]; exact ⟨Or.inr rfl, fun _ => h, fun h => absurd h (by decide)⟩
  · rw [if_neg h]; exact ⟨Or.inl rfl, fun h => absurd rfl h, fun _ => h⟩
def mRdL (I : Nat → Nat → Int) (A : Nat → Int → Int) (x : Nat) (code val : Int) (v : Option Value) (I' : Nat → Nat → Int) (A' : Nat → Int → Int) : Prop :=
  v = some (vl (if code = 0 then val else 0)) ∧ I' = g_up I 206 x code ∧ A' = A
theorem mRdL.no {I : Nat → Nat → Int} {A : Nat → Int → Int} {x : Nat} {code c val : Int} {I' I1 : Nat → Nat → Int} (h1 : I1 = g_up I 206 x 0) (h2 : I' = g_up I1 206 x c) (hc : code = c) (h0 : c ≠ 0) : mRdL I A x code val (some (vl 0)) I' A := by
  subst hc
  exact ⟨by rw [if_neg h0], by rw [h2, h1, g_up_up], rfl⟩
theorem mRdL.yes {I : Nat → Nat → Int} {A : Nat → Int → Int} {x : Nat} {code val z : Int} {I' : Nat → Nat → Int} (hc : code = 0) (h1 : I' = g_up I 206 x 0) (hz : z = val) : mRdL I A x code val (some (vl z)) I' A := by
  subst hc; subst hz
  exact ⟨by rw [if_pos rfl], h1, rfl⟩
def sLotsOf (w : Int → Int) (g : Int) : Int := sSum (fun l => if w (410 + l) = g then 1 else 0) (w 1614).toNat 0
def sTilesOf (w : Int → Int) (g : Int) : Int := sSum (fun l => if w (410 + l) = g then sContent w l else 0) (w 1614).toNat 0
def sGlzQ (w : Int → Int) (g p : Int) : Int := if p = 0 then w g else if p = 1 then w (4 + g) else if p = 2 then w (8 + g) else if p = 3 then w (12 + g) else if p = 4 then sLotsOf w g else sTilesOf w g
def sPosQ (w : Int → Int) (i p : Int) : Int := if p = 0 then w (16 + i) else if p = 1 then w (40 + i) else w (64 + i)
def sEvQ (w : Int → Int) (i p : Int) : Int := if i < w 1616 then w (1570 + 20 * p + w 1616 - 1 - i) else -1
def sLoose (w : Int → Int) : Int := sSum (fun l => w (890 + l)) (w 1614).toNat 0
def sBoxes (w : Int → Int) : Int := sSum (fun l => w (1050 + l)) (w 1614).toNat 0
def sWorthAll (w : Int → Int) : Int := sSum (fun l => sContent w l * sWorth w l) (w 1614).toNat 0
def sTotQ (w : Int → Int) (m n p : Int) : Int := if p = 0 then w 88 else if p = 1 then w 89 else if p = 2 then w 1610 else if p = 3 then w 1611 else if p = 4 then w 1612 else if p = 5 then sumP w else if p = 6 then sLoose w else if p = 7 then sBoxes w else if p = 8 then sumO w * w 89 else if p = 9 then w 1613 else if p = 10 then w 1614 else if p = 11 then w 1615 else if p = 12 then m else if p = 13 then sWorthAll w else if p = 14 then w 1617 else n
def sCnt8 (w : Int → Int) (k g sh pk : Int) (n : Nat) (p : Int) : Int := sSum (fun p => if sShade w k p g pk = sh then 1 else 0) n p
def sBestL (w : Int → Int) (k g sh : Int) : Nat → Int → Int → Int → Int
  | 0, _, b, _ => b
  | n + 1, pk, b, m => if m < sCnt8 w k g sh pk 8 0 then sBestL w k g sh n (pk + 1) pk (sCnt8 w k g sh pk 8 0) else sBestL w k g sh n (pk + 1) b m
theorem sBestL_stop {w : Int → Int} {k g sh pk b m : Int} {n : Nat} (h : n = 0) : sBestL w k g sh n pk b m = b := by subst h; rfl
theorem sBestL_take {w : Int → Int} {k g sh pk b m : Int} {n : Nat} (h : 0 < n) (hp : m < sCnt8 w k g sh pk 8 0) : sBestL w k g sh n pk b m = sBestL w k g sh (n - 1) (pk + 1) pk (sCnt8 w k g sh pk 8 0) := by
  obtain ⟨q, rfl⟩ : ∃ q, n = q + 1 := ⟨n - 1, by omega⟩
  simp only [sBestL, if_pos hp, Nat.add_sub_cancel]
theorem sBestL_skip {w : Int → Int} {k g sh pk b m : Int} {n : Nat} (h : 0 < n) (hp : ¬ m < sCnt8 w k g sh pk 8 0) : sBestL w k g sh n pk b m = sBestL w k g sh (n - 1) (pk + 1) b m := by
  obtain ⟨q, rfl⟩ : ∃ q, n = q + 1 := ⟨n - 1, by omega⟩
  simp only [sBestL, if_neg hp, Nat.add_sub_cancel]
theorem sCnt8_range (w : Int → Int) (k g sh pk : Int) (n : Nat) (p : Int) : 0 ≤ sCnt8 w k g sh pk n p ∧ sCnt8 w k g sh pk n p ≤ n := by
  have h1 := sSum_nn (f := fun p => if sShade w k p g pk = sh then 1 else 0) n p (fun j _ _ => by show 0 ≤ (if _ then (1 : Int) else 0); split <;> omega)
  have h2 := sSum_leq (f := fun p => if sShade w k p g pk = sh then 1 else 0) (g := fun _ => 1) n p (fun j _ _ => by show (if _ then (1 : Int) else 0) ≤ 1; split <;> omega)
  rw [sSum_const] at h2
  simp only [sCnt8]
  omega
def sLgL (w : Int → Int) (g r : Int) : Nat → Int → Int → Int
  | 0, _, m => m
  | n + 1, l, m => sLgL w g r n (l + 1) (if w (410 + l) = g ∧ w (730 + l) = r ∧ m < w (1050 + l) then w (1050 + l) else m)
theorem sLgL_stop {w : Int → Int} {g r l m : Int} {n : Nat} (h : n = 0) : sLgL w g r n l m = m := by subst h; rfl
theorem sLgL_take {w : Int → Int} {g r l m : Int} {n : Nat} (h : 0 < n) (hp : w (410 + l) = g ∧ w (730 + l) = r ∧ m < w (1050 + l)) : sLgL w g r n l m = sLgL w g r (n - 1) (l + 1) (w (1050 + l)) := by
  obtain ⟨q, rfl⟩ : ∃ q, n = q + 1 := ⟨n - 1, by omega⟩
  simp only [sLgL, if_pos hp, Nat.add_sub_cancel]
theorem sLgL_skip {w : Int → Int} {g r l m : Int} {n : Nat} (h : 0 < n) (hp : ¬ (w (410 + l) = g ∧ w (730 + l) = r ∧ m < w (1050 + l))) : sLgL w g r n l m = sLgL w g r (n - 1) (l + 1) m := by
  obtain ⟨q, rfl⟩ : ∃ q, n = q + 1 := ⟨n - 1, by omega⟩
  simp only [sLgL, if_neg hp, Nat.add_sub_cancel]
def sWants (x y z a b c l : Int) : Int := (if x = l then a else 0) + (if y = l then b else 0) + (if z = l then c else 0)
def sN3 (x y z : Int) : Int := (if x = -1 then 0 else 1) + (if y = -1 then 0 else 1) + (if z = -1 then 0 else 1)
def sMadeL (w : Int → Int) (x y z a b c : Int) : Nat → Int → Int → Int
  | 0, _, t => if t = 0 then 0 else sN3 x y z
  | n + 1, l, t => sMadeL w x y z a b c n (l + 1) (if t ≠ 0 ∧ sWants x y z a b c l ≤ w (1050 + l) then 1 else 0)
def sMade (w : Int → Int) (x y z a b c : Int) : Int := sMadeL w x y z a b c (w 1614).toNat 0 1
theorem sMadeL_stop {w : Int → Int} {x y z a b c l t : Int} {n : Nat} (h : n = 0) : sMadeL w x y z a b c n l t = if t = 0 then 0 else sN3 x y z := by subst h; rfl
theorem sMadeL_yes {w : Int → Int} {x y z a b c l t : Int} {n : Nat} (h : 0 < n) (hp : t ≠ 0 ∧ sWants x y z a b c l ≤ w (1050 + l)) : sMadeL w x y z a b c n l t = sMadeL w x y z a b c (n - 1) (l + 1) 1 := by
  obtain ⟨q, rfl⟩ : ∃ q, n = q + 1 := ⟨n - 1, by omega⟩
  simp only [sMadeL, if_pos hp, Nat.add_sub_cancel]
theorem sMadeL_no {w : Int → Int} {x y z a b c l t : Int} {n : Nat} (h : 0 < n) (hp : ¬ (t ≠ 0 ∧ sWants x y z a b c l ≤ w (1050 + l))) : sMadeL w x y z a b c n l t = sMadeL w x y z a b c (n - 1) (l + 1) 0 := by
  obtain ⟨q, rfl⟩ : ∃ q, n = q + 1 := ⟨n - 1, by omega⟩
  simp only [sMadeL, if_neg hp, Nat.add_sub_cancel]
theorem sN3_range (x y z : Int) : 0 ≤ sN3 x y z ∧ sN3 x y z ≤ 3 := by
  simp only [sN3]
  split <;> split <;> split <;> omega
theorem sMadeL_range {w : Int → Int} {x y z a b c : Int} : ∀ (n : Nat) (l t : Int), 0 ≤ sMadeL w x y z a b c n l t ∧ sMadeL w x y z a b c n l t ≤ 3
  | 0, l, t => by
    have := sN3_range x y z
    simp only [sMadeL]
    split <;> omega
  | n + 1, l, t => sMadeL_range n (l + 1) _
def sIs (w : Int → Int) (g r l : Int) : Bool := decide (l = -1) || (decide (w (410 + l) = g) && decide (w (730 + l) = r))
def sM1 (w : Int → Int) (g r x y z a b c : Int) : Int := if sIs w g r z = true then sMade w x y z a b c else 0
def sMz (w : Int → Int) (g r x y a b c : Int) : Nat → Int → Int → Int
  | 0, _, m => m
  | n + 1, z, m => if sIs w g r y = true ∧ m < 3 then sMz w g r x y a b c n (z + 1) (if m < sM1 w g r x y z a b c then sM1 w g r x y z a b c else m) else m
def sMy (w : Int → Int) (g r x a b c : Int) (N : Nat) : Nat → Int → Int → Int
  | 0, _, m => m
  | n + 1, y, m => if sIs w g r x = true then sMy w g r x a b c N n (y + 1) (sMz w g r x y a b c N (-1) m) else m
def sMx (w : Int → Int) (g r a b c : Int) (N : Nat) : Nat → Int → Int → Int
  | 0, _, m => m
  | n + 1, x, m => sMx w g r a b c N n (x + 1) (sMy w g r x a b c N N (-1) m)
def sMost (w : Int → Int) (g r a b c : Int) : Int := sMx w g r a b c (w 1614 + 1).toNat (w 1614 + 1).toNat (-1) 0
theorem sM1_range (w : Int → Int) (g r x y z a b c : Int) : 0 ≤ sM1 w g r x y z a b c ∧ sM1 w g r x y z a b c ≤ 3 := by
  simp only [sM1]
  split
  · exact sMadeL_range _ _ _
  · omega
theorem sMz_stop {w : Int → Int} {g r x y a b c z m : Int} {n : Nat} (h : n = 0) : sMz w g r x y a b c n z m = m := by subst h; rfl
theorem sMz_out {w : Int → Int} {g r x y a b c z m : Int} {n : Nat} (hp : ¬ (sIs w g r y = true ∧ m < 3)) : sMz w g r x y a b c n z m = m := by
  cases n with
  | zero => rfl
  | succ n => simp only [sMz, if_neg hp]
theorem sMz_step {w : Int → Int} {g r x y a b c z m : Int} {n : Nat} (h : 0 < n) (hp : sIs w g r y = true ∧ m < 3) : sMz w g r x y a b c n z m = sMz w g r x y a b c (n - 1) (z + 1) (if m < sM1 w g r x y z a b c then sM1 w g r x y z a b c else m) := by
  obtain ⟨q, rfl⟩ : ∃ q, n = q + 1 := ⟨n - 1, by omega⟩
  simp only [sMz, if_pos hp, Nat.add_sub_cancel]
theorem sMy_stop {w : Int → Int} {g r x a b c y m : Int} {N n : Nat} (h : n = 0) : sMy w g r x a b c N n y m = m := by subst h; rfl
theorem sMy_out {w : Int → Int} {g r x a b c y m : Int} {N n : Nat} (hp : ¬ sIs w g r x = true) : sMy w g r x a b c N n y m = m := by
  cases n with
  | zero => rfl
  | succ n => simp only [sMy, if_neg hp]
theorem sMy_step {w : Int → Int} {g r x a b c y m : Int} {N n : Nat} (h : 0 < n) (hp : sIs w g r x = true) : sMy w g r x a b c N n y m = sMy w g r x a b c N (n - 1) (y + 1) (sMz w g r x y a b c N (-1) m) := by
  obtain ⟨q, rfl⟩ : ∃ q, n = q + 1 := ⟨n - 1, by omega⟩
  simp only [sMy, if_pos hp, Nat.add_sub_cancel]
theorem sMx_stop {w : Int → Int} {g r a b c x m : Int} {N n : Nat} (h : n = 0) : sMx w g r a b c N n x m = m := by subst h; rfl
theorem sMx_step {w : Int → Int} {g r a b c x m : Int} {N n : Nat} (h : 0 < n) : sMx w g r a b c N n x m = sMx w g r a b c N (n - 1) (x + 1) (sMy w g r x a b c N N (-1) m) := by
  obtain ⟨q, rfl⟩ : ∃ q, n = q + 1 := ⟨n - 1, by omega⟩
  simp only [sMx, Nat.add_sub_cancel]
theorem sMz_range {w : Int → Int} {g r x y a b c : Int} : ∀ (n : Nat) (z m : Int), 0 ≤ m ∧ m ≤ 3 → 0 ≤ sMz w g r x y a b c n z m ∧ sMz w g r x y a b c n z m ≤ 3
  | 0, z, m, h => h
  | n + 1, z, m, h => by
    simp only [sMz]
    split
    · refine sMz_range n (z + 1) _ ?_
      have := sM1_range w g r x y z a b c
      split <;> omega
    · exact h
theorem sMy_range {w : Int → Int} {g r x a b c : Int} {N : Nat} : ∀ (n : Nat) (y m : Int), 0 ≤ m ∧ m ≤ 3 → 0 ≤ sMy w g r x a b c N n y m ∧ sMy w g r x a b c N n y m ≤ 3
  | 0, z, m, h => h
  | n + 1, y, m, h => by
    simp only [sMy]
    split
    · exact sMy_range n (y + 1) _ (sMz_range _ _ _ h)
    · exact h
def sHideL (w : Int → Int) (ps : Int) (n : Nat) (p : Int) : Int := sSum (fun p => sStays (w 88) ps.toNat (w (330 + p))) n p
set_option maxHeartbeats 4000000 in
set_option maxRecDepth 100000 in
theorem k_M_glaze (Y : gEnv) {K N : Nat → Nat} {I : Nat → Nat → Int} {A : Nat → Int → Int} {R : Nat → Nat → Option Nat} {Q : Nat → Int → Option Nat} {x w sv tx ag : Nat} (hM : mS K N R x w sv tx ag) (h0 : iN (A w)) (hm : mT (A w)) (g : Int) (p : Int) (hg : (-2147483648 ≤ g ∧ g ≤ 2147483647)) (hp : (-2147483648 ≤ p ∧ p ≤ 2147483647)) : gC Y yX13_glaze cX13_glaze 3 (some .int) ({ frames := 2, cells := 0, slots := 0, locals := 45 } : Room) [.ref x, vi g, vi p] K N I A R Q (g_wr K N R Q (fun v I' A' => mRdP I A x (if ¬ (0 ≤ g ∧ g ≤ 3) then 1 else if ¬ (0 ≤ p ∧ p ≤ 5) then 2 else 0) (sGlzQ (A w) g p) v I' A')) gno := by
  refine gC_of (by decide) (Nat.le_of_ble_eq_true rfl) (fun X => ?_)
  obtain ⟨hKx, hRw, hRs, hRt, hRa, hKw, hNw, hKs, hNs, hKt, hNt, hKa, hNa, hta⟩ := id hM
  have hB : mB (A w) := hm.mB
  have n14 : 0 ≤ A w 1614 ∧ A w 1614 ≤ 160 := ⟨h0.2.2.2.2.1.1, h0.2.2.2.2.1.2.1⟩
  have n15 : 0 ≤ A w 1615 ∧ A w 1615 ≤ 40 := ⟨h0.2.2.2.2.2.1.1, h0.2.2.2.2.2.1.2.1⟩
  have n13 : 0 ≤ A w 1613 ∧ A w 1613 ≤ 80 := ⟨h0.2.2.2.1.1, h0.2.2.2.1.2.1⟩
  have n16 : 0 ≤ A w 1616 ∧ A w 1616 ≤ 20 := h0.2.2.2.2.2.2.2
  have nG := h0.1
  have nO := h0.2.1
  have nS := h0.2.2.2.2.2.2.1
  have nL := h0.2.2.2.2.1.2.2.1
  refine g_aload_n dX13_glaze_0 rfl rfl ?_
  refine g_iconst dX13_glaze_1 ?_
  refine g_put_Model_thrown dX13_glaze_2 mw_1161 (by assumption) (fun I2 hI2 => ?_)
  refine g_iload_n dX13_glaze_5 rfl rfl ?_
  refine g_callSp (k_M_isGlaze Y _ (by omega)) u_X13_isGlaze mw_1195 rfl dX13_glaze_6 rfl rfl ⟨Nat.le_of_ble_eq_true rfl, Nat.le_of_ble_eq_true rfl⟩ ⟨Nat.le_of_ble_eq_true rfl, Nat.le_of_ble_eq_true rfl⟩ (Nat.le_of_ble_eq_true rfl) ?_
  have b6 := ifd (0 ≤ g ∧ g ≤ 3)
  generalize (if 0 ≤ g ∧ g ≤ 3 then (1 : Int) else 0) = z6 at b6 ⊢
  refine g_if_ne (tgt := 18) dX13_glaze_9 (by decide) (by first | omega | exact m64 (hB _)) (fun c_9 => ?_) (fun c_9 => ?_)
  · refine g_iload_n dX13_glaze_18 rfl rfl ?_
    rcases (show p = 0 ∨ p = 1 ∨ p = 2 ∨ p = 3 ∨ p = 4 ∨ p = 5 ∨ (p < 0 ∨ 5 < p) by omega) with t19 | t19 | t19 | t19 | t19 | t19 | t19
    · refine g_tswIn (off := 37) (tgt := 56) dX13_glaze_19 (by first | omega | exact m64 (hB _)) 0 (by omega) (by omega) rfl (by decide) ?_
      refine g_aload_n dX13_glaze_56 rfl rfl ?_
      refine g_get_Model_w dX13_glaze_57 mw_1155 (by assumption) (by assumption) ?_
      refine g_iconst dX13_glaze_60 ?_
      refine g_iload_n dX13_glaze_61 rfl rfl ?_
      refine g_iadd dX13_glaze_62 ?_
      refine g_laload dX13_glaze_63 (by assumption) (by omega) (by omega) ?_
      refine g_l2i dX13_glaze_64 ?_
      exact g_iret dX13_glaze_65 rfl (by decide) (by decide) ⟨rfl, rfl, rfl, rfl, mRdP.yes (by first | (rw [if_pos (by omega)]; done) | (rw [if_neg (by omega), if_pos (by omega)]; done) | (rw [if_neg (by omega)]; done) | (rw [if_neg (by omega), if_neg (by omega), if_pos (by omega)]; done) | (rw [if_neg (by omega), if_neg (by omega)]; done) | (rw [if_neg (by omega), if_neg (by omega), if_neg (by omega), if_pos (by omega)]; done) | (rw [if_neg (by omega), if_neg (by omega), if_neg (by omega)]; done) | omega | rfl) hI2 (by simp only [sGlzQ]; rw [if_pos (by omega)]; rw [Int.zero_add])⟩
    · refine g_tswIn (off := 47) (tgt := 66) dX13_glaze_19 (by first | omega | exact m64 (hB _)) 1 (by omega) (by omega) rfl (by decide) ?_
      refine g_aload_n dX13_glaze_66 rfl rfl ?_
      refine g_get_Model_w dX13_glaze_67 mw_1155 (by assumption) (by assumption) ?_
      refine g_iconst dX13_glaze_70 ?_
      refine g_iload_n dX13_glaze_71 rfl rfl ?_
      refine g_iadd dX13_glaze_72 ?_
      refine g_laload dX13_glaze_73 (by assumption) (by omega) (by omega) ?_
      refine g_l2i dX13_glaze_74 ?_
      exact g_iret dX13_glaze_75 rfl (by decide) (by decide) ⟨rfl, rfl, rfl, rfl, mRdP.yes (by first | (rw [if_pos (by omega)]; done) | (rw [if_neg (by omega), if_pos (by omega)]; done) | (rw [if_neg (by omega)]; done) | (rw [if_neg (by omega), if_neg (by omega), if_pos (by omega)]; done) | (rw [if_neg (by omega), if_neg (by omega)]; done) | (rw [if_neg (by omega), if_neg (by omega), if_neg (by omega), if_pos (by omega)]; done) | (rw [if_neg (by omega), if_neg (by omega), if_neg (by omega)]; done) | omega | rfl) hI2 (by simp only [sGlzQ]; rw [if_neg (by omega), if_pos (by omega)])⟩
    · refine g_tswIn (off := 57) (tgt := 76) dX13_glaze_19 (by first | omega | exact m64 (hB _)) 2 (by omega) (by omega) rfl (by decide) ?_
      refine g_aload_n dX13_glaze_76 rfl rfl ?_
      refine g_get_Model_w dX13_glaze_77 mw_1155 (by assumption) (by assumption) ?_
      refine g_bipush dX13_glaze_80 (by decide) ?_
      refine g_iload_n dX13_glaze_82 rfl rfl ?_
      refine g_iadd dX13_glaze_83 ?_
      refine g_laload dX13_glaze_84 (by assumption) (by omega) (by omega) ?_
      refine g_l2i dX13_glaze_85 ?_
      exact g_iret dX13_glaze_86 rfl (by decide) (by decide) ⟨rfl, rfl, rfl, rfl, mRdP.yes (by first | (rw [if_pos (by omega)]; done) | (rw [if_neg (by omega), if_pos (by omega)]; done) | (rw [if_neg (by omega)]; done) | (rw [if_neg (by omega), if_neg (by omega), if_pos (by omega)]; done) | (rw [if_neg (by omega), if_neg (by omega)]; done) | (rw [if_neg (by omega), if_neg (by omega), if_neg (by omega), if_pos (by omega)]; done) | (rw [if_neg (by omega), if_neg (by omega), if_neg (by omega)]; done) | omega | rfl) hI2 (by simp only [sGlzQ]; rw [if_neg (by omega), if_neg (by omega), if_pos (by omega)])⟩
    · refine g_tswIn (off := 68) (tgt := 87) dX13_glaze_19 (by first | omega | exact m64 (hB _)) 3 (by omega) (by omega) rfl (by decide) ?_
      refine g_aload_n dX13_glaze_87 rfl rfl ?_
      refine g_get_Model_w dX13_glaze_88 mw_1155 (by assumption) (by assumption) ?_
      refine g_bipush dX13_glaze_91 (by decide) ?_
      refine g_iload_n dX13_glaze_93 rfl rfl ?_
      refine g_iadd dX13_glaze_94 ?_
      refine g_laload dX13_glaze_95 (by assumption) (by omega) (by omega) ?_
      refine g_l2i dX13_glaze_96 ?_
      exact g_iret dX13_glaze_97 rfl (by decide) (by decide) ⟨rfl, rfl, rfl, rfl, mRdP.yes (by first | (rw [if_pos (by omega)]; done) | (rw [if_neg (by omega), if_pos (by omega)]; done) | (rw [if_neg (by omega)]; done) | (rw [if_neg (by omega), if_neg (by omega), if_pos (by omega)]; done) | (rw [if_neg (by omega), if_neg (by omega)]; done) | (rw [if_neg (by omega), if_neg (by omega), if_neg (by omega), if_pos (by omega)]; done) | (rw [if_neg (by omega), if_neg (by omega), if_neg (by omega)]; done) | omega | rfl) hI2 (by simp only [sGlzQ]; rw [if_neg (by omega), if_neg (by omega), if_neg (by omega), if_pos (by omega)])⟩
    · refine g_tswIn (off := 79) (tgt := 98) dX13_glaze_19 (by first | omega | exact m64 (hB _)) 4 (by omega) (by omega) rfl (by decide) ?_
      refine g_aload_n dX13_glaze_98 rfl rfl ?_
      refine g_iload_n dX13_glaze_99 rfl rfl ?_
      refine g_callVp (i := 10) rfl (gK0 (by assumption)) (g_at10 (by assumption)) (k_M_lotsOf Y hM hB _ (by omega) (by omega)) u_X13_lotsOf mw_1383 dX13_glaze_100 rfl rfl ⟨Nat.le_of_ble_eq_true rfl, Nat.le_of_ble_eq_true rfl⟩ ⟨Nat.le_of_ble_eq_true rfl, Nat.le_of_ble_eq_true rfl⟩ (Nat.le_of_ble_eq_true rfl) ?_
      rw [show sSum (fun l => if A w (410 + l) = g then 1 else 0) (A w 1614).toNat 0 = sLotsOf (A w) g from rfl]
      exact g_iret dX13_glaze_103 rfl (by decide) (by decide) ⟨rfl, rfl, rfl, rfl, mRdP.yes (by first | (rw [if_pos (by omega)]; done) | (rw [if_neg (by omega), if_pos (by omega)]; done) | (rw [if_neg (by omega)]; done) | (rw [if_neg (by omega), if_neg (by omega), if_pos (by omega)]; done) | (rw [if_neg (by omega), if_neg (by omega)]; done) | (rw [if_neg (by omega), if_neg (by omega), if_neg (by omega), if_pos (by omega)]; done) | (rw [if_neg (by omega), if_neg (by omega), if_neg (by omega)]; done) | omega | rfl) hI2 (by simp only [sGlzQ]; rw [if_neg (by omega), if_neg (by omega), if_neg (by omega), if_neg (by omega), if_pos (by omega)])⟩
    · refine g_tswIn (off := 85) (tgt := 104) dX13_glaze_19 (by first | omega | exact m64 (hB _)) 5 (by omega) (by omega) rfl (by decide) ?_
      refine g_aload_n dX13_glaze_104 rfl rfl ?_
      refine g_iload_n dX13_glaze_105 rfl rfl ?_
      refine g_callVp (i := 10) rfl (gK0 (by assumption)) (g_at10 (by assumption)) (k_M_tilesOf Y hM hB _ (by omega) (by omega)) u_X13_tilesOf mw_1387 dX13_glaze_106 rfl rfl ⟨Nat.le_of_ble_eq_true rfl, Nat.le_of_ble_eq_true rfl⟩ ⟨Nat.le_of_ble_eq_true rfl, Nat.le_of_ble_eq_true rfl⟩ (Nat.le_of_ble_eq_true rfl) ?_
      rw [show sSum (fun l => if A w (410 + l) = g then sContent (A w) l else 0) (A w 1614).toNat 0 = sTilesOf (A w) g from rfl]
      refine g_l2i dX13_glaze_109 ?_
      exact g_iret dX13_glaze_110 rfl (by decide) (by decide) ⟨rfl, rfl, rfl, rfl, mRdP.yes (by first | (rw [if_pos (by omega)]; done) | (rw [if_neg (by omega), if_pos (by omega)]; done) | (rw [if_neg (by omega)]; done) | (rw [if_neg (by omega), if_neg (by omega), if_pos (by omega)]; done) | (rw [if_neg (by omega), if_neg (by omega)]; done) | (rw [if_neg (by omega), if_neg (by omega), if_neg (by omega), if_pos (by omega)]; done) | (rw [if_neg (by omega), if_neg (by omega), if_neg (by omega)]; done) | omega | rfl) hI2 (by simp only [sGlzQ]; rw [if_neg (by omega), if_neg (by omega), if_neg (by omega), if_neg (by omega), if_neg (by omega)])⟩
    · refine g_tswOut (tgt := 111) dX13_glaze_19 (by first | omega | exact m64 (hB _)) (by omega) (by decide) ?_
      refine g_aload_n dX13_glaze_111 rfl rfl ?_
      refine g_iconst dX13_glaze_112 ?_
      refine g_callVw (i := 10) rfl (gK0 (by assumption)) (g_at10 (by assumption)) (k_M_refuse Y hM _) u_X13_refuse mw_1202 dX13_glaze_113 rfl rfl ⟨Nat.le_of_ble_eq_true rfl, Nat.le_of_ble_eq_true rfl⟩ ⟨Nat.le_of_ble_eq_true rfl, Nat.le_of_ble_eq_true rfl⟩ (Nat.le_of_ble_eq_true rfl) (fun v113 I113 A113 h113 => ?_)
      obtain ⟨rfl, e113, f113⟩ := h113
      exact g_iret dX13_glaze_116 rfl (by decide) (by decide) ⟨rfl, rfl, rfl, rfl, by rw [f113]; exact mRdP.no hI2 e113 (by first | (rw [if_pos (by omega)]; done) | (rw [if_neg (by omega), if_pos (by omega)]; done) | (rw [if_neg (by omega)]; done) | (rw [if_neg (by omega), if_neg (by omega), if_pos (by omega)]; done) | (rw [if_neg (by omega), if_neg (by omega)]; done) | (rw [if_neg (by omega), if_neg (by omega), if_neg (by omega), if_pos (by omega)]; done) | (rw [if_neg (by omega), if_neg (by omega), if_neg (by omega)]; done) | omega | rfl) (by omega)⟩
  · refine g_aload_n dX13_glaze_12 rfl rfl ?_
    refine g_iconst dX13_glaze_13 ?_
    refine g_callVw (i := 10) rfl (gK0 (by assumption)) (g_at10 (by assumption)) (k_M_refuse Y hM _) u_X13_refuse mw_1202 dX13_glaze_14 rfl rfl ⟨Nat.le_of_ble_eq_true rfl, Nat.le_of_ble_eq_true rfl⟩ ⟨Nat.le_of_ble_eq_true rfl, Nat.le_of_ble_eq_true rfl⟩ (Nat.le_of_ble_eq_true rfl) (fun v14 I14 A14 h14 => ?_)
    obtain ⟨rfl, e14, f14⟩ := h14
    exact g_iret dX13_glaze_17 rfl (by decide) (by decide) ⟨rfl, rfl, rfl, rfl, by rw [f14]; exact mRdP.no hI2 e14 (by first | (rw [if_pos (by omega)]; done) | (rw [if_neg (by omega), if_pos (by omega)]; done) | (rw [if_neg (by omega)]; done) | (rw [if_neg (by omega), if_neg (by omega), if_pos (by omega)]; done) | (rw [if_neg (by omega), if_neg (by omega)]; done) | (rw [if_neg (by omega), if_neg (by omega), if_neg (by omega), if_pos (by omega)]; done) | (rw [if_neg (by omega), if_neg (by omega), if_neg (by omega)]; done) | omega | rfl) (by omega)⟩
set_option maxHeartbeats 4000000 in
set_option maxRecDepth 100000 in
theorem k_M_position (Y : gEnv) {K N : Nat → Nat} {I : Nat → Nat → Int} {A : Nat → Int → Int} {R : Nat → Nat → Option Nat} {Q : Nat → Int → Option Nat} {x w sv tx ag : Nat} (hM : mS K N R x w sv tx ag) (h0 : iN (A w)) (hm : mT (A w)) (k : Int) (i : Int) (p : Int) (hk : (-2147483648 ≤ k ∧ k ≤ 2147483647)) (hi : (-2147483648 ≤ i ∧ i ≤ 2147483647)) (hp : (-2147483648 ≤ p ∧ p ≤ 2147483647)) : gC Y yX13_position cX13_position 5 (some .int) ({ frames := 2, cells := 0, slots := 0, locals := 45 } : Room) [.ref x, vi k, vi i, vi p] K N I A R Q (g_wr K N R Q (fun v I' A' => mRdP I A x (if ¬ ((0 ≤ k ∧ k ≤ 2) ∧ (0 ≤ i ∧ i ≤ 7)) then 1 else if ¬ (0 ≤ p ∧ p ≤ 2) then 2 else 0) (sPosQ (A w) (8 * k + i) p) v I' A')) gno := by
  refine gC_of (by decide) (Nat.le_of_ble_eq_true rfl) (fun X => ?_)
  obtain ⟨hKx, hRw, hRs, hRt, hRa, hKw, hNw, hKs, hNs, hKt, hNt, hKa, hNa, hta⟩ := id hM
  have hB : mB (A w) := hm.mB
  have n14 : 0 ≤ A w 1614 ∧ A w 1614 ≤ 160 := ⟨h0.2.2.2.2.1.1, h0.2.2.2.2.1.2.1⟩
  have n15 : 0 ≤ A w 1615 ∧ A w 1615 ≤ 40 := ⟨h0.2.2.2.2.2.1.1, h0.2.2.2.2.2.1.2.1⟩
  have n13 : 0 ≤ A w 1613 ∧ A w 1613 ≤ 80 := ⟨h0.2.2.2.1.1, h0.2.2.2.1.2.1⟩
  have n16 : 0 ≤ A w 1616 ∧ A w 1616 ≤ 20 := h0.2.2.2.2.2.2.2
  have nG := h0.1
  have nO := h0.2.1
  have nS := h0.2.2.2.2.2.2.1
  have nL := h0.2.2.2.2.1.2.2.1
  refine g_aload_n dX13_position_0 rfl rfl ?_
  refine g_iconst dX13_position_1 ?_
  refine g_put_Model_thrown dX13_position_2 mw_1161 (by assumption) (fun I2 hI2 => ?_)
  refine g_iload_n dX13_position_5 rfl rfl ?_
  refine g_callSp (k_M_isKiln Y _ (by omega)) u_X13_isKiln mw_1221 rfl dX13_position_6 rfl rfl ⟨Nat.le_of_ble_eq_true rfl, Nat.le_of_ble_eq_true rfl⟩ ⟨Nat.le_of_ble_eq_true rfl, Nat.le_of_ble_eq_true rfl⟩ (Nat.le_of_ble_eq_true rfl) ?_
  have b6 := ifd (0 ≤ k ∧ k ≤ 2)
  generalize (if 0 ≤ k ∧ k ≤ 2 then (1 : Int) else 0) = z6 at b6 ⊢
  refine g_if_eq (tgt := 19) dX13_position_9 (by decide) (by first | omega | exact m64 (hB _)) (fun c_9 => ?_) (fun c_9 => ?_)
  · refine g_aload_n dX13_position_19 rfl rfl ?_
    refine g_iconst dX13_position_20 ?_
    refine g_callVw (i := 10) rfl (gK0 (by assumption)) (g_at10 (by assumption)) (k_M_refuse Y hM _) u_X13_refuse mw_1202 dX13_position_21 rfl rfl ⟨Nat.le_of_ble_eq_true rfl, Nat.le_of_ble_eq_true rfl⟩ ⟨Nat.le_of_ble_eq_true rfl, Nat.le_of_ble_eq_true rfl⟩ (Nat.le_of_ble_eq_true rfl) (fun v21 I21 A21 h21 => ?_)
    obtain ⟨rfl, e21, f21⟩ := h21
    exact g_iret dX13_position_24 rfl (by decide) (by decide) ⟨rfl, rfl, rfl, rfl, by rw [f21]; exact mRdP.no hI2 e21 (by first | (rw [if_pos (by omega)]; done) | (rw [if_neg (by omega), if_pos (by omega)]; done) | (rw [if_neg (by omega)]; done) | (rw [if_neg (by omega), if_neg (by omega), if_pos (by omega)]; done) | (rw [if_neg (by omega), if_neg (by omega)]; done) | (rw [if_neg (by omega), if_neg (by omega), if_neg (by omega), if_pos (by omega)]; done) | (rw [if_neg (by omega), if_neg (by omega), if_neg (by omega)]; done) | omega | rfl) (by omega)⟩
  · refine g_iload_n dX13_position_12 rfl rfl ?_
    refine g_callSp (k_M_isPlace Y _ (by omega)) u_X13_isPlace mw_1225 rfl dX13_position_13 rfl rfl ⟨Nat.le_of_ble_eq_true rfl, Nat.le_of_ble_eq_true rfl⟩ ⟨Nat.le_of_ble_eq_true rfl, Nat.le_of_ble_eq_true rfl⟩ (Nat.le_of_ble_eq_true rfl) ?_
    have b13 := ifd (0 ≤ i ∧ i ≤ 7)
    generalize (if 0 ≤ i ∧ i ≤ 7 then (1 : Int) else 0) = z13 at b13 ⊢
    refine g_if_ne (tgt := 25) dX13_position_16 (by decide) (by first | omega | exact m64 (hB _)) (fun c_16 => ?_) (fun c_16 => ?_)
    · refine g_bipush dX13_position_25 (by decide) ?_
      refine g_iload_n dX13_position_27 rfl rfl ?_
      refine g_imul dX13_position_28 ?_
      refine g_iload_n dX13_position_29 rfl rfl ?_
      refine g_iadd dX13_position_30 ?_
      refine g_istore dX13_position_31 (by decide) ?_
      refine g_iload_n dX13_position_33 rfl rfl ?_
      rcases (show p = 0 ∨ p = 1 ∨ p = 2 ∨ (p < 0 ∨ 2 < p) by omega) with t34 | t34 | t34 | t34
      · refine g_tswIn (off := 26) (tgt := 60) dX13_position_34 (by first | omega | exact m64 (hB _)) 0 (by omega) (by omega) rfl (by decide) ?_
        refine g_aload_n dX13_position_60 rfl rfl ?_
        refine g_get_Model_w dX13_position_61 mw_1155 (by assumption) (by assumption) ?_
        refine g_bipush dX13_position_64 (by decide) ?_
        refine g_iload dX13_position_66 rfl ?_
        refine g_iadd dX13_position_68 ?_
        refine g_laload dX13_position_69 (by assumption) (by omega) (by omega) ?_
        refine g_l2i dX13_position_70 ?_
        exact g_iret dX13_position_71 rfl (by decide) (by decide) ⟨rfl, rfl, rfl, rfl, mRdP.yes (by first | (rw [if_pos (by omega)]; done) | (rw [if_neg (by omega), if_pos (by omega)]; done) | (rw [if_neg (by omega)]; done) | (rw [if_neg (by omega), if_neg (by omega), if_pos (by omega)]; done) | (rw [if_neg (by omega), if_neg (by omega)]; done) | (rw [if_neg (by omega), if_neg (by omega), if_neg (by omega), if_pos (by omega)]; done) | (rw [if_neg (by omega), if_neg (by omega), if_neg (by omega)]; done) | omega | rfl) hI2 (by simp only [sPosQ]; rw [if_pos (by omega)])⟩
      · refine g_tswIn (off := 38) (tgt := 72) dX13_position_34 (by first | omega | exact m64 (hB _)) 1 (by omega) (by omega) rfl (by decide) ?_
        refine g_aload_n dX13_position_72 rfl rfl ?_
        refine g_get_Model_w dX13_position_73 mw_1155 (by assumption) (by assumption) ?_
        refine g_bipush dX13_position_76 (by decide) ?_
        refine g_iload dX13_position_78 rfl ?_
        refine g_iadd dX13_position_80 ?_
        refine g_laload dX13_position_81 (by assumption) (by omega) (by omega) ?_
        refine g_l2i dX13_position_82 ?_
        exact g_iret dX13_position_83 rfl (by decide) (by decide) ⟨rfl, rfl, rfl, rfl, mRdP.yes (by first | (rw [if_pos (by omega)]; done) | (rw [if_neg (by omega), if_pos (by omega)]; done) | (rw [if_neg (by omega)]; done) | (rw [if_neg (by omega), if_neg (by omega), if_pos (by omega)]; done) | (rw [if_neg (by omega), if_neg (by omega)]; done) | (rw [if_neg (by omega), if_neg (by omega), if_neg (by omega), if_pos (by omega)]; done) | (rw [if_neg (by omega), if_neg (by omega), if_neg (by omega)]; done) | omega | rfl) hI2 (by simp only [sPosQ]; rw [if_neg (by omega), if_pos (by omega)])⟩
      · refine g_tswIn (off := 50) (tgt := 84) dX13_position_34 (by first | omega | exact m64 (hB _)) 2 (by omega) (by omega) rfl (by decide) ?_
        refine g_aload_n dX13_position_84 rfl rfl ?_
        refine g_get_Model_w dX13_position_85 mw_1155 (by assumption) (by assumption) ?_
        refine g_bipush dX13_position_88 (by decide) ?_
        refine g_iload dX13_position_90 rfl ?_
        refine g_iadd dX13_position_92 ?_
        refine g_laload dX13_position_93 (by assumption) (by omega) (by omega) ?_
        refine g_l2i dX13_position_94 ?_
        exact g_iret dX13_position_95 rfl (by decide) (by decide) ⟨rfl, rfl, rfl, rfl, mRdP.yes (by first | (rw [if_pos (by omega)]; done) | (rw [if_neg (by omega), if_pos (by omega)]; done) | (rw [if_neg (by omega)]; done) | (rw [if_neg (by omega), if_neg (by omega), if_pos (by omega)]; done) | (rw [if_neg (by omega), if_neg (by omega)]; done) | (rw [if_neg (by omega), if_neg (by omega), if_neg (by omega), if_pos (by omega)]; done) | (rw [if_neg (by omega), if_neg (by omega), if_neg (by omega)]; done) | omega | rfl) hI2 (by simp only [sPosQ]; rw [if_neg (by omega), if_neg (by omega)])⟩
      · refine g_tswOut (tgt := 96) dX13_position_34 (by first | omega | exact m64 (hB _)) (by omega) (by decide) ?_
        refine g_aload_n dX13_position_96 rfl rfl ?_
        refine g_iconst dX13_position_97 ?_
        refine g_callVw (i := 10) rfl (gK0 (by assumption)) (g_at10 (by assumption)) (k_M_refuse Y hM _) u_X13_refuse mw_1202 dX13_position_98 rfl rfl ⟨Nat.le_of_ble_eq_true rfl, Nat.le_of_ble_eq_true rfl⟩ ⟨Nat.le_of_ble_eq_true rfl, Nat.le_of_ble_eq_true rfl⟩ (Nat.le_of_ble_eq_true rfl) (fun v98 I98 A98 h98 => ?_)
        obtain ⟨rfl, e98, f98⟩ := h98
        exact g_iret dX13_position_101 rfl (by decide) (by decide) ⟨rfl, rfl, rfl, rfl, by rw [f98]; exact mRdP.no hI2 e98 (by first | (rw [if_pos (by omega)]; done) | (rw [if_neg (by omega), if_pos (by omega)]; done) | (rw [if_neg (by omega)]; done) | (rw [if_neg (by omega), if_neg (by omega), if_pos (by omega)]; done) | (rw [if_neg (by omega), if_neg (by omega)]; done) | (rw [if_neg (by omega), if_neg (by omega), if_neg (by omega), if_pos (by omega)]; done) | (rw [if_neg (by omega), if_neg (by omega), if_neg (by omega)]; done) | omega | rfl) (by omega)⟩
    · refine g_aload_n dX13_position_19 rfl rfl ?_
      refine g_iconst dX13_position_20 ?_
      refine g_callVw (i := 10) rfl (gK0 (by assumption)) (g_at10 (by assumption)) (k_M_refuse Y hM _) u_X13_refuse mw_1202 dX13_position_21 rfl rfl ⟨Nat.le_of_ble_eq_true rfl, Nat.le_of_ble_eq_true rfl⟩ ⟨Nat.le_of_ble_eq_true rfl, Nat.le_of_ble_eq_true rfl⟩ (Nat.le_of_ble_eq_true rfl) (fun v21 I21 A21 h21 => ?_)
      obtain ⟨rfl, e21, f21⟩ := h21
      exact g_iret dX13_position_24 rfl (by decide) (by decide) ⟨rfl, rfl, rfl, rfl, by rw [f21]; exact mRdP.no hI2 e21 (by first | (rw [if_pos (by omega)]; done) | (rw [if_neg (by omega), if_pos (by omega)]; done) | (rw [if_neg (by omega)]; done) | (rw [if_neg (by omega), if_neg (by omega), if_pos (by omega)]; done) | (rw [if_neg (by omega), if_neg (by omega)]; done) | (rw [if_neg (by omega), if_neg (by omega), if_neg (by omega), if_pos (by omega)]; done) | (rw [if_neg (by omega), if_neg (by omega), if_neg (by omega)]; done) | omega | rfl) (by omega)⟩
set_option maxHeartbeats 4000000 in
set_option maxRecDepth 100000 in
theorem k_M_pile (Y : gEnv) {K N : Nat → Nat} {I : Nat → Nat → Int} {A : Nat → Int → Int} {R : Nat → Nat → Option Nat} {Q : Nat → Int → Option Nat} {x w sv tx ag : Nat} (hM : mS K N R x w sv tx ag) (h0 : iN (A w)) (hm : mT (A w)) (i : Int) (p : Int) (hi : (-2147483648 ≤ i ∧ i ≤ 2147483647)) (hp : (-2147483648 ≤ p ∧ p ≤ 2147483647)) : gC Y yX13_pile cX13_pile 3 (some .int) ({ frames := 1, cells := 0, slots := 0, locals := 25 } : Room) [.ref x, vi i, vi p] K N I A R Q (g_wr K N R Q (fun v I' A' => mRdP I A x (if ¬ (0 ≤ i ∧ i < A w 1613) then 1 else if ¬ (0 ≤ p ∧ p ≤ 3) then 2 else 0) (A w (90 + 80 * p + i)) v I' A')) gno := by
  refine gC_of (by decide) (Nat.le_of_ble_eq_true rfl) (fun X => ?_)
  obtain ⟨hKx, hRw, hRs, hRt, hRa, hKw, hNw, hKs, hNs, hKt, hNt, hKa, hNa, hta⟩ := id hM
  have hB : mB (A w) := hm.mB
  have n14 : 0 ≤ A w 1614 ∧ A w 1614 ≤ 160 := ⟨h0.2.2.2.2.1.1, h0.2.2.2.2.1.2.1⟩
  have n15 : 0 ≤ A w 1615 ∧ A w 1615 ≤ 40 := ⟨h0.2.2.2.2.2.1.1, h0.2.2.2.2.2.1.2.1⟩
  have n13 : 0 ≤ A w 1613 ∧ A w 1613 ≤ 80 := ⟨h0.2.2.2.1.1, h0.2.2.2.1.2.1⟩
  have n16 : 0 ≤ A w 1616 ∧ A w 1616 ≤ 20 := h0.2.2.2.2.2.2.2
  have nG := h0.1
  have nO := h0.2.1
  have nS := h0.2.2.2.2.2.2.1
  have nL := h0.2.2.2.2.1.2.2.1
  refine g_aload_n dX13_pile_0 rfl rfl ?_
  refine g_iconst dX13_pile_1 ?_
  refine g_put_Model_thrown dX13_pile_2 mw_1161 (by assumption) (fun I2 hI2 => ?_)
  refine g_iload_n dX13_pile_5 rfl rfl ?_
  refine g_i2l dX13_pile_6 (by first | omega | exact m64 (hB _)) ?_
  refine g_lconst (c := 0) dX13_pile_7 (by decide) ?_
  refine g_aload_n dX13_pile_8 rfl rfl ?_
  refine g_get_Model_w dX13_pile_9 mw_1155 (by assumption) (by assumption) ?_
  refine g_sipush dX13_pile_12 (by decide) ?_
  refine g_laload dX13_pile_15 (by assumption) (by omega) (by omega) ?_
  refine g_lconst (c := 1) dX13_pile_16 (by decide) ?_
  refine g_lsub dX13_pile_17 ?_
  refine g_callSp (k_M_in Y _ _ _ (by first | omega | exact m64 (hB _)) (by first | omega | exact m64 (hB _)) (by first | omega | exact m64 (hB _))) u_X13_in mw_1199 rfl dX13_pile_18 rfl rfl ⟨Nat.le_of_ble_eq_true rfl, Nat.le_of_ble_eq_true rfl⟩ ⟨Nat.le_of_ble_eq_true rfl, Nat.le_of_ble_eq_true rfl⟩ (Nat.le_of_ble_eq_true rfl) ?_
  have b18 := ifd (0 ≤ i ∧ i ≤ A w 1613 - 1)
  generalize (if 0 ≤ i ∧ i ≤ A w 1613 - 1 then (1 : Int) else 0) = z18 at b18 ⊢
  refine g_if_ne (tgt := 30) dX13_pile_21 (by decide) (by first | omega | exact m64 (hB _)) (fun c_21 => ?_) (fun c_21 => ?_)
  · refine g_iload_n dX13_pile_30 rfl rfl ?_
    refine g_i2l dX13_pile_31 (by first | omega | exact m64 (hB _)) ?_
    refine g_lconst (c := 0) dX13_pile_32 (by decide) ?_
    refine g_ldc2 (c := 3) dX13_pile_33 mw_1198 (by decide) ?_
    refine g_callSp (k_M_in Y _ _ _ (by first | omega | exact m64 (hB _)) (by first | omega | exact m64 (hB _)) (by first | omega | exact m64 (hB _))) u_X13_in mw_1199 rfl dX13_pile_36 rfl rfl ⟨Nat.le_of_ble_eq_true rfl, Nat.le_of_ble_eq_true rfl⟩ ⟨Nat.le_of_ble_eq_true rfl, Nat.le_of_ble_eq_true rfl⟩ (Nat.le_of_ble_eq_true rfl) ?_
    have b36 := ifd (0 ≤ p ∧ p ≤ 3)
    generalize (if 0 ≤ p ∧ p ≤ 3 then (1 : Int) else 0) = z36 at b36 ⊢
    refine g_if_eq (tgt := 60) dX13_pile_39 (by decide) (by first | omega | exact m64 (hB _)) (fun c_39 => ?_) (fun c_39 => ?_)
    · refine g_aload_n dX13_pile_60 rfl rfl ?_
      refine g_iconst dX13_pile_61 ?_
      refine g_callVw (i := 10) rfl (gK0 (by assumption)) (g_at10 (by assumption)) (k_M_refuse Y hM _) u_X13_refuse mw_1202 dX13_pile_62 rfl rfl ⟨Nat.le_of_ble_eq_true rfl, Nat.le_of_ble_eq_true rfl⟩ ⟨Nat.le_of_ble_eq_true rfl, Nat.le_of_ble_eq_true rfl⟩ (Nat.le_of_ble_eq_true rfl) (fun v62 I62 A62 h62 => ?_)
      obtain ⟨rfl, e62, f62⟩ := h62
      exact g_iret dX13_pile_65 rfl (by decide) (by decide) (by first | exact ⟨rfl, rfl, rfl, rfl, mRdP.yes (by first | (rw [if_pos (by omega)]; done) | (rw [if_neg (by omega), if_pos (by omega)]; done) | (rw [if_neg (by omega)]; done) | (rw [if_neg (by omega), if_neg (by omega), if_pos (by omega)]; done) | (rw [if_neg (by omega), if_neg (by omega)]; done) | (rw [if_neg (by omega), if_neg (by omega), if_neg (by omega), if_pos (by omega)]; done) | (rw [if_neg (by omega), if_neg (by omega), if_neg (by omega)]; done) | omega | rfl) hI2 rfl⟩ | exact ⟨rfl, rfl, rfl, rfl, by rw [f62]; exact mRdP.no hI2 e62 (by first | (rw [if_pos (by omega)]; done) | (rw [if_neg (by omega), if_pos (by omega)]; done) | (rw [if_neg (by omega)]; done) | (rw [if_neg (by omega), if_neg (by omega), if_pos (by omega)]; done) | (rw [if_neg (by omega), if_neg (by omega)]; done) | (rw [if_neg (by omega), if_neg (by omega), if_neg (by omega), if_pos (by omega)]; done) | (rw [if_neg (by omega), if_neg (by omega), if_neg (by omega)]; done) | omega | rfl) (by omega)⟩)
    · refine g_aload_n dX13_pile_42 rfl rfl ?_
      refine g_get_Model_w dX13_pile_43 mw_1155 (by assumption) (by assumption) ?_
      refine g_bipush dX13_pile_46 (by decide) ?_
      refine g_bipush dX13_pile_48 (by decide) ?_
      refine g_iload_n dX13_pile_50 rfl rfl ?_
      refine g_imul dX13_pile_51 ?_
      refine g_iadd dX13_pile_52 ?_
      refine g_iload_n dX13_pile_53 rfl rfl ?_
      refine g_iadd dX13_pile_54 ?_
      refine g_laload dX13_pile_55 (by assumption) (by omega) (by omega) ?_
      refine g_l2i dX13_pile_56 ?_
      refine g_goto (tgt := 65) dX13_pile_57 (by decide) ?_
      exact g_iret dX13_pile_65 rfl (by decide) (by decide) (by first | exact ⟨rfl, rfl, rfl, rfl, mRdP.yes (by first | (rw [if_pos (by omega)]; done) | (rw [if_neg (by omega), if_pos (by omega)]; done) | (rw [if_neg (by omega)]; done) | (rw [if_neg (by omega), if_neg (by omega), if_pos (by omega)]; done) | (rw [if_neg (by omega), if_neg (by omega)]; done) | (rw [if_neg (by omega), if_neg (by omega), if_neg (by omega), if_pos (by omega)]; done) | (rw [if_neg (by omega), if_neg (by omega), if_neg (by omega)]; done) | omega | rfl) hI2 rfl⟩ | exact ⟨rfl, rfl, rfl, rfl, by rw [f62]; exact mRdP.no hI2 e62 (by first | (rw [if_pos (by omega)]; done) | (rw [if_neg (by omega), if_pos (by omega)]; done) | (rw [if_neg (by omega)]; done) | (rw [if_neg (by omega), if_neg (by omega), if_pos (by omega)]; done) | (rw [if_neg (by omega), if_neg (by omega)]; done) | (rw [if_neg (by omega), if_neg (by omega), if_neg (by omega), if_pos (by omega)]; done) | (rw [if_neg (by omega), if_neg (by omega), if_neg (by omega)]; done) | omega | rfl) (by omega)⟩)
  · refine g_aload_n dX13_pile_24 rfl rfl ?_
    refine g_iconst dX13_pile_25 ?_
    refine g_callVw (i := 10) rfl (gK0 (by assumption)) (g_at10 (by assumption)) (k_M_refuse Y hM _) u_X13_refuse mw_1202 dX13_pile_26 rfl rfl ⟨Nat.le_of_ble_eq_true rfl, Nat.le_of_ble_eq_true rfl⟩ ⟨Nat.le_of_ble_eq_true rfl, Nat.le_of_ble_eq_true rfl⟩ (Nat.le_of_ble_eq_true rfl) (fun v26 I26 A26 h26 => ?_)
    obtain ⟨rfl, e26, f26⟩ := h26
    exact g_iret dX13_pile_29 rfl (by decide) (by decide) ⟨rfl, rfl, rfl, rfl, by rw [f26]; exact mRdP.no hI2 e26 (by first | (rw [if_pos (by omega)]; done) | (rw [if_neg (by omega), if_pos (by omega)]; done) | (rw [if_neg (by omega)]; done) | (rw [if_neg (by omega), if_neg (by omega), if_pos (by omega)]; done) | (rw [if_neg (by omega), if_neg (by omega)]; done) | (rw [if_neg (by omega), if_neg (by omega), if_neg (by omega), if_pos (by omega)]; done) | (rw [if_neg (by omega), if_neg (by omega), if_neg (by omega)]; done) | omega | rfl) (by omega)⟩
set_option maxHeartbeats 4000000 in
set_option maxRecDepth 100000 in
theorem k_M_lot (Y : gEnv) {K N : Nat → Nat} {I : Nat → Nat → Int} {A : Nat → Int → Int} {R : Nat → Nat → Option Nat} {Q : Nat → Int → Option Nat} {x w sv tx ag : Nat} (hM : mS K N R x w sv tx ag) (h0 : iN (A w)) (hm : mT (A w)) (i : Int) (p : Int) (hi : (-2147483648 ≤ i ∧ i ≤ 2147483647)) (hp : (-2147483648 ≤ p ∧ p ≤ 2147483647)) : gC Y yX13_lot cX13_lot 3 (some .int) ({ frames := 1, cells := 0, slots := 0, locals := 25 } : Room) [.ref x, vi i, vi p] K N I A R Q (g_wr K N R Q (fun v I' A' => mRdP I A x (if ¬ (0 ≤ i ∧ i < A w 1614) then 1 else if ¬ (0 ≤ p ∧ p ≤ 5) then 2 else 0) (A w (410 + 160 * p + i)) v I' A')) gno := by
  refine gC_of (by decide) (Nat.le_of_ble_eq_true rfl) (fun X => ?_)
  obtain ⟨hKx, hRw, hRs, hRt, hRa, hKw, hNw, hKs, hNs, hKt, hNt, hKa, hNa, hta⟩ := id hM
  have hB : mB (A w) := hm.mB
  have n14 : 0 ≤ A w 1614 ∧ A w 1614 ≤ 160 := ⟨h0.2.2.2.2.1.1, h0.2.2.2.2.1.2.1⟩
  have n15 : 0 ≤ A w 1615 ∧ A w 1615 ≤ 40 := ⟨h0.2.2.2.2.2.1.1, h0.2.2.2.2.2.1.2.1⟩
  have n13 : 0 ≤ A w 1613 ∧ A w 1613 ≤ 80 := ⟨h0.2.2.2.1.1, h0.2.2.2.1.2.1⟩
  have n16 : 0 ≤ A w 1616 ∧ A w 1616 ≤ 20 := h0.2.2.2.2.2.2.2
  have nG := h0.1
  have nO := h0.2.1
  have nS := h0.2.2.2.2.2.2.1
  have nL := h0.2.2.2.2.1.2.2.1
  refine g_aload_n dX13_lot_0 rfl rfl ?_
  refine g_iconst dX13_lot_1 ?_
  refine g_put_Model_thrown dX13_lot_2 mw_1161 (by assumption) (fun I2 hI2 => ?_)
  refine g_iload_n dX13_lot_5 rfl rfl ?_
  refine g_i2l dX13_lot_6 (by first | omega | exact m64 (hB _)) ?_
  refine g_lconst (c := 0) dX13_lot_7 (by decide) ?_
  refine g_aload_n dX13_lot_8 rfl rfl ?_
  refine g_get_Model_w dX13_lot_9 mw_1155 (by assumption) (by assumption) ?_
  refine g_sipush dX13_lot_12 (by decide) ?_
  refine g_laload dX13_lot_15 (by assumption) (by omega) (by omega) ?_
  refine g_lconst (c := 1) dX13_lot_16 (by decide) ?_
  refine g_lsub dX13_lot_17 ?_
  refine g_callSp (k_M_in Y _ _ _ (by first | omega | exact m64 (hB _)) (by first | omega | exact m64 (hB _)) (by first | omega | exact m64 (hB _))) u_X13_in mw_1199 rfl dX13_lot_18 rfl rfl ⟨Nat.le_of_ble_eq_true rfl, Nat.le_of_ble_eq_true rfl⟩ ⟨Nat.le_of_ble_eq_true rfl, Nat.le_of_ble_eq_true rfl⟩ (Nat.le_of_ble_eq_true rfl) ?_
  have b18 := ifd (0 ≤ i ∧ i ≤ A w 1614 - 1)
  generalize (if 0 ≤ i ∧ i ≤ A w 1614 - 1 then (1 : Int) else 0) = z18 at b18 ⊢
  refine g_if_ne (tgt := 30) dX13_lot_21 (by decide) (by first | omega | exact m64 (hB _)) (fun c_21 => ?_) (fun c_21 => ?_)
  · refine g_iload_n dX13_lot_30 rfl rfl ?_
    refine g_i2l dX13_lot_31 (by first | omega | exact m64 (hB _)) ?_
    refine g_lconst (c := 0) dX13_lot_32 (by decide) ?_
    refine g_ldc2 (c := 5) dX13_lot_33 mw_1403 (by decide) ?_
    refine g_callSp (k_M_in Y _ _ _ (by first | omega | exact m64 (hB _)) (by first | omega | exact m64 (hB _)) (by first | omega | exact m64 (hB _))) u_X13_in mw_1199 rfl dX13_lot_36 rfl rfl ⟨Nat.le_of_ble_eq_true rfl, Nat.le_of_ble_eq_true rfl⟩ ⟨Nat.le_of_ble_eq_true rfl, Nat.le_of_ble_eq_true rfl⟩ (Nat.le_of_ble_eq_true rfl) ?_
    have b36 := ifd (0 ≤ p ∧ p ≤ 5)
    generalize (if 0 ≤ p ∧ p ≤ 5 then (1 : Int) else 0) = z36 at b36 ⊢
    refine g_if_eq (tgt := 62) dX13_lot_39 (by decide) (by first | omega | exact m64 (hB _)) (fun c_39 => ?_) (fun c_39 => ?_)
    · refine g_aload_n dX13_lot_62 rfl rfl ?_
      refine g_iconst dX13_lot_63 ?_
      refine g_callVw (i := 10) rfl (gK0 (by assumption)) (g_at10 (by assumption)) (k_M_refuse Y hM _) u_X13_refuse mw_1202 dX13_lot_64 rfl rfl ⟨Nat.le_of_ble_eq_true rfl, Nat.le_of_ble_eq_true rfl⟩ ⟨Nat.le_of_ble_eq_true rfl, Nat.le_of_ble_eq_true rfl⟩ (Nat.le_of_ble_eq_true rfl) (fun v64 I64 A64 h64 => ?_)
      obtain ⟨rfl, e64, f64⟩ := h64
      exact g_iret dX13_lot_67 rfl (by decide) (by decide) (by first | exact ⟨rfl, rfl, rfl, rfl, mRdP.yes (by first | (rw [if_pos (by omega)]; done) | (rw [if_neg (by omega), if_pos (by omega)]; done) | (rw [if_neg (by omega)]; done) | (rw [if_neg (by omega), if_neg (by omega), if_pos (by omega)]; done) | (rw [if_neg (by omega), if_neg (by omega)]; done) | (rw [if_neg (by omega), if_neg (by omega), if_neg (by omega), if_pos (by omega)]; done) | (rw [if_neg (by omega), if_neg (by omega), if_neg (by omega)]; done) | omega | rfl) hI2 rfl⟩ | exact ⟨rfl, rfl, rfl, rfl, by rw [f64]; exact mRdP.no hI2 e64 (by first | (rw [if_pos (by omega)]; done) | (rw [if_neg (by omega), if_pos (by omega)]; done) | (rw [if_neg (by omega)]; done) | (rw [if_neg (by omega), if_neg (by omega), if_pos (by omega)]; done) | (rw [if_neg (by omega), if_neg (by omega)]; done) | (rw [if_neg (by omega), if_neg (by omega), if_neg (by omega), if_pos (by omega)]; done) | (rw [if_neg (by omega), if_neg (by omega), if_neg (by omega)]; done) | omega | rfl) (by omega)⟩)
    · refine g_aload_n dX13_lot_42 rfl rfl ?_
      refine g_get_Model_w dX13_lot_43 mw_1155 (by assumption) (by assumption) ?_
      refine g_sipush dX13_lot_46 (by decide) ?_
      refine g_sipush dX13_lot_49 (by decide) ?_
      refine g_iload_n dX13_lot_52 rfl rfl ?_
      refine g_imul dX13_lot_53 ?_
      refine g_iadd dX13_lot_54 ?_
      refine g_iload_n dX13_lot_55 rfl rfl ?_
      refine g_iadd dX13_lot_56 ?_
      refine g_laload dX13_lot_57 (by assumption) (by omega) (by omega) ?_
      refine g_l2i dX13_lot_58 ?_
      refine g_goto (tgt := 67) dX13_lot_59 (by decide) ?_
      exact g_iret dX13_lot_67 rfl (by decide) (by decide) (by first | exact ⟨rfl, rfl, rfl, rfl, mRdP.yes (by first | (rw [if_pos (by omega)]; done) | (rw [if_neg (by omega), if_pos (by omega)]; done) | (rw [if_neg (by omega)]; done) | (rw [if_neg (by omega), if_neg (by omega), if_pos (by omega)]; done) | (rw [if_neg (by omega), if_neg (by omega)]; done) | (rw [if_neg (by omega), if_neg (by omega), if_neg (by omega), if_pos (by omega)]; done) | (rw [if_neg (by omega), if_neg (by omega), if_neg (by omega)]; done) | omega | rfl) hI2 rfl⟩ | exact ⟨rfl, rfl, rfl, rfl, by rw [f64]; exact mRdP.no hI2 e64 (by first | (rw [if_pos (by omega)]; done) | (rw [if_neg (by omega), if_pos (by omega)]; done) | (rw [if_neg (by omega)]; done) | (rw [if_neg (by omega), if_neg (by omega), if_pos (by omega)]; done) | (rw [if_neg (by omega), if_neg (by omega)]; done) | (rw [if_neg (by omega), if_neg (by omega), if_neg (by omega), if_pos (by omega)]; done) | (rw [if_neg (by omega), if_neg (by omega), if_neg (by omega)]; done) | omega | rfl) (by omega)⟩)
  · refine g_aload_n dX13_lot_24 rfl rfl ?_
    refine g_iconst dX13_lot_25 ?_
    refine g_callVw (i := 10) rfl (gK0 (by assumption)) (g_at10 (by assumption)) (k_M_refuse Y hM _) u_X13_refuse mw_1202 dX13_lot_26 rfl rfl ⟨Nat.le_of_ble_eq_true rfl, Nat.le_of_ble_eq_true rfl⟩ ⟨Nat.le_of_ble_eq_true rfl, Nat.le_of_ble_eq_true rfl⟩ (Nat.le_of_ble_eq_true rfl) (fun v26 I26 A26 h26 => ?_)
    obtain ⟨rfl, e26, f26⟩ := h26
    exact g_iret dX13_lot_29 rfl (by decide) (by decide) ⟨rfl, rfl, rfl, rfl, by rw [f26]; exact mRdP.no hI2 e26 (by first | (rw [if_pos (by omega)]; done) | (rw [if_neg (by omega), if_pos (by omega)]; done) | (rw [if_neg (by omega)]; done) | (rw [if_neg (by omega), if_neg (by omega), if_pos (by omega)]; done) | (rw [if_neg (by omega), if_neg (by omega)]; done) | (rw [if_neg (by omega), if_neg (by omega), if_neg (by omega), if_pos (by omega)]; done) | (rw [if_neg (by omega), if_neg (by omega), if_neg (by omega)]; done) | omega | rfl) (by omega)⟩
set_option maxHeartbeats 4000000 in
set_option maxRecDepth 100000 in
theorem k_M_findLot (Y : gEnv) {K N : Nat → Nat} {I : Nat → Nat → Int} {A : Nat → Int → Int} {R : Nat → Nat → Option Nat} {Q : Nat → Int → Option Nat} {x w sv tx ag : Nat} (hM : mS K N R x w sv tx ag) (h0 : iN (A w)) (hm : mT (A w)) (a : Int) (b : Int) (c : Int) (ha : (-2147483648 ≤ a ∧ a ≤ 2147483647)) (hb : (-2147483648 ≤ b ∧ b ≤ 2147483647)) (hc : (-2147483648 ≤ c ∧ c ≤ 2147483647)) : gC Y yX13_findLot cX13_findLot 4 (some .int) ({ frames := 2, cells := 0, slots := 0, locals := 45 } : Room) [.ref x, vi a, vi b, vi c] K N I A R Q (g_wr K N R Q (fun v I' A' => mRdP I A x (if ¬ ((0 ≤ a ∧ a ≤ 3) ∧ (0 ≤ b ∧ b ≤ 19) ∧ (1 ≤ c ∧ c ≤ 2)) then 1 else 0) (sFind (A w) a b c) v I' A')) gno := by
  refine gC_of (by decide) (Nat.le_of_ble_eq_true rfl) (fun X => ?_)
  obtain ⟨hKx, hRw, hRs, hRt, hRa, hKw, hNw, hKs, hNs, hKt, hNt, hKa, hNa, hta⟩ := id hM
  have hB : mB (A w) := hm.mB
  have n14 : 0 ≤ A w 1614 ∧ A w 1614 ≤ 160 := ⟨h0.2.2.2.2.1.1, h0.2.2.2.2.1.2.1⟩
  have n15 : 0 ≤ A w 1615 ∧ A w 1615 ≤ 40 := ⟨h0.2.2.2.2.2.1.1, h0.2.2.2.2.2.1.2.1⟩
  have n13 : 0 ≤ A w 1613 ∧ A w 1613 ≤ 80 := ⟨h0.2.2.2.1.1, h0.2.2.2.1.2.1⟩
  have n16 : 0 ≤ A w 1616 ∧ A w 1616 ≤ 20 := h0.2.2.2.2.2.2.2
  have nG := h0.1
  have nO := h0.2.1
  have nS := h0.2.2.2.2.2.2.1
  have nL := h0.2.2.2.2.1.2.2.1
  refine g_aload_n dX13_findLot_0 rfl rfl ?_
  refine g_iconst dX13_findLot_1 ?_
  refine g_put_Model_thrown dX13_findLot_2 mw_1161 (by assumption) (fun I2 hI2 => ?_)
  refine g_iload_n dX13_findLot_5 rfl rfl ?_
  refine g_callSp (k_M_isGlaze Y _ (by omega)) u_X13_isGlaze mw_1195 rfl dX13_findLot_6 rfl rfl ⟨Nat.le_of_ble_eq_true rfl, Nat.le_of_ble_eq_true rfl⟩ ⟨Nat.le_of_ble_eq_true rfl, Nat.le_of_ble_eq_true rfl⟩ (Nat.le_of_ble_eq_true rfl) ?_
  have b6 := ifd (0 ≤ a ∧ a ≤ 3)
  generalize (if 0 ≤ a ∧ a ≤ 3 then (1 : Int) else 0) = z6 at b6 ⊢
  refine g_if_eq (tgt := 41) dX13_findLot_9 (by decide) (by first | omega | exact m64 (hB _)) (fun c_9 => ?_) (fun c_9 => ?_)
  · refine g_aload_n dX13_findLot_41 rfl rfl ?_
    refine g_iconst dX13_findLot_42 ?_
    refine g_callVw (i := 10) rfl (gK0 (by assumption)) (g_at10 (by assumption)) (k_M_refuse Y hM _) u_X13_refuse mw_1202 dX13_findLot_43 rfl rfl ⟨Nat.le_of_ble_eq_true rfl, Nat.le_of_ble_eq_true rfl⟩ ⟨Nat.le_of_ble_eq_true rfl, Nat.le_of_ble_eq_true rfl⟩ (Nat.le_of_ble_eq_true rfl) (fun v43 I43 A43 h43 => ?_)
    obtain ⟨rfl, e43, f43⟩ := h43
    exact g_iret dX13_findLot_46 rfl (by decide) (by decide) (by first | exact ⟨rfl, rfl, rfl, rfl, mRdP.yes (by first | (rw [if_pos (by omega)]; done) | (rw [if_neg (by omega), if_pos (by omega)]; done) | (rw [if_neg (by omega)]; done) | (rw [if_neg (by omega), if_neg (by omega), if_pos (by omega)]; done) | (rw [if_neg (by omega), if_neg (by omega)]; done) | (rw [if_neg (by omega), if_neg (by omega), if_neg (by omega), if_pos (by omega)]; done) | (rw [if_neg (by omega), if_neg (by omega), if_neg (by omega)]; done) | omega | rfl) hI2 rfl⟩ | exact ⟨rfl, rfl, rfl, rfl, by rw [f43]; exact mRdP.no hI2 e43 (by first | (rw [if_pos (by omega)]; done) | (rw [if_neg (by omega), if_pos (by omega)]; done) | (rw [if_neg (by omega)]; done) | (rw [if_neg (by omega), if_neg (by omega), if_pos (by omega)]; done) | (rw [if_neg (by omega), if_neg (by omega)]; done) | (rw [if_neg (by omega), if_neg (by omega), if_neg (by omega), if_pos (by omega)]; done) | (rw [if_neg (by omega), if_neg (by omega), if_neg (by omega)]; done) | omega | rfl) (by omega)⟩)
  · refine g_iload_n dX13_findLot_12 rfl rfl ?_
    refine g_i2l dX13_findLot_13 (by first | omega | exact m64 (hB _)) ?_
    refine g_lconst (c := 0) dX13_findLot_14 (by decide) ?_
    refine g_ldc2 (c := 19) dX13_findLot_15 mw_1206 (by decide) ?_
    refine g_callSp (k_M_in Y _ _ _ (by first | omega | exact m64 (hB _)) (by first | omega | exact m64 (hB _)) (by first | omega | exact m64 (hB _))) u_X13_in mw_1199 rfl dX13_findLot_18 rfl rfl ⟨Nat.le_of_ble_eq_true rfl, Nat.le_of_ble_eq_true rfl⟩ ⟨Nat.le_of_ble_eq_true rfl, Nat.le_of_ble_eq_true rfl⟩ (Nat.le_of_ble_eq_true rfl) ?_
    have b18 := ifd (0 ≤ b ∧ b ≤ 19)
    generalize (if 0 ≤ b ∧ b ≤ 19 then (1 : Int) else 0) = z18 at b18 ⊢
    refine g_if_eq (tgt := 41) dX13_findLot_21 (by decide) (by first | omega | exact m64 (hB _)) (fun c_21 => ?_) (fun c_21 => ?_)
    · refine g_aload_n dX13_findLot_41 rfl rfl ?_
      refine g_iconst dX13_findLot_42 ?_
      refine g_callVw (i := 10) rfl (gK0 (by assumption)) (g_at10 (by assumption)) (k_M_refuse Y hM _) u_X13_refuse mw_1202 dX13_findLot_43 rfl rfl ⟨Nat.le_of_ble_eq_true rfl, Nat.le_of_ble_eq_true rfl⟩ ⟨Nat.le_of_ble_eq_true rfl, Nat.le_of_ble_eq_true rfl⟩ (Nat.le_of_ble_eq_true rfl) (fun v43 I43 A43 h43 => ?_)
      obtain ⟨rfl, e43, f43⟩ := h43
      exact g_iret dX13_findLot_46 rfl (by decide) (by decide) (by first | exact ⟨rfl, rfl, rfl, rfl, mRdP.yes (by first | (rw [if_pos (by omega)]; done) | (rw [if_neg (by omega), if_pos (by omega)]; done) | (rw [if_neg (by omega)]; done) | (rw [if_neg (by omega), if_neg (by omega), if_pos (by omega)]; done) | (rw [if_neg (by omega), if_neg (by omega)]; done) | (rw [if_neg (by omega), if_neg (by omega), if_neg (by omega), if_pos (by omega)]; done) | (rw [if_neg (by omega), if_neg (by omega), if_neg (by omega)]; done) | omega | rfl) hI2 rfl⟩ | exact ⟨rfl, rfl, rfl, rfl, by rw [f43]; exact mRdP.no hI2 e43 (by first | (rw [if_pos (by omega)]; done) | (rw [if_neg (by omega), if_pos (by omega)]; done) | (rw [if_neg (by omega)]; done) | (rw [if_neg (by omega), if_neg (by omega), if_pos (by omega)]; done) | (rw [if_neg (by omega), if_neg (by omega)]; done) | (rw [if_neg (by omega), if_neg (by omega), if_neg (by omega), if_pos (by omega)]; done) | (rw [if_neg (by omega), if_neg (by omega), if_neg (by omega)]; done) | omega | rfl) (by omega)⟩)
    · refine g_iload_n dX13_findLot_24 rfl rfl ?_
      refine g_callSp (k_M_isGrade Y _ (by omega)) u_X13_isGrade mw_1320 rfl dX13_findLot_25 rfl rfl ⟨Nat.le_of_ble_eq_true rfl, Nat.le_of_ble_eq_true rfl⟩ ⟨Nat.le_of_ble_eq_true rfl, Nat.le_of_ble_eq_true rfl⟩ (Nat.le_of_ble_eq_true rfl) ?_
      have b25 := ifd (1 ≤ c ∧ c ≤ 2)
      generalize (if 1 ≤ c ∧ c ≤ 2 then (1 : Int) else 0) = z25 at b25 ⊢
      refine g_if_eq (tgt := 41) dX13_findLot_28 (by decide) (by first | omega | exact m64 (hB _)) (fun c_28 => ?_) (fun c_28 => ?_)
      · refine g_aload_n dX13_findLot_41 rfl rfl ?_
        refine g_iconst dX13_findLot_42 ?_
        refine g_callVw (i := 10) rfl (gK0 (by assumption)) (g_at10 (by assumption)) (k_M_refuse Y hM _) u_X13_refuse mw_1202 dX13_findLot_43 rfl rfl ⟨Nat.le_of_ble_eq_true rfl, Nat.le_of_ble_eq_true rfl⟩ ⟨Nat.le_of_ble_eq_true rfl, Nat.le_of_ble_eq_true rfl⟩ (Nat.le_of_ble_eq_true rfl) (fun v43 I43 A43 h43 => ?_)
        obtain ⟨rfl, e43, f43⟩ := h43
        exact g_iret dX13_findLot_46 rfl (by decide) (by decide) (by first | exact ⟨rfl, rfl, rfl, rfl, mRdP.yes (by first | (rw [if_pos (by omega)]; done) | (rw [if_neg (by omega), if_pos (by omega)]; done) | (rw [if_neg (by omega)]; done) | (rw [if_neg (by omega), if_neg (by omega), if_pos (by omega)]; done) | (rw [if_neg (by omega), if_neg (by omega)]; done) | (rw [if_neg (by omega), if_neg (by omega), if_neg (by omega), if_pos (by omega)]; done) | (rw [if_neg (by omega), if_neg (by omega), if_neg (by omega)]; done) | omega | rfl) hI2 rfl⟩ | exact ⟨rfl, rfl, rfl, rfl, by rw [f43]; exact mRdP.no hI2 e43 (by first | (rw [if_pos (by omega)]; done) | (rw [if_neg (by omega), if_pos (by omega)]; done) | (rw [if_neg (by omega)]; done) | (rw [if_neg (by omega), if_neg (by omega), if_pos (by omega)]; done) | (rw [if_neg (by omega), if_neg (by omega)]; done) | (rw [if_neg (by omega), if_neg (by omega), if_neg (by omega), if_pos (by omega)]; done) | (rw [if_neg (by omega), if_neg (by omega), if_neg (by omega)]; done) | omega | rfl) (by omega)⟩)
      · refine g_aload_n dX13_findLot_31 rfl rfl ?_
        refine g_iload_n dX13_findLot_32 rfl rfl ?_
        refine g_iload_n dX13_findLot_33 rfl rfl ?_
        refine g_iload_n dX13_findLot_34 rfl rfl ?_
        refine g_callVp (i := 10) rfl (gK0 (by assumption)) (g_at10 (by assumption)) (k_M_find Y hM hB _ _ _ (by omega) (by omega) (by omega) (by omega)) u_X13_find mw_1300 dX13_findLot_35 rfl rfl ⟨Nat.le_of_ble_eq_true rfl, Nat.le_of_ble_eq_true rfl⟩ ⟨Nat.le_of_ble_eq_true rfl, Nat.le_of_ble_eq_true rfl⟩ (Nat.le_of_ble_eq_true rfl) ?_
        refine g_goto (tgt := 46) dX13_findLot_38 (by decide) ?_
        exact g_iret dX13_findLot_46 rfl (by decide) (by decide) (by first | exact ⟨rfl, rfl, rfl, rfl, mRdP.yes (by first | (rw [if_pos (by omega)]; done) | (rw [if_neg (by omega), if_pos (by omega)]; done) | (rw [if_neg (by omega)]; done) | (rw [if_neg (by omega), if_neg (by omega), if_pos (by omega)]; done) | (rw [if_neg (by omega), if_neg (by omega)]; done) | (rw [if_neg (by omega), if_neg (by omega), if_neg (by omega), if_pos (by omega)]; done) | (rw [if_neg (by omega), if_neg (by omega), if_neg (by omega)]; done) | omega | rfl) hI2 rfl⟩ | exact ⟨rfl, rfl, rfl, rfl, by rw [f43]; exact mRdP.no hI2 e43 (by first | (rw [if_pos (by omega)]; done) | (rw [if_neg (by omega), if_pos (by omega)]; done) | (rw [if_neg (by omega)]; done) | (rw [if_neg (by omega), if_neg (by omega), if_pos (by omega)]; done) | (rw [if_neg (by omega), if_neg (by omega)]; done) | (rw [if_neg (by omega), if_neg (by omega), if_neg (by omega), if_pos (by omega)]; done) | (rw [if_neg (by omega), if_neg (by omega), if_neg (by omega)]; done) | omega | rfl) (by omega)⟩)
set_option maxHeartbeats 4000000 in
set_option maxRecDepth 100000 in
theorem k_M_delivery (Y : gEnv) {K N : Nat → Nat} {I : Nat → Nat → Int} {A : Nat → Int → Int} {R : Nat → Nat → Option Nat} {Q : Nat → Int → Option Nat} {x w sv tx ag : Nat} (hM : mS K N R x w sv tx ag) (h0 : iN (A w)) (hm : mT (A w)) (i : Int) (p : Int) (hi : (-2147483648 ≤ i ∧ i ≤ 2147483647)) (hp : (-2147483648 ≤ p ∧ p ≤ 2147483647)) : gC Y yX13_delivery cX13_delivery 3 (some .long) ({ frames := 2, cells := 0, slots := 0, locals := 46 } : Room) [.ref x, vi i, vi p] K N I A R Q (g_wr K N R Q (fun v I' A' => mRdL I A x (if ¬ (0 ≤ i ∧ i < A w 1615) then 1 else if ¬ (0 ≤ p ∧ p ≤ 4) then 2 else 0) (A w (1370 + 40 * p + i)) v I' A')) gno := by
  refine gC_of (by decide) (Nat.le_of_ble_eq_true rfl) (fun X => ?_)
  obtain ⟨hKx, hRw, hRs, hRt, hRa, hKw, hNw, hKs, hNs, hKt, hNt, hKa, hNa, hta⟩ := id hM
  have hB : mB (A w) := hm.mB
  have n14 : 0 ≤ A w 1614 ∧ A w 1614 ≤ 160 := ⟨h0.2.2.2.2.1.1, h0.2.2.2.2.1.2.1⟩
  have n15 : 0 ≤ A w 1615 ∧ A w 1615 ≤ 40 := ⟨h0.2.2.2.2.2.1.1, h0.2.2.2.2.2.1.2.1⟩
  have n13 : 0 ≤ A w 1613 ∧ A w 1613 ≤ 80 := ⟨h0.2.2.2.1.1, h0.2.2.2.1.2.1⟩
  have n16 : 0 ≤ A w 1616 ∧ A w 1616 ≤ 20 := h0.2.2.2.2.2.2.2
  have nG := h0.1
  have nO := h0.2.1
  have nS := h0.2.2.2.2.2.2.1
  have nL := h0.2.2.2.2.1.2.2.1
  refine g_aload_n dX13_delivery_0 rfl rfl ?_
  refine g_iconst dX13_delivery_1 ?_
  refine g_put_Model_thrown dX13_delivery_2 mw_1161 (by assumption) (fun I2 hI2 => ?_)
  refine g_aload_n dX13_delivery_5 rfl rfl ?_
  refine g_iload_n dX13_delivery_6 rfl rfl ?_
  refine g_callVp (i := 10) rfl (gK0 (by assumption)) (g_at10 (by assumption)) (k_M_isDelivery Y hM hB _ (by omega) (by omega)) u_X13_isDelivery mw_1367 dX13_delivery_7 rfl rfl ⟨Nat.le_of_ble_eq_true rfl, Nat.le_of_ble_eq_true rfl⟩ ⟨Nat.le_of_ble_eq_true rfl, Nat.le_of_ble_eq_true rfl⟩ (Nat.le_of_ble_eq_true rfl) ?_
  have b7 := ifd (0 ≤ i ∧ i < A w 1615)
  generalize (if 0 ≤ i ∧ i < A w 1615 then (1 : Int) else 0) = z7 at b7 ⊢
  refine g_if_ne (tgt := 20) dX13_delivery_10 (by decide) (by first | omega | exact m64 (hB _)) (fun c_10 => ?_) (fun c_10 => ?_)
  · refine g_iload_n dX13_delivery_20 rfl rfl ?_
    refine g_i2l dX13_delivery_21 (by first | omega | exact m64 (hB _)) ?_
    refine g_lconst (c := 0) dX13_delivery_22 (by decide) ?_
    refine g_ldc2 (c := 4) dX13_delivery_23 mw_1412 (by decide) ?_
    refine g_callSp (k_M_in Y _ _ _ (by first | omega | exact m64 (hB _)) (by first | omega | exact m64 (hB _)) (by first | omega | exact m64 (hB _))) u_X13_in mw_1199 rfl dX13_delivery_26 rfl rfl ⟨Nat.le_of_ble_eq_true rfl, Nat.le_of_ble_eq_true rfl⟩ ⟨Nat.le_of_ble_eq_true rfl, Nat.le_of_ble_eq_true rfl⟩ (Nat.le_of_ble_eq_true rfl) ?_
    have b26 := ifd (0 ≤ p ∧ p ≤ 4)
    generalize (if 0 ≤ p ∧ p ≤ 4 then (1 : Int) else 0) = z26 at b26 ⊢
    refine g_if_eq (tgt := 50) dX13_delivery_29 (by decide) (by first | omega | exact m64 (hB _)) (fun c_29 => ?_) (fun c_29 => ?_)
    · refine g_aload_n dX13_delivery_50 rfl rfl ?_
      refine g_iconst dX13_delivery_51 ?_
      refine g_callVw (i := 10) rfl (gK0 (by assumption)) (g_at10 (by assumption)) (k_M_refuse Y hM _) u_X13_refuse mw_1202 dX13_delivery_52 rfl rfl ⟨Nat.le_of_ble_eq_true rfl, Nat.le_of_ble_eq_true rfl⟩ ⟨Nat.le_of_ble_eq_true rfl, Nat.le_of_ble_eq_true rfl⟩ (Nat.le_of_ble_eq_true rfl) (fun v52 I52 A52 h52 => ?_)
      obtain ⟨rfl, e52, f52⟩ := h52
      refine g_i2l dX13_delivery_55 (by first | omega | exact m64 (hB _)) ?_
      exact g_lret dX13_delivery_56 rfl (by decide) (by decide) (by first | exact ⟨rfl, rfl, rfl, rfl, mRdL.yes (by first | (rw [if_pos (by omega)]; done) | (rw [if_neg (by omega), if_pos (by omega)]; done) | (rw [if_neg (by omega)]; done) | (rw [if_neg (by omega), if_neg (by omega), if_pos (by omega)]; done) | (rw [if_neg (by omega), if_neg (by omega)]; done) | (rw [if_neg (by omega), if_neg (by omega), if_neg (by omega), if_pos (by omega)]; done) | (rw [if_neg (by omega), if_neg (by omega), if_neg (by omega)]; done) | omega | rfl) hI2 rfl⟩ | exact ⟨rfl, rfl, rfl, rfl, by rw [f52]; exact mRdL.no hI2 e52 (by first | (rw [if_pos (by omega)]; done) | (rw [if_neg (by omega), if_pos (by omega)]; done) | (rw [if_neg (by omega)]; done) | (rw [if_neg (by omega), if_neg (by omega), if_pos (by omega)]; done) | (rw [if_neg (by omega), if_neg (by omega)]; done) | (rw [if_neg (by omega), if_neg (by omega), if_neg (by omega), if_pos (by omega)]; done) | (rw [if_neg (by omega), if_neg (by omega), if_neg (by omega)]; done) | omega | rfl) (by omega)⟩)
    · refine g_aload_n dX13_delivery_32 rfl rfl ?_
      refine g_get_Model_w dX13_delivery_33 mw_1155 (by assumption) (by assumption) ?_
      refine g_sipush dX13_delivery_36 (by decide) ?_
      refine g_bipush dX13_delivery_39 (by decide) ?_
      refine g_iload_n dX13_delivery_41 rfl rfl ?_
      refine g_imul dX13_delivery_42 ?_
      refine g_iadd dX13_delivery_43 ?_
      refine g_iload_n dX13_delivery_44 rfl rfl ?_
      refine g_iadd dX13_delivery_45 ?_
      refine g_laload dX13_delivery_46 (by assumption) (by omega) (by omega) ?_
      refine g_goto (tgt := 56) dX13_delivery_47 (by decide) ?_
      exact g_lret dX13_delivery_56 rfl (by decide) (by decide) (by first | exact ⟨rfl, rfl, rfl, rfl, mRdL.yes (by first | (rw [if_pos (by omega)]; done) | (rw [if_neg (by omega), if_pos (by omega)]; done) | (rw [if_neg (by omega)]; done) | (rw [if_neg (by omega), if_neg (by omega), if_pos (by omega)]; done) | (rw [if_neg (by omega), if_neg (by omega)]; done) | (rw [if_neg (by omega), if_neg (by omega), if_neg (by omega), if_pos (by omega)]; done) | (rw [if_neg (by omega), if_neg (by omega), if_neg (by omega)]; done) | omega | rfl) hI2 rfl⟩ | exact ⟨rfl, rfl, rfl, rfl, by rw [f52]; exact mRdL.no hI2 e52 (by first | (rw [if_pos (by omega)]; done) | (rw [if_neg (by omega), if_pos (by omega)]; done) | (rw [if_neg (by omega)]; done) | (rw [if_neg (by omega), if_neg (by omega), if_pos (by omega)]; done) | (rw [if_neg (by omega), if_neg (by omega)]; done) | (rw [if_neg (by omega), if_neg (by omega), if_neg (by omega), if_pos (by omega)]; done) | (rw [if_neg (by omega), if_neg (by omega), if_neg (by omega)]; done) | omega | rfl) (by omega)⟩)
  · refine g_aload_n dX13_delivery_13 rfl rfl ?_
    refine g_iconst dX13_delivery_14 ?_
    refine g_callVw (i := 10) rfl (gK0 (by assumption)) (g_at10 (by assumption)) (k_M_refuse Y hM _) u_X13_refuse mw_1202 dX13_delivery_15 rfl rfl ⟨Nat.le_of_ble_eq_true rfl, Nat.le_of_ble_eq_true rfl⟩ ⟨Nat.le_of_ble_eq_true rfl, Nat.le_of_ble_eq_true rfl⟩ (Nat.le_of_ble_eq_true rfl) (fun v15 I15 A15 h15 => ?_)
    obtain ⟨rfl, e15, f15⟩ := h15
    refine g_i2l dX13_delivery_18 (by first | omega | exact m64 (hB _)) ?_
    exact g_lret dX13_delivery_19 rfl (by decide) (by decide) ⟨rfl, rfl, rfl, rfl, by rw [f15]; exact mRdL.no hI2 e15 (by first | (rw [if_pos (by omega)]; done) | (rw [if_neg (by omega), if_pos (by omega)]; done) | (rw [if_neg (by omega)]; done) | (rw [if_neg (by omega), if_neg (by omega), if_pos (by omega)]; done) | (rw [if_neg (by omega), if_neg (by omega)]; done) | (rw [if_neg (by omega), if_neg (by omega), if_neg (by omega), if_pos (by omega)]; done) | (rw [if_neg (by omega), if_neg (by omega), if_neg (by omega)]; done) | omega | rfl) (by omega)⟩
set_option maxHeartbeats 4000000 in
set_option maxRecDepth 100000 in
theorem k_M_event (Y : gEnv) {K N : Nat → Nat} {I : Nat → Nat → Int} {A : Nat → Int → Int} {R : Nat → Nat → Option Nat} {Q : Nat → Int → Option Nat} {x w sv tx ag : Nat} (hM : mS K N R x w sv tx ag) (h0 : iN (A w)) (hm : mT (A w)) (i : Int) (p : Int) (hi : (-2147483648 ≤ i ∧ i ≤ 2147483647)) (hp : (-2147483648 ≤ p ∧ p ≤ 2147483647)) : gC Y yX13_event cX13_event 3 (some .int) ({ frames := 1, cells := 0, slots := 0, locals := 25 } : Room) [.ref x, vi i, vi p] K N I A R Q (g_wr K N R Q (fun v I' A' => mRdP I A x (if ¬ (0 ≤ i ∧ (0 ≤ p ∧ p ≤ 1)) then 1 else 0) (sEvQ (A w) i p) v I' A')) gno := by
  refine gC_of (by decide) (Nat.le_of_ble_eq_true rfl) (fun X => ?_)
  obtain ⟨hKx, hRw, hRs, hRt, hRa, hKw, hNw, hKs, hNs, hKt, hNt, hKa, hNa, hta⟩ := id hM
  have hB : mB (A w) := hm.mB
  have n14 : 0 ≤ A w 1614 ∧ A w 1614 ≤ 160 := ⟨h0.2.2.2.2.1.1, h0.2.2.2.2.1.2.1⟩
  have n15 : 0 ≤ A w 1615 ∧ A w 1615 ≤ 40 := ⟨h0.2.2.2.2.2.1.1, h0.2.2.2.2.2.1.2.1⟩
  have n13 : 0 ≤ A w 1613 ∧ A w 1613 ≤ 80 := ⟨h0.2.2.2.1.1, h0.2.2.2.1.2.1⟩
  have n16 : 0 ≤ A w 1616 ∧ A w 1616 ≤ 20 := h0.2.2.2.2.2.2.2
  have nG := h0.1
  have nO := h0.2.1
  have nS := h0.2.2.2.2.2.2.1
  have nL := h0.2.2.2.2.1.2.2.1
  refine g_aload_n dX13_event_0 rfl rfl ?_
  refine g_iconst dX13_event_1 ?_
  refine g_put_Model_thrown dX13_event_2 mw_1161 (by assumption) (fun I2 hI2 => ?_)
  refine g_iload_n dX13_event_5 rfl rfl ?_
  refine g_if_lt (tgt := 19) dX13_event_6 (by decide) (by first | omega | exact m64 (hB _)) (fun c_6 => ?_) (fun c_6 => ?_)
  · refine g_aload_n dX13_event_19 rfl rfl ?_
    refine g_iconst dX13_event_20 ?_
    refine g_callVw (i := 10) rfl (gK0 (by assumption)) (g_at10 (by assumption)) (k_M_refuse Y hM _) u_X13_refuse mw_1202 dX13_event_21 rfl rfl ⟨Nat.le_of_ble_eq_true rfl, Nat.le_of_ble_eq_true rfl⟩ ⟨Nat.le_of_ble_eq_true rfl, Nat.le_of_ble_eq_true rfl⟩ (Nat.le_of_ble_eq_true rfl) (fun v21 I21 A21 h21 => ?_)
    obtain ⟨rfl, e21, f21⟩ := h21
    exact g_iret dX13_event_24 rfl (by decide) (by decide) ⟨rfl, rfl, rfl, rfl, by rw [f21]; exact mRdP.no hI2 e21 (by first | (rw [if_pos (by omega)]; done) | (rw [if_neg (by omega), if_pos (by omega)]; done) | (rw [if_neg (by omega)]; done) | (rw [if_neg (by omega), if_neg (by omega), if_pos (by omega)]; done) | (rw [if_neg (by omega), if_neg (by omega)]; done) | (rw [if_neg (by omega), if_neg (by omega), if_neg (by omega), if_pos (by omega)]; done) | (rw [if_neg (by omega), if_neg (by omega), if_neg (by omega)]; done) | omega | rfl) (by omega)⟩
  · refine g_iload_n dX13_event_9 rfl rfl ?_
    refine g_i2l dX13_event_10 (by first | omega | exact m64 (hB _)) ?_
    refine g_lconst (c := 0) dX13_event_11 (by decide) ?_
    refine g_lconst (c := 1) dX13_event_12 (by decide) ?_
    refine g_callSp (k_M_in Y _ _ _ (by first | omega | exact m64 (hB _)) (by first | omega | exact m64 (hB _)) (by first | omega | exact m64 (hB _))) u_X13_in mw_1199 rfl dX13_event_13 rfl rfl ⟨Nat.le_of_ble_eq_true rfl, Nat.le_of_ble_eq_true rfl⟩ ⟨Nat.le_of_ble_eq_true rfl, Nat.le_of_ble_eq_true rfl⟩ (Nat.le_of_ble_eq_true rfl) ?_
    have b13 := ifd (0 ≤ p ∧ p ≤ 1)
    generalize (if 0 ≤ p ∧ p ≤ 1 then (1 : Int) else 0) = z13 at b13 ⊢
    refine g_if_ne (tgt := 25) dX13_event_16 (by decide) (by first | omega | exact m64 (hB _)) (fun c_16 => ?_) (fun c_16 => ?_)
    · refine g_iload_n dX13_event_25 rfl rfl ?_
      refine g_i2l dX13_event_26 (by first | omega | exact m64 (hB _)) ?_
      refine g_aload_n dX13_event_27 rfl rfl ?_
      refine g_get_Model_w dX13_event_28 mw_1155 (by assumption) (by assumption) ?_
      refine g_sipush dX13_event_31 (by decide) ?_
      refine g_laload dX13_event_34 (by assumption) (by omega) (by omega) ?_
      refine g_lcmp_ge (tgt := 70) dX13_event_35 dX13_event_36 (by decide) (by first | omega | exact m64 (hB _)) (by first | omega | exact m64 (hB _)) (fun c_35 => ?_) (fun c_35 => ?_)
      · refine g_iconst dX13_event_70 ?_
        exact g_iret dX13_event_71 rfl (by decide) (by decide) (by first | exact ⟨rfl, rfl, rfl, rfl, mRdP.yes (by first | (rw [if_pos (by omega)]; done) | (rw [if_neg (by omega), if_pos (by omega)]; done) | (rw [if_neg (by omega)]; done) | (rw [if_neg (by omega), if_neg (by omega), if_pos (by omega)]; done) | (rw [if_neg (by omega), if_neg (by omega)]; done) | (rw [if_neg (by omega), if_neg (by omega), if_neg (by omega), if_pos (by omega)]; done) | (rw [if_neg (by omega), if_neg (by omega), if_neg (by omega)]; done) | omega | rfl) hI2 (by simp only [sEvQ]; rw [if_pos (by omega)])⟩ | exact ⟨rfl, rfl, rfl, rfl, mRdP.yes (by first | (rw [if_pos (by omega)]; done) | (rw [if_neg (by omega), if_pos (by omega)]; done) | (rw [if_neg (by omega)]; done) | (rw [if_neg (by omega), if_neg (by omega), if_pos (by omega)]; done) | (rw [if_neg (by omega), if_neg (by omega)]; done) | (rw [if_neg (by omega), if_neg (by omega), if_neg (by omega), if_pos (by omega)]; done) | (rw [if_neg (by omega), if_neg (by omega), if_neg (by omega)]; done) | omega | rfl) hI2 (by simp only [sEvQ]; rw [if_neg (by omega)])⟩)
      · refine g_aload_n dX13_event_39 rfl rfl ?_
        refine g_get_Model_w dX13_event_40 mw_1155 (by assumption) (by assumption) ?_
        refine g_sipush dX13_event_43 (by decide) ?_
        refine g_bipush dX13_event_46 (by decide) ?_
        refine g_iload_n dX13_event_48 rfl rfl ?_
        refine g_imul dX13_event_49 ?_
        refine g_iadd dX13_event_50 ?_
        refine g_aload_n dX13_event_51 rfl rfl ?_
        refine g_get_Model_w dX13_event_52 mw_1155 (by assumption) (by assumption) ?_
        refine g_sipush dX13_event_55 (by decide) ?_
        refine g_laload dX13_event_58 (by assumption) (by omega) (by omega) ?_
        refine g_l2i dX13_event_59 ?_
        refine g_iadd dX13_event_60 ?_
        refine g_iconst dX13_event_61 ?_
        refine g_isub dX13_event_62 ?_
        refine g_iload_n dX13_event_63 rfl rfl ?_
        refine g_isub dX13_event_64 ?_
        refine g_laload dX13_event_65 (by assumption) (by omega) (by omega) ?_
        refine g_l2i dX13_event_66 ?_
        refine g_goto (tgt := 71) dX13_event_67 (by decide) ?_
        exact g_iret dX13_event_71 rfl (by decide) (by decide) (by first | exact ⟨rfl, rfl, rfl, rfl, mRdP.yes (by first | (rw [if_pos (by omega)]; done) | (rw [if_neg (by omega), if_pos (by omega)]; done) | (rw [if_neg (by omega)]; done) | (rw [if_neg (by omega), if_neg (by omega), if_pos (by omega)]; done) | (rw [if_neg (by omega), if_neg (by omega)]; done) | (rw [if_neg (by omega), if_neg (by omega), if_neg (by omega), if_pos (by omega)]; done) | (rw [if_neg (by omega), if_neg (by omega), if_neg (by omega)]; done) | omega | rfl) hI2 (by simp only [sEvQ]; rw [if_pos (by omega)])⟩ | exact ⟨rfl, rfl, rfl, rfl, mRdP.yes (by first | (rw [if_pos (by omega)]; done) | (rw [if_neg (by omega), if_pos (by omega)]; done) | (rw [if_neg (by omega)]; done) | (rw [if_neg (by omega), if_neg (by omega), if_pos (by omega)]; done) | (rw [if_neg (by omega), if_neg (by omega)]; done) | (rw [if_neg (by omega), if_neg (by omega), if_neg (by omega), if_pos (by omega)]; done) | (rw [if_neg (by omega), if_neg (by omega), if_neg (by omega)]; done) | omega | rfl) hI2 (by simp only [sEvQ]; rw [if_neg (by omega)])⟩)
    · refine g_aload_n dX13_event_19 rfl rfl ?_
      refine g_iconst dX13_event_20 ?_
      refine g_callVw (i := 10) rfl (gK0 (by assumption)) (g_at10 (by assumption)) (k_M_refuse Y hM _) u_X13_refuse mw_1202 dX13_event_21 rfl rfl ⟨Nat.le_of_ble_eq_true rfl, Nat.le_of_ble_eq_true rfl⟩ ⟨Nat.le_of_ble_eq_true rfl, Nat.le_of_ble_eq_true rfl⟩ (Nat.le_of_ble_eq_true rfl) (fun v21 I21 A21 h21 => ?_)
      obtain ⟨rfl, e21, f21⟩ := h21
      exact g_iret dX13_event_24 rfl (by decide) (by decide) ⟨rfl, rfl, rfl, rfl, by rw [f21]; exact mRdP.no hI2 e21 (by first | (rw [if_pos (by omega)]; done) | (rw [if_neg (by omega), if_pos (by omega)]; done) | (rw [if_neg (by omega)]; done) | (rw [if_neg (by omega), if_neg (by omega), if_pos (by omega)]; done) | (rw [if_neg (by omega), if_neg (by omega)]; done) | (rw [if_neg (by omega), if_neg (by omega), if_neg (by omega), if_pos (by omega)]; done) | (rw [if_neg (by omega), if_neg (by omega), if_neg (by omega)]; done) | omega | rfl) (by omega)⟩
set_option maxHeartbeats 4000000 in
set_option maxRecDepth 100000 in
theorem k_M_total (Y : gEnv) {K N : Nat → Nat} {I : Nat → Nat → Int} {A : Nat → Int → Int} {R : Nat → Nat → Option Nat} {Q : Nat → Int → Option Nat} {x w sv tx ag : Nat} (hM : mS K N R x w sv tx ag) (h0 : iN (A w)) (hm : mT (A w)) (hs4 : 0 ≤ I 204 x ∧ I 204 x ≤ 6) (hs5 : 0 ≤ I 205 x ∧ I 205 x ≤ 100) (p : Int) (hp : (-2147483648 ≤ p ∧ p ≤ 2147483647)) : gC Y yX13_total cX13_total 2 (some .long) ({ frames := 2, cells := 0, slots := 0, locals := 46 } : Room) [.ref x, vi p] K N I A R Q (g_wr K N R Q (fun v I' A' => mRdL I A x (if ¬ (0 ≤ p ∧ p ≤ 15) then 1 else 0) (sTotQ (A w) (I 204 x) (I 205 x) p) v I' A')) gno := by
  refine gC_of (by decide) (Nat.le_of_ble_eq_true rfl) (fun X => ?_)
  obtain ⟨hKx, hRw, hRs, hRt, hRa, hKw, hNw, hKs, hNs, hKt, hNt, hKa, hNa, hta⟩ := id hM
  have hB : mB (A w) := hm.mB
  have n14 : 0 ≤ A w 1614 ∧ A w 1614 ≤ 160 := ⟨h0.2.2.2.2.1.1, h0.2.2.2.2.1.2.1⟩
  have n15 : 0 ≤ A w 1615 ∧ A w 1615 ≤ 40 := ⟨h0.2.2.2.2.2.1.1, h0.2.2.2.2.2.1.2.1⟩
  have n13 : 0 ≤ A w 1613 ∧ A w 1613 ≤ 80 := ⟨h0.2.2.2.1.1, h0.2.2.2.1.2.1⟩
  have n16 : 0 ≤ A w 1616 ∧ A w 1616 ≤ 20 := h0.2.2.2.2.2.2.2
  have nG := h0.1
  have nO := h0.2.1
  have nS := h0.2.2.2.2.2.2.1
  have nL := h0.2.2.2.2.1.2.2.1
  refine g_aload_n dX13_total_0 rfl rfl ?_
  refine g_iconst dX13_total_1 ?_
  refine g_put_Model_thrown dX13_total_2 mw_1161 (by assumption) (fun I2 hI2 => ?_)
  refine g_iload_n dX13_total_5 rfl rfl ?_
  have e204 : I2 204 x = I 204 x := by rw [hI2]; simp [g_up]
  have e205 : I2 205 x = I 205 x := by rw [hI2]; simp [g_up]
  rcases (show p = 0 ∨ p = 1 ∨ p = 2 ∨ p = 3 ∨ p = 4 ∨ p = 5 ∨ p = 6 ∨ p = 7 ∨ p = 8 ∨ p = 9 ∨ p = 10 ∨ p = 11 ∨ p = 12 ∨ p = 13 ∨ p = 14 ∨ p = 15 ∨ (p < 0 ∨ 15 < p) by omega) with t6 | t6 | t6 | t6 | t6 | t6 | t6 | t6 | t6 | t6 | t6 | t6 | t6 | t6 | t6 | t6 | t6
  · refine g_tswIn (off := 78) (tgt := 84) dX13_total_6 (by first | omega | exact m64 (hB _)) 0 (by omega) (by omega) rfl (by decide) ?_
    refine g_aload_n dX13_total_84 rfl rfl ?_
    refine g_get_Model_w dX13_total_85 mw_1155 (by assumption) (by assumption) ?_
    refine g_bipush dX13_total_88 (by decide) ?_
    refine g_laload dX13_total_90 (by assumption) (by omega) (by omega) ?_
    exact g_lret dX13_total_91 rfl (by decide) (by decide) ⟨rfl, rfl, rfl, rfl, mRdL.yes (by first | (rw [if_pos (by omega)]; done) | (rw [if_neg (by omega), if_pos (by omega)]; done) | (rw [if_neg (by omega)]; done) | (rw [if_neg (by omega), if_neg (by omega), if_pos (by omega)]; done) | (rw [if_neg (by omega), if_neg (by omega)]; done) | (rw [if_neg (by omega), if_neg (by omega), if_neg (by omega), if_pos (by omega)]; done) | (rw [if_neg (by omega), if_neg (by omega), if_neg (by omega)]; done) | omega | rfl) hI2 (by simp only [sTotQ]; rw [if_pos (by omega)])⟩
  · refine g_tswIn (off := 86) (tgt := 92) dX13_total_6 (by first | omega | exact m64 (hB _)) 1 (by omega) (by omega) rfl (by decide) ?_
    refine g_aload_n dX13_total_92 rfl rfl ?_
    refine g_get_Model_w dX13_total_93 mw_1155 (by assumption) (by assumption) ?_
    refine g_bipush dX13_total_96 (by decide) ?_
    refine g_laload dX13_total_98 (by assumption) (by omega) (by omega) ?_
    exact g_lret dX13_total_99 rfl (by decide) (by decide) ⟨rfl, rfl, rfl, rfl, mRdL.yes (by first | (rw [if_pos (by omega)]; done) | (rw [if_neg (by omega), if_pos (by omega)]; done) | (rw [if_neg (by omega)]; done) | (rw [if_neg (by omega), if_neg (by omega), if_pos (by omega)]; done) | (rw [if_neg (by omega), if_neg (by omega)]; done) | (rw [if_neg (by omega), if_neg (by omega), if_neg (by omega), if_pos (by omega)]; done) | (rw [if_neg (by omega), if_neg (by omega), if_neg (by omega)]; done) | omega | rfl) hI2 (by simp only [sTotQ]; rw [if_neg (by omega), if_pos (by omega)])⟩
  · refine g_tswIn (off := 94) (tgt := 100) dX13_total_6 (by first | omega | exact m64 (hB _)) 2 (by omega) (by omega) rfl (by decide) ?_
    refine g_aload_n dX13_total_100 rfl rfl ?_
    refine g_get_Model_w dX13_total_101 mw_1155 (by assumption) (by assumption) ?_
    refine g_sipush dX13_total_104 (by decide) ?_
    refine g_laload dX13_total_107 (by assumption) (by omega) (by omega) ?_
    exact g_lret dX13_total_108 rfl (by decide) (by decide) ⟨rfl, rfl, rfl, rfl, mRdL.yes (by first | (rw [if_pos (by omega)]; done) | (rw [if_neg (by omega), if_pos (by omega)]; done) | (rw [if_neg (by omega)]; done) | (rw [if_neg (by omega), if_neg (by omega), if_pos (by omega)]; done) | (rw [if_neg (by omega), if_neg (by omega)]; done) | (rw [if_neg (by omega), if_neg (by omega), if_neg (by omega), if_pos (by omega)]; done) | (rw [if_neg (by omega), if_neg (by omega), if_neg (by omega)]; done) | omega | rfl) hI2 (by simp only [sTotQ]; rw [if_neg (by omega), if_neg (by omega), if_pos (by omega)])⟩
  · refine g_tswIn (off := 103) (tgt := 109) dX13_total_6 (by first | omega | exact m64 (hB _)) 3 (by omega) (by omega) rfl (by decide) ?_
    refine g_aload_n dX13_total_109 rfl rfl ?_
    refine g_get_Model_w dX13_total_110 mw_1155 (by assumption) (by assumption) ?_
    refine g_sipush dX13_total_113 (by decide) ?_
    refine g_laload dX13_total_116 (by assumption) (by omega) (by omega) ?_
    exact g_lret dX13_total_117 rfl (by decide) (by decide) ⟨rfl, rfl, rfl, rfl, mRdL.yes (by first | (rw [if_pos (by omega)]; done) | (rw [if_neg (by omega), if_pos (by omega)]; done) | (rw [if_neg (by omega)]; done) | (rw [if_neg (by omega), if_neg (by omega), if_pos (by omega)]; done) | (rw [if_neg (by omega), if_neg (by omega)]; done) | (rw [if_neg (by omega), if_neg (by omega), if_neg (by omega), if_pos (by omega)]; done) | (rw [if_neg (by omega), if_neg (by omega), if_neg (by omega)]; done) | omega | rfl) hI2 (by simp only [sTotQ]; rw [if_neg (by omega), if_neg (by omega), if_neg (by omega), if_pos (by omega)])⟩
  · refine g_tswIn (off := 112) (tgt := 118) dX13_total_6 (by first | omega | exact m64 (hB _)) 4 (by omega) (by omega) rfl (by decide) ?_
    refine g_aload_n dX13_total_118 rfl rfl ?_
    refine g_get_Model_w dX13_total_119 mw_1155 (by assumption) (by assumption) ?_
    refine g_sipush dX13_total_122 (by decide) ?_
    refine g_laload dX13_total_125 (by assumption) (by omega) (by omega) ?_
    exact g_lret dX13_total_126 rfl (by decide) (by decide) ⟨rfl, rfl, rfl, rfl, mRdL.yes (by first | (rw [if_pos (by omega)]; done) | (rw [if_neg (by omega), if_pos (by omega)]; done) | (rw [if_neg (by omega)]; done) | (rw [if_neg (by omega), if_neg (by omega), if_pos (by omega)]; done) | (rw [if_neg (by omega), if_neg (by omega)]; done) | (rw [if_neg (by omega), if_neg (by omega), if_neg (by omega), if_pos (by omega)]; done) | (rw [if_neg (by omega), if_neg (by omega), if_neg (by omega)]; done) | omega | rfl) hI2 (by simp only [sTotQ]; rw [if_neg (by omega), if_neg (by omega), if_neg (by omega), if_neg (by omega), if_pos (by omega)])⟩
  · refine g_tswIn (off := 121) (tgt := 127) dX13_total_6 (by first | omega | exact m64 (hB _)) 5 (by omega) (by omega) rfl (by decide) ?_
    refine g_aload_n dX13_total_127 rfl rfl ?_
    refine g_callVp (i := 10) rfl (gK0 (by assumption)) (g_at10 (by assumption)) (k_M_onBench Y hM hB (by omega)) u_X13_onBench mw_1421 dX13_total_128 rfl rfl ⟨Nat.le_of_ble_eq_true rfl, Nat.le_of_ble_eq_true rfl⟩ ⟨Nat.le_of_ble_eq_true rfl, Nat.le_of_ble_eq_true rfl⟩ (Nat.le_of_ble_eq_true rfl) ?_
    exact g_lret dX13_total_131 rfl (by decide) (by decide) ⟨rfl, rfl, rfl, rfl, mRdL.yes (by first | (rw [if_pos (by omega)]; done) | (rw [if_neg (by omega), if_pos (by omega)]; done) | (rw [if_neg (by omega)]; done) | (rw [if_neg (by omega), if_neg (by omega), if_pos (by omega)]; done) | (rw [if_neg (by omega), if_neg (by omega)]; done) | (rw [if_neg (by omega), if_neg (by omega), if_neg (by omega), if_pos (by omega)]; done) | (rw [if_neg (by omega), if_neg (by omega), if_neg (by omega)]; done) | omega | rfl) hI2 (by simp only [sTotQ]; rw [if_neg (by omega), if_neg (by omega), if_neg (by omega), if_neg (by omega), if_neg (by omega), if_pos (by omega)]; rfl)⟩
  · refine g_tswIn (off := 126) (tgt := 132) dX13_total_6 (by first | omega | exact m64 (hB _)) 6 (by omega) (by omega) rfl (by decide) ?_
    refine g_aload_n dX13_total_132 rfl rfl ?_
    refine g_callVp (i := 10) rfl (gK0 (by assumption)) (g_at10 (by assumption)) (k_M_loose Y hM hB (by omega)) u_X13_loose mw_1425 dX13_total_133 rfl rfl ⟨Nat.le_of_ble_eq_true rfl, Nat.le_of_ble_eq_true rfl⟩ ⟨Nat.le_of_ble_eq_true rfl, Nat.le_of_ble_eq_true rfl⟩ (Nat.le_of_ble_eq_true rfl) ?_
    exact g_lret dX13_total_136 rfl (by decide) (by decide) ⟨rfl, rfl, rfl, rfl, mRdL.yes (by first | (rw [if_pos (by omega)]; done) | (rw [if_neg (by omega), if_pos (by omega)]; done) | (rw [if_neg (by omega)]; done) | (rw [if_neg (by omega), if_neg (by omega), if_pos (by omega)]; done) | (rw [if_neg (by omega), if_neg (by omega)]; done) | (rw [if_neg (by omega), if_neg (by omega), if_neg (by omega), if_pos (by omega)]; done) | (rw [if_neg (by omega), if_neg (by omega), if_neg (by omega)]; done) | omega | rfl) hI2 (by simp only [sTotQ]; rw [if_neg (by omega), if_neg (by omega), if_neg (by omega), if_neg (by omega), if_neg (by omega), if_neg (by omega), if_pos (by omega)]; rfl)⟩
  · refine g_tswIn (off := 131) (tgt := 137) dX13_total_6 (by first | omega | exact m64 (hB _)) 7 (by omega) (by omega) rfl (by decide) ?_
    refine g_aload_n dX13_total_137 rfl rfl ?_
    refine g_callVp (i := 10) rfl (gK0 (by assumption)) (g_at10 (by assumption)) (k_M_boxes Y hM hB (by omega)) u_X13_boxes mw_1240 dX13_total_138 rfl rfl ⟨Nat.le_of_ble_eq_true rfl, Nat.le_of_ble_eq_true rfl⟩ ⟨Nat.le_of_ble_eq_true rfl, Nat.le_of_ble_eq_true rfl⟩ (Nat.le_of_ble_eq_true rfl) ?_
    exact g_lret dX13_total_141 rfl (by decide) (by decide) ⟨rfl, rfl, rfl, rfl, mRdL.yes (by first | (rw [if_pos (by omega)]; done) | (rw [if_neg (by omega), if_pos (by omega)]; done) | (rw [if_neg (by omega)]; done) | (rw [if_neg (by omega), if_neg (by omega), if_pos (by omega)]; done) | (rw [if_neg (by omega), if_neg (by omega)]; done) | (rw [if_neg (by omega), if_neg (by omega), if_neg (by omega), if_pos (by omega)]; done) | (rw [if_neg (by omega), if_neg (by omega), if_neg (by omega)]; done) | omega | rfl) hI2 (by simp only [sTotQ]; rw [if_neg (by omega), if_neg (by omega), if_neg (by omega), if_neg (by omega), if_neg (by omega), if_neg (by omega), if_neg (by omega), if_pos (by omega)]; rfl)⟩
  · refine g_tswIn (off := 136) (tgt := 142) dX13_total_6 (by first | omega | exact m64 (hB _)) 8 (by omega) (by omega) rfl (by decide) ?_
    refine g_aload_n dX13_total_142 rfl rfl ?_
    refine g_callVp (i := 10) rfl (gK0 (by assumption)) (g_at10 (by assumption)) (k_M_boxesOut Y hM hB (by omega)) u_X13_boxesOut mw_1244 dX13_total_143 rfl rfl ⟨Nat.le_of_ble_eq_true rfl, Nat.le_of_ble_eq_true rfl⟩ ⟨Nat.le_of_ble_eq_true rfl, Nat.le_of_ble_eq_true rfl⟩ (Nat.le_of_ble_eq_true rfl) ?_
    rw [show sSum (fun l => A w (1450 + l)) (A w 1615).toNat 0 = sumO (A w) from rfl]
    refine g_aload_n dX13_total_146 rfl rfl ?_
    refine g_get_Model_w dX13_total_147 mw_1155 (by assumption) (by assumption) ?_
    refine g_bipush dX13_total_150 (by decide) ?_
    refine g_laload dX13_total_152 (by assumption) (by omega) (by omega) ?_
    refine g_lmul dX13_total_153 ?_
    exact g_lret dX13_total_154 rfl (by decide) (by decide) ⟨rfl, rfl, rfl, rfl, mRdL.yes (by first | (rw [if_pos (by omega)]; done) | (rw [if_neg (by omega), if_pos (by omega)]; done) | (rw [if_neg (by omega)]; done) | (rw [if_neg (by omega), if_neg (by omega), if_pos (by omega)]; done) | (rw [if_neg (by omega), if_neg (by omega)]; done) | (rw [if_neg (by omega), if_neg (by omega), if_neg (by omega), if_pos (by omega)]; done) | (rw [if_neg (by omega), if_neg (by omega), if_neg (by omega)]; done) | omega | rfl) hI2 (by simp only [sTotQ]; rw [if_neg (by omega), if_neg (by omega), if_neg (by omega), if_neg (by omega), if_neg (by omega), if_neg (by omega), if_neg (by omega), if_neg (by omega), if_pos (by omega)])⟩
  · refine g_tswIn (off := 149) (tgt := 155) dX13_total_6 (by first | omega | exact m64 (hB _)) 9 (by omega) (by omega) rfl (by decide) ?_
    refine g_aload_n dX13_total_155 rfl rfl ?_
    refine g_get_Model_w dX13_total_156 mw_1155 (by assumption) (by assumption) ?_
    refine g_sipush dX13_total_159 (by decide) ?_
    refine g_laload dX13_total_162 (by assumption) (by omega) (by omega) ?_
    exact g_lret dX13_total_163 rfl (by decide) (by decide) ⟨rfl, rfl, rfl, rfl, mRdL.yes (by first | (rw [if_pos (by omega)]; done) | (rw [if_neg (by omega), if_pos (by omega)]; done) | (rw [if_neg (by omega)]; done) | (rw [if_neg (by omega), if_neg (by omega), if_pos (by omega)]; done) | (rw [if_neg (by omega), if_neg (by omega)]; done) | (rw [if_neg (by omega), if_neg (by omega), if_neg (by omega), if_pos (by omega)]; done) | (rw [if_neg (by omega), if_neg (by omega), if_neg (by omega)]; done) | omega | rfl) hI2 (by simp only [sTotQ]; rw [if_neg (by omega), if_neg (by omega), if_neg (by omega), if_neg (by omega), if_neg (by omega), if_neg (by omega), if_neg (by omega), if_neg (by omega), if_neg (by omega), if_pos (by omega)])⟩
  · refine g_tswIn (off := 158) (tgt := 164) dX13_total_6 (by first | omega | exact m64 (hB _)) 10 (by omega) (by omega) rfl (by decide) ?_
    refine g_aload_n dX13_total_164 rfl rfl ?_
    refine g_get_Model_w dX13_total_165 mw_1155 (by assumption) (by assumption) ?_
    refine g_sipush dX13_total_168 (by decide) ?_
    refine g_laload dX13_total_171 (by assumption) (by omega) (by omega) ?_
    exact g_lret dX13_total_172 rfl (by decide) (by decide) ⟨rfl, rfl, rfl, rfl, mRdL.yes (by first | (rw [if_pos (by omega)]; done) | (rw [if_neg (by omega), if_pos (by omega)]; done) | (rw [if_neg (by omega)]; done) | (rw [if_neg (by omega), if_neg (by omega), if_pos (by omega)]; done) | (rw [if_neg (by omega), if_neg (by omega)]; done) | (rw [if_neg (by omega), if_neg (by omega), if_neg (by omega), if_pos (by omega)]; done) | (rw [if_neg (by omega), if_neg (by omega), if_neg (by omega)]; done) | omega | rfl) hI2 (by simp only [sTotQ]; rw [if_neg (by omega), if_neg (by omega), if_neg (by omega), if_neg (by omega), if_neg (by omega), if_neg (by omega), if_neg (by omega), if_neg (by omega), if_neg (by omega), if_neg (by omega), if_pos (by omega)])⟩
  · refine g_tswIn (off := 167) (tgt := 173) dX13_total_6 (by first | omega | exact m64 (hB _)) 11 (by omega) (by omega) rfl (by decide) ?_
    refine g_aload_n dX13_total_173 rfl rfl ?_
    refine g_get_Model_w dX13_total_174 mw_1155 (by assumption) (by assumption) ?_
    refine g_sipush dX13_total_177 (by decide) ?_
    refine g_laload dX13_total_180 (by assumption) (by omega) (by omega) ?_
    exact g_lret dX13_total_181 rfl (by decide) (by decide) ⟨rfl, rfl, rfl, rfl, mRdL.yes (by first | (rw [if_pos (by omega)]; done) | (rw [if_neg (by omega), if_pos (by omega)]; done) | (rw [if_neg (by omega)]; done) | (rw [if_neg (by omega), if_neg (by omega), if_pos (by omega)]; done) | (rw [if_neg (by omega), if_neg (by omega)]; done) | (rw [if_neg (by omega), if_neg (by omega), if_neg (by omega), if_pos (by omega)]; done) | (rw [if_neg (by omega), if_neg (by omega), if_neg (by omega)]; done) | omega | rfl) hI2 (by simp only [sTotQ]; rw [if_neg (by omega), if_neg (by omega), if_neg (by omega), if_neg (by omega), if_neg (by omega), if_neg (by omega), if_neg (by omega), if_neg (by omega), if_neg (by omega), if_neg (by omega), if_neg (by omega), if_pos (by omega)])⟩
  · refine g_tswIn (off := 176) (tgt := 182) dX13_total_6 (by first | omega | exact m64 (hB _)) 12 (by omega) (by omega) rfl (by decide) ?_
    refine g_aload_n dX13_total_182 rfl rfl ?_
    refine g_get_Model_savedMany dX13_total_183 mw_1159 (by assumption) ?_
    rw [e204]
    refine g_i2l dX13_total_186 (by first | omega | exact m64 (hB _)) ?_
    exact g_lret dX13_total_187 rfl (by decide) (by decide) ⟨rfl, rfl, rfl, rfl, mRdL.yes (by first | (rw [if_pos (by omega)]; done) | (rw [if_neg (by omega), if_pos (by omega)]; done) | (rw [if_neg (by omega)]; done) | (rw [if_neg (by omega), if_neg (by omega), if_pos (by omega)]; done) | (rw [if_neg (by omega), if_neg (by omega)]; done) | (rw [if_neg (by omega), if_neg (by omega), if_neg (by omega), if_pos (by omega)]; done) | (rw [if_neg (by omega), if_neg (by omega), if_neg (by omega)]; done) | omega | rfl) hI2 (by simp only [sTotQ]; rw [if_neg (by omega), if_neg (by omega), if_neg (by omega), if_neg (by omega), if_neg (by omega), if_neg (by omega), if_neg (by omega), if_neg (by omega), if_neg (by omega), if_neg (by omega), if_neg (by omega), if_neg (by omega), if_pos (by omega)])⟩
  · refine g_tswIn (off := 182) (tgt := 188) dX13_total_6 (by first | omega | exact m64 (hB _)) 13 (by omega) (by omega) rfl (by decide) ?_
    refine g_aload_n dX13_total_188 rfl rfl ?_
    refine g_callVp (i := 10) rfl (gK0 (by assumption)) (g_at10 (by assumption)) (k_M_worthAll Y hM hB (by omega) (fun l a b => by have := nL l a b; omega)) u_X13_worthAll mw_1429 dX13_total_189 rfl rfl ⟨Nat.le_of_ble_eq_true rfl, Nat.le_of_ble_eq_true rfl⟩ ⟨Nat.le_of_ble_eq_true rfl, Nat.le_of_ble_eq_true rfl⟩ (Nat.le_of_ble_eq_true rfl) ?_
    exact g_lret dX13_total_192 rfl (by decide) (by decide) ⟨rfl, rfl, rfl, rfl, mRdL.yes (by first | (rw [if_pos (by omega)]; done) | (rw [if_neg (by omega), if_pos (by omega)]; done) | (rw [if_neg (by omega)]; done) | (rw [if_neg (by omega), if_neg (by omega), if_pos (by omega)]; done) | (rw [if_neg (by omega), if_neg (by omega)]; done) | (rw [if_neg (by omega), if_neg (by omega), if_neg (by omega), if_pos (by omega)]; done) | (rw [if_neg (by omega), if_neg (by omega), if_neg (by omega)]; done) | omega | rfl) hI2 (by simp only [sTotQ]; rw [if_neg (by omega), if_neg (by omega), if_neg (by omega), if_neg (by omega), if_neg (by omega), if_neg (by omega), if_neg (by omega), if_neg (by omega), if_neg (by omega), if_neg (by omega), if_neg (by omega), if_neg (by omega), if_neg (by omega), if_pos (by omega)]; rfl)⟩
  · refine g_tswIn (off := 187) (tgt := 193) dX13_total_6 (by first | omega | exact m64 (hB _)) 14 (by omega) (by omega) rfl (by decide) ?_
    refine g_aload_n dX13_total_193 rfl rfl ?_
    refine g_get_Model_w dX13_total_194 mw_1155 (by assumption) (by assumption) ?_
    refine g_sipush dX13_total_197 (by decide) ?_
    refine g_laload dX13_total_200 (by assumption) (by omega) (by omega) ?_
    exact g_lret dX13_total_201 rfl (by decide) (by decide) ⟨rfl, rfl, rfl, rfl, mRdL.yes (by first | (rw [if_pos (by omega)]; done) | (rw [if_neg (by omega), if_pos (by omega)]; done) | (rw [if_neg (by omega)]; done) | (rw [if_neg (by omega), if_neg (by omega), if_pos (by omega)]; done) | (rw [if_neg (by omega), if_neg (by omega)]; done) | (rw [if_neg (by omega), if_neg (by omega), if_neg (by omega), if_pos (by omega)]; done) | (rw [if_neg (by omega), if_neg (by omega), if_neg (by omega)]; done) | omega | rfl) hI2 (by simp only [sTotQ]; rw [if_neg (by omega), if_neg (by omega), if_neg (by omega), if_neg (by omega), if_neg (by omega), if_neg (by omega), if_neg (by omega), if_neg (by omega), if_neg (by omega), if_neg (by omega), if_neg (by omega), if_neg (by omega), if_neg (by omega), if_neg (by omega), if_pos (by omega)])⟩
  · refine g_tswIn (off := 196) (tgt := 202) dX13_total_6 (by first | omega | exact m64 (hB _)) 15 (by omega) (by omega) rfl (by decide) ?_
    refine g_aload_n dX13_total_202 rfl rfl ?_
    refine g_get_Model_length dX13_total_203 mw_1160 (by assumption) ?_
    rw [e205]
    refine g_i2l dX13_total_206 (by first | omega | exact m64 (hB _)) ?_
    exact g_lret dX13_total_207 rfl (by decide) (by decide) ⟨rfl, rfl, rfl, rfl, mRdL.yes (by first | (rw [if_pos (by omega)]; done) | (rw [if_neg (by omega), if_pos (by omega)]; done) | (rw [if_neg (by omega)]; done) | (rw [if_neg (by omega), if_neg (by omega), if_pos (by omega)]; done) | (rw [if_neg (by omega), if_neg (by omega)]; done) | (rw [if_neg (by omega), if_neg (by omega), if_neg (by omega), if_pos (by omega)]; done) | (rw [if_neg (by omega), if_neg (by omega), if_neg (by omega)]; done) | omega | rfl) hI2 (by simp only [sTotQ]; rw [if_neg (by omega), if_neg (by omega), if_neg (by omega), if_neg (by omega), if_neg (by omega), if_neg (by omega), if_neg (by omega), if_neg (by omega), if_neg (by omega), if_neg (by omega), if_neg (by omega), if_neg (by omega), if_neg (by omega), if_neg (by omega), if_neg (by omega)])⟩
  · refine g_tswOut (tgt := 208) dX13_total_6 (by first | omega | exact m64 (hB _)) (by omega) (by decide) ?_
    refine g_aload_n dX13_total_208 rfl rfl ?_
    refine g_iconst dX13_total_209 ?_
    refine g_callVw (i := 10) rfl (gK0 (by assumption)) (g_at10 (by assumption)) (k_M_refuse Y hM _) u_X13_refuse mw_1202 dX13_total_210 rfl rfl ⟨Nat.le_of_ble_eq_true rfl, Nat.le_of_ble_eq_true rfl⟩ ⟨Nat.le_of_ble_eq_true rfl, Nat.le_of_ble_eq_true rfl⟩ (Nat.le_of_ble_eq_true rfl) (fun v210 I210 A210 h210 => ?_)
    obtain ⟨rfl, e210, f210⟩ := h210
    refine g_i2l dX13_total_213 (by first | omega | exact m64 (hB _)) ?_
    exact g_lret dX13_total_214 rfl (by decide) (by decide) ⟨rfl, rfl, rfl, rfl, by rw [f210]; exact mRdL.no hI2 e210 (by first | (rw [if_pos (by omega)]; done) | (rw [if_neg (by omega), if_pos (by omega)]; done) | (rw [if_neg (by omega)]; done) | (rw [if_neg (by omega), if_neg (by omega), if_pos (by omega)]; done) | (rw [if_neg (by omega), if_neg (by omega)]; done) | (rw [if_neg (by omega), if_neg (by omega), if_neg (by omega), if_pos (by omega)]; done) | (rw [if_neg (by omega), if_neg (by omega), if_neg (by omega)]; done) | omega | rfl) (by omega)⟩
set_option maxHeartbeats 4000000 in
set_option maxRecDepth 100000 in
theorem k_M_shadeAt (Y : gEnv) {K N : Nat → Nat} {I : Nat → Nat → Int} {A : Nat → Int → Int} {R : Nat → Nat → Option Nat} {Q : Nat → Int → Option Nat} {x w sv tx ag : Nat} (hM : mS K N R x w sv tx ag) (h0 : iN (A w)) (hm : mT (A w)) (k : Int) (i : Int) (g : Int) (p : Int) (hk : (-2147483648 ≤ k ∧ k ≤ 2147483647)) (hi : (-2147483648 ≤ i ∧ i ≤ 2147483647)) (hg : (-2147483648 ≤ g ∧ g ≤ 2147483647)) (hp : (-2147483648 ≤ p ∧ p ≤ 2147483647)) : gC Y yX13_shadeAt cX13_shadeAt 5 (some .int) ({ frames := 2, cells := 0, slots := 0, locals := 51 } : Room) [.ref x, vi k, vi i, vi g, vi p] K N I A R Q (g_wr K N R Q (fun v I' A' => mRdP I A x (if ¬ ((0 ≤ k ∧ k ≤ 2) ∧ (0 ≤ i ∧ i ≤ 7) ∧ (0 ≤ g ∧ g ≤ 3)) then 1 else if ¬ (800 ≤ p ∧ p ≤ 1200) then 2 else 0) (sShade (A w) k i g p) v I' A')) gno := by
  refine gC_of (by decide) (Nat.le_of_ble_eq_true rfl) (fun X => ?_)
  obtain ⟨hKx, hRw, hRs, hRt, hRa, hKw, hNw, hKs, hNs, hKt, hNt, hKa, hNa, hta⟩ := id hM
  have hB : mB (A w) := hm.mB
  have n14 : 0 ≤ A w 1614 ∧ A w 1614 ≤ 160 := ⟨h0.2.2.2.2.1.1, h0.2.2.2.2.1.2.1⟩
  have n15 : 0 ≤ A w 1615 ∧ A w 1615 ≤ 40 := ⟨h0.2.2.2.2.2.1.1, h0.2.2.2.2.2.1.2.1⟩
  have n13 : 0 ≤ A w 1613 ∧ A w 1613 ≤ 80 := ⟨h0.2.2.2.1.1, h0.2.2.2.1.2.1⟩
  have n16 : 0 ≤ A w 1616 ∧ A w 1616 ≤ 20 := h0.2.2.2.2.2.2.2
  have nG := h0.1
  have nO := h0.2.1
  have nS := h0.2.2.2.2.2.2.1
  have nL := h0.2.2.2.2.1.2.2.1
  refine g_aload_n dX13_shadeAt_0 rfl rfl ?_
  refine g_iconst dX13_shadeAt_1 ?_
  refine g_put_Model_thrown dX13_shadeAt_2 mw_1161 (by assumption) (fun I2 hI2 => ?_)
  refine g_iload_n dX13_shadeAt_5 rfl rfl ?_
  refine g_callSp (k_M_isKiln Y _ (by omega)) u_X13_isKiln mw_1221 rfl dX13_shadeAt_6 rfl rfl ⟨Nat.le_of_ble_eq_true rfl, Nat.le_of_ble_eq_true rfl⟩ ⟨Nat.le_of_ble_eq_true rfl, Nat.le_of_ble_eq_true rfl⟩ (Nat.le_of_ble_eq_true rfl) ?_
  have b6 := ifd (0 ≤ k ∧ k ≤ 2)
  generalize (if 0 ≤ k ∧ k ≤ 2 then (1 : Int) else 0) = z6 at b6 ⊢
  refine g_if_eq (tgt := 26) dX13_shadeAt_9 (by decide) (by first | omega | exact m64 (hB _)) (fun c_9 => ?_) (fun c_9 => ?_)
  · refine g_aload_n dX13_shadeAt_26 rfl rfl ?_
    refine g_iconst dX13_shadeAt_27 ?_
    refine g_callVw (i := 10) rfl (gK0 (by assumption)) (g_at10 (by assumption)) (k_M_refuse Y hM _) u_X13_refuse mw_1202 dX13_shadeAt_28 rfl rfl ⟨Nat.le_of_ble_eq_true rfl, Nat.le_of_ble_eq_true rfl⟩ ⟨Nat.le_of_ble_eq_true rfl, Nat.le_of_ble_eq_true rfl⟩ (Nat.le_of_ble_eq_true rfl) (fun v28 I28 A28 h28 => ?_)
    obtain ⟨rfl, e28, f28⟩ := h28
    exact g_iret dX13_shadeAt_31 rfl (by decide) (by decide) ⟨rfl, rfl, rfl, rfl, by rw [f28]; exact mRdP.no hI2 e28 (by first | (rw [if_pos (by omega)]; done) | (rw [if_neg (by omega), if_pos (by omega)]; done) | (rw [if_neg (by omega)]; done) | (rw [if_neg (by omega), if_neg (by omega), if_pos (by omega)]; done) | (rw [if_neg (by omega), if_neg (by omega)]; done) | (rw [if_neg (by omega), if_neg (by omega), if_neg (by omega), if_pos (by omega)]; done) | (rw [if_neg (by omega), if_neg (by omega), if_neg (by omega)]; done) | omega | rfl) (by omega)⟩
  · refine g_iload_n dX13_shadeAt_12 rfl rfl ?_
    refine g_callSp (k_M_isPlace Y _ (by omega)) u_X13_isPlace mw_1225 rfl dX13_shadeAt_13 rfl rfl ⟨Nat.le_of_ble_eq_true rfl, Nat.le_of_ble_eq_true rfl⟩ ⟨Nat.le_of_ble_eq_true rfl, Nat.le_of_ble_eq_true rfl⟩ (Nat.le_of_ble_eq_true rfl) ?_
    have b13 := ifd (0 ≤ i ∧ i ≤ 7)
    generalize (if 0 ≤ i ∧ i ≤ 7 then (1 : Int) else 0) = z13 at b13 ⊢
    refine g_if_eq (tgt := 26) dX13_shadeAt_16 (by decide) (by first | omega | exact m64 (hB _)) (fun c_16 => ?_) (fun c_16 => ?_)
    · refine g_aload_n dX13_shadeAt_26 rfl rfl ?_
      refine g_iconst dX13_shadeAt_27 ?_
      refine g_callVw (i := 10) rfl (gK0 (by assumption)) (g_at10 (by assumption)) (k_M_refuse Y hM _) u_X13_refuse mw_1202 dX13_shadeAt_28 rfl rfl ⟨Nat.le_of_ble_eq_true rfl, Nat.le_of_ble_eq_true rfl⟩ ⟨Nat.le_of_ble_eq_true rfl, Nat.le_of_ble_eq_true rfl⟩ (Nat.le_of_ble_eq_true rfl) (fun v28 I28 A28 h28 => ?_)
      obtain ⟨rfl, e28, f28⟩ := h28
      exact g_iret dX13_shadeAt_31 rfl (by decide) (by decide) ⟨rfl, rfl, rfl, rfl, by rw [f28]; exact mRdP.no hI2 e28 (by first | (rw [if_pos (by omega)]; done) | (rw [if_neg (by omega), if_pos (by omega)]; done) | (rw [if_neg (by omega)]; done) | (rw [if_neg (by omega), if_neg (by omega), if_pos (by omega)]; done) | (rw [if_neg (by omega), if_neg (by omega)]; done) | (rw [if_neg (by omega), if_neg (by omega), if_neg (by omega), if_pos (by omega)]; done) | (rw [if_neg (by omega), if_neg (by omega), if_neg (by omega)]; done) | omega | rfl) (by omega)⟩
    · refine g_iload_n dX13_shadeAt_19 rfl rfl ?_
      refine g_callSp (k_M_isGlaze Y _ (by omega)) u_X13_isGlaze mw_1195 rfl dX13_shadeAt_20 rfl rfl ⟨Nat.le_of_ble_eq_true rfl, Nat.le_of_ble_eq_true rfl⟩ ⟨Nat.le_of_ble_eq_true rfl, Nat.le_of_ble_eq_true rfl⟩ (Nat.le_of_ble_eq_true rfl) ?_
      have b20 := ifd (0 ≤ g ∧ g ≤ 3)
      generalize (if 0 ≤ g ∧ g ≤ 3 then (1 : Int) else 0) = z20 at b20 ⊢
      refine g_if_ne (tgt := 32) dX13_shadeAt_23 (by decide) (by first | omega | exact m64 (hB _)) (fun c_23 => ?_) (fun c_23 => ?_)
      · refine g_iload dX13_shadeAt_32 rfl ?_
        refine g_i2l dX13_shadeAt_34 (by first | omega | exact m64 (hB _)) ?_
        refine g_ldc2 (c := 800) dX13_shadeAt_35 mw_1256 (by decide) ?_
        refine g_ldc2 (c := 1200) dX13_shadeAt_38 mw_1257 (by decide) ?_
        refine g_callSp (k_M_in Y _ _ _ (by first | omega | exact m64 (hB _)) (by first | omega | exact m64 (hB _)) (by first | omega | exact m64 (hB _))) u_X13_in mw_1199 rfl dX13_shadeAt_41 rfl rfl ⟨Nat.le_of_ble_eq_true rfl, Nat.le_of_ble_eq_true rfl⟩ ⟨Nat.le_of_ble_eq_true rfl, Nat.le_of_ble_eq_true rfl⟩ (Nat.le_of_ble_eq_true rfl) ?_
        have b41 := ifd (800 ≤ p ∧ p ≤ 1200)
        generalize (if 800 ≤ p ∧ p ≤ 1200 then (1 : Int) else 0) = z41 at b41 ⊢
        refine g_if_eq (tgt := 59) dX13_shadeAt_44 (by decide) (by first | omega | exact m64 (hB _)) (fun c_44 => ?_) (fun c_44 => ?_)
        · refine g_aload_n dX13_shadeAt_59 rfl rfl ?_
          refine g_iconst dX13_shadeAt_60 ?_
          refine g_callVw (i := 10) rfl (gK0 (by assumption)) (g_at10 (by assumption)) (k_M_refuse Y hM _) u_X13_refuse mw_1202 dX13_shadeAt_61 rfl rfl ⟨Nat.le_of_ble_eq_true rfl, Nat.le_of_ble_eq_true rfl⟩ ⟨Nat.le_of_ble_eq_true rfl, Nat.le_of_ble_eq_true rfl⟩ (Nat.le_of_ble_eq_true rfl) (fun v61 I61 A61 h61 => ?_)
          obtain ⟨rfl, e61, f61⟩ := h61
          exact g_iret dX13_shadeAt_64 rfl (by decide) (by decide) (by first | exact ⟨rfl, rfl, rfl, rfl, mRdP.yes (by first | (rw [if_pos (by omega)]; done) | (rw [if_neg (by omega), if_pos (by omega)]; done) | (rw [if_neg (by omega)]; done) | (rw [if_neg (by omega), if_neg (by omega), if_pos (by omega)]; done) | (rw [if_neg (by omega), if_neg (by omega)]; done) | (rw [if_neg (by omega), if_neg (by omega), if_neg (by omega), if_pos (by omega)]; done) | (rw [if_neg (by omega), if_neg (by omega), if_neg (by omega)]; done) | omega | rfl) hI2 rfl⟩ | exact ⟨rfl, rfl, rfl, rfl, by rw [f61]; exact mRdP.no hI2 e61 (by first | (rw [if_pos (by omega)]; done) | (rw [if_neg (by omega), if_pos (by omega)]; done) | (rw [if_neg (by omega)]; done) | (rw [if_neg (by omega), if_neg (by omega), if_pos (by omega)]; done) | (rw [if_neg (by omega), if_neg (by omega)]; done) | (rw [if_neg (by omega), if_neg (by omega), if_neg (by omega), if_pos (by omega)]; done) | (rw [if_neg (by omega), if_neg (by omega), if_neg (by omega)]; done) | omega | rfl) (by omega)⟩)
        · refine g_aload_n dX13_shadeAt_47 rfl rfl ?_
          refine g_iload_n dX13_shadeAt_48 rfl rfl ?_
          refine g_iload_n dX13_shadeAt_49 rfl rfl ?_
          refine g_iload_n dX13_shadeAt_50 rfl rfl ?_
          refine g_iload dX13_shadeAt_51 rfl ?_
          refine g_callVp (i := 10) rfl (gK0 (by assumption)) (g_at10 (by assumption)) (k_M_shade Y hM k i g p (by omega) (by omega) (by omega) (by omega) (by have := nG g (by omega) (by omega); omega) (by have := nG g (by omega) (by omega); omega) (by have := nO (8 * k + i) (by omega) (by omega); rw [show 16 + 8 * k + i = 16 + (8 * k + i) by omega]; omega)) u_X13_shade mw_1263 dX13_shadeAt_53 rfl rfl ⟨Nat.le_of_ble_eq_true rfl, Nat.le_of_ble_eq_true rfl⟩ ⟨Nat.le_of_ble_eq_true rfl, Nat.le_of_ble_eq_true rfl⟩ (Nat.le_of_ble_eq_true rfl) ?_
          refine g_goto (tgt := 64) dX13_shadeAt_56 (by decide) ?_
          exact g_iret dX13_shadeAt_64 rfl (by decide) (by decide) (by first | exact ⟨rfl, rfl, rfl, rfl, mRdP.yes (by first | (rw [if_pos (by omega)]; done) | (rw [if_neg (by omega), if_pos (by omega)]; done) | (rw [if_neg (by omega)]; done) | (rw [if_neg (by omega), if_neg (by omega), if_pos (by omega)]; done) | (rw [if_neg (by omega), if_neg (by omega)]; done) | (rw [if_neg (by omega), if_neg (by omega), if_neg (by omega), if_pos (by omega)]; done) | (rw [if_neg (by omega), if_neg (by omega), if_neg (by omega)]; done) | omega | rfl) hI2 rfl⟩ | exact ⟨rfl, rfl, rfl, rfl, by rw [f61]; exact mRdP.no hI2 e61 (by first | (rw [if_pos (by omega)]; done) | (rw [if_neg (by omega), if_pos (by omega)]; done) | (rw [if_neg (by omega)]; done) | (rw [if_neg (by omega), if_neg (by omega), if_pos (by omega)]; done) | (rw [if_neg (by omega), if_neg (by omega)]; done) | (rw [if_neg (by omega), if_neg (by omega), if_neg (by omega), if_pos (by omega)]; done) | (rw [if_neg (by omega), if_neg (by omega), if_neg (by omega)]; done) | omega | rfl) (by omega)⟩)
      · refine g_aload_n dX13_shadeAt_26 rfl rfl ?_
        refine g_iconst dX13_shadeAt_27 ?_
        refine g_callVw (i := 10) rfl (gK0 (by assumption)) (g_at10 (by assumption)) (k_M_refuse Y hM _) u_X13_refuse mw_1202 dX13_shadeAt_28 rfl rfl ⟨Nat.le_of_ble_eq_true rfl, Nat.le_of_ble_eq_true rfl⟩ ⟨Nat.le_of_ble_eq_true rfl, Nat.le_of_ble_eq_true rfl⟩ (Nat.le_of_ble_eq_true rfl) (fun v28 I28 A28 h28 => ?_)
        obtain ⟨rfl, e28, f28⟩ := h28
        exact g_iret dX13_shadeAt_31 rfl (by decide) (by decide) ⟨rfl, rfl, rfl, rfl, by rw [f28]; exact mRdP.no hI2 e28 (by first | (rw [if_pos (by omega)]; done) | (rw [if_neg (by omega), if_pos (by omega)]; done) | (rw [if_neg (by omega)]; done) | (rw [if_neg (by omega), if_neg (by omega), if_pos (by omega)]; done) | (rw [if_neg (by omega), if_neg (by omega)]; done) | (rw [if_neg (by omega), if_neg (by omega), if_neg (by omega), if_pos (by omega)]; done) | (rw [if_neg (by omega), if_neg (by omega), if_neg (by omega)]; done) | omega | rfl) (by omega)⟩
set_option maxHeartbeats 4000000 in
set_option maxRecDepth 100000 in
theorem lp_M_bestPeak1 {Y : gEnv} {X : gCtx} {K N : Nat → Nat} {I : Nat → Nat → Int} {A : Nat → Int → Int} {R : Nat → Nat → Option Nat} {Q : Nat → Int → Option Nat} {po : gPo} {px : gPx} {x w sv tx ag : Nat} (hM : mS K N R x w sv tx ag) (h0 : iN (A w)) (hm : mT (A w)) (k g s : Int) (hk : 0 ≤ k ∧ k ≤ 2) (hg : 0 ≤ g ∧ g ≤ 3) (hs : 0 ≤ s ∧ s ≤ 19) (b t p : Int) (hp : 800 ≤ p ∧ p ≤ 1200) : ∀ (f m : Nat) (i n : Int), m < f → 0 ≤ i → i + m = 8 → 0 ≤ n ∧ n ≤ i → gJ Y X yX13_bestPeak cX13_bestPeak 9 (some .int) ({ frames := 2, cells := 0, slots := 0, locals := 51 } : Room) po px 0 0 105 [(0, .ref x), (1, vi k), (2, vi g), (3, vi s), (4, vi b), (5, vi t), (6, vi p), (7, vi (n + sCnt8 (A w) k g s p m i))] [] K N I A R Q → gJ Y X yX13_bestPeak cX13_bestPeak 9 (some .int) ({ frames := 2, cells := 0, slots := 0, locals := 51 } : Room) po px 0 0 68 [(0, .ref x), (1, vi k), (2, vi g), (3, vi s), (4, vi b), (5, vi t), (6, vi p), (7, vi n), (8, vi i)] [] K N I A R Q := by
  obtain ⟨hKx, hRw, hRs, hRt, hRa, hKw, hNw, hKs, hNs, hKt, hNt, hKa, hNa, hta⟩ := id hM
  have hB : mB (A w) := hm.mB
  have n14 : 0 ≤ A w 1614 ∧ A w 1614 ≤ 160 := ⟨h0.2.2.2.2.1.1, h0.2.2.2.2.1.2.1⟩
  have n15 : 0 ≤ A w 1615 ∧ A w 1615 ≤ 40 := ⟨h0.2.2.2.2.2.1.1, h0.2.2.2.2.2.1.2.1⟩
  have n13 : 0 ≤ A w 1613 ∧ A w 1613 ≤ 80 := ⟨h0.2.2.2.1.1, h0.2.2.2.1.2.1⟩
  have n16 : 0 ≤ A w 1616 ∧ A w 1616 ≤ 20 := h0.2.2.2.2.2.2.2
  have nG := h0.1
  have nO := h0.2.1
  have nS := h0.2.2.2.2.2.2.1
  have nL := h0.2.2.2.2.1.2.2.1

  intro f
  induction f with
  | zero => intro m i n h; omega
  | succ f ih =>
  intro m i n hf hi hm8 hn kx
  refine g_iload dX13_bestPeak_68 rfl ?_
  refine g_bipush dX13_bestPeak_70 (by decide) ?_
  refine g_icmp_ge (tgt := 105) dX13_bestPeak_72 (by decide) (by first | omega | exact m64 (hB _)) (by first | omega | exact m64 (hB _)) (fun c_72 => ?_) (fun c_72 => ?_)
  · rw [sCnt8, sSum_stop (by omega), Int.add_zero] at kx
    exact g_locs (by exact ⟨rfl, rfl, rfl, rfl, rfl, rfl, rfl, rfl, trivial⟩) kx
  · refine g_iload dX13_bestPeak_75 rfl ?_
    refine g_aload_n dX13_bestPeak_77 rfl rfl ?_
    refine g_iload_n dX13_bestPeak_78 rfl rfl ?_
    refine g_iload dX13_bestPeak_79 rfl ?_
    refine g_iload_n dX13_bestPeak_81 rfl rfl ?_
    refine g_iload dX13_bestPeak_82 rfl ?_
    have hi8 : i < 8 := by omega
    refine g_callVp (i := 10) rfl (gK0 (by assumption)) (g_at10 (by assumption)) (k_M_shade Y hM k i g p (by omega) (by omega) (by omega) (by omega) (by have := nG g (by omega) (by omega); omega) (by have := nG g (by omega) (by omega); omega) (by have := nO (8 * k + i) (by omega) (by omega); rw [show 16 + 8 * k + i = 16 + (8 * k + i) by omega]; omega)) u_X13_shade mw_1263 dX13_bestPeak_84 rfl rfl ⟨Nat.le_of_ble_eq_true rfl, Nat.le_of_ble_eq_true rfl⟩ ⟨Nat.le_of_ble_eq_true rfl, Nat.le_of_ble_eq_true rfl⟩ (Nat.le_of_ble_eq_true rfl) ?_
    have hsr := sShade_range (A w) k i g p
    refine g_iload_n dX13_bestPeak_87 rfl rfl ?_
    refine g_icmp_ne (tgt := 95) dX13_bestPeak_88 (by decide) (by first | omega | exact m64 (hB _)) (by first | omega | exact m64 (hB _)) (fun c_88 => ?_) (fun c_88 => ?_)
    · refine g_iconst dX13_bestPeak_95 ?_
      refine g_iadd dX13_bestPeak_96 ?_
      refine g_istore dX13_bestPeak_97 (by decide) ?_
      refine g_iinc dX13_bestPeak_99 rfl (by decide) ?_
      refine g_goto (tgt := 68) dX13_bestPeak_102 (by decide) ?_
      rw [sCnt8, sSum_step (by omega), ← Int.add_assoc] at kx
      first | rw [if_pos c_88] at kx | rw [if_neg c_88] at kx
      exact g_locs (by exact ⟨rfl, rfl, rfl, rfl, rfl, rfl, rfl, rfl, rfl, trivial⟩) (ih (m - 1) (i + 1) _ (by omega) (by omega) (by omega) (by omega) kx)
    · refine g_iconst dX13_bestPeak_91 ?_
      refine g_goto (tgt := 96) dX13_bestPeak_92 (by decide) ?_
      refine g_iadd dX13_bestPeak_96 ?_
      refine g_istore dX13_bestPeak_97 (by decide) ?_
      refine g_iinc dX13_bestPeak_99 rfl (by decide) ?_
      refine g_goto (tgt := 68) dX13_bestPeak_102 (by decide) ?_
      rw [sCnt8, sSum_step (by omega), ← Int.add_assoc] at kx
      first | rw [if_pos c_88] at kx | rw [if_neg c_88] at kx
      exact g_locs (by exact ⟨rfl, rfl, rfl, rfl, rfl, rfl, rfl, rfl, rfl, trivial⟩) (ih (m - 1) (i + 1) _ (by omega) (by omega) (by omega) (by omega) kx)
set_option maxHeartbeats 4000000 in
set_option maxRecDepth 100000 in
theorem lp_M_bestPeak2 {Y : gEnv} {X : gCtx} {K N : Nat → Nat} {I : Nat → Nat → Int} {A : Nat → Int → Int} {R : Nat → Nat → Option Nat} {Q : Nat → Int → Option Nat} {po : gPo} {px : gPx} {x w sv tx ag : Nat} (hM : mS K N R x w sv tx ag) (h0 : iN (A w)) (hm : mT (A w)) (k g s : Int) (hk : 0 ≤ k ∧ k ≤ 2) (hg : 0 ≤ g ∧ g ≤ 3) (hs : 0 ≤ s ∧ s ≤ 19) (hpo : ∀ z, z = sBestL (A w) k g s 401 800 (-1) 0 → po (some (vi z)) K N I A R Q) : ∀ (f m : Nat) (p b t : Int), m < f → 800 ≤ p → p + m = 1201 → 0 ≤ t ∧ t ≤ 8 → sBestL (A w) k g s m p b t = sBestL (A w) k g s 401 800 (-1) 0 → gJ Y X yX13_bestPeak cX13_bestPeak 9 (some .int) ({ frames := 2, cells := 0, slots := 0, locals := 51 } : Room) po px 0 0 54 [(0, .ref x), (1, vi k), (2, vi g), (3, vi s), (4, vi b), (5, vi t), (6, vi p)] [] K N I A R Q := by
  obtain ⟨hKx, hRw, hRs, hRt, hRa, hKw, hNw, hKs, hNs, hKt, hNt, hKa, hNa, hta⟩ := id hM
  have hB : mB (A w) := hm.mB
  have n14 : 0 ≤ A w 1614 ∧ A w 1614 ≤ 160 := ⟨h0.2.2.2.2.1.1, h0.2.2.2.2.1.2.1⟩
  have n15 : 0 ≤ A w 1615 ∧ A w 1615 ≤ 40 := ⟨h0.2.2.2.2.2.1.1, h0.2.2.2.2.2.1.2.1⟩
  have n13 : 0 ≤ A w 1613 ∧ A w 1613 ≤ 80 := ⟨h0.2.2.2.1.1, h0.2.2.2.1.2.1⟩
  have n16 : 0 ≤ A w 1616 ∧ A w 1616 ≤ 20 := h0.2.2.2.2.2.2.2
  have nG := h0.1
  have nO := h0.2.1
  have nS := h0.2.2.2.2.2.2.1
  have nL := h0.2.2.2.2.1.2.2.1

  intro f
  induction f with
  | zero => intro m p b t h; omega
  | succ f ih =>
  intro m p b t hf hp hm8 ht he
  refine g_iload dX13_bestPeak_54 rfl ?_
  refine g_sipush dX13_bestPeak_56 (by decide) ?_
  refine g_icmp_gt (tgt := 126) dX13_bestPeak_59 (by decide) (by first | omega | exact m64 (hB _)) (by first | omega | exact m64 (hB _)) (fun c_59 => ?_) (fun c_59 => ?_)
  · refine g_iload dX13_bestPeak_126 rfl ?_
    exact g_iret dX13_bestPeak_128 rfl (by decide) (by decide) (hpo _ (by rw [← he, sBestL_stop (by omega)]))
  · refine g_iconst dX13_bestPeak_62 ?_
    refine g_istore dX13_bestPeak_63 (by decide) ?_
    refine g_iconst dX13_bestPeak_65 ?_
    refine g_istore dX13_bestPeak_66 (by decide) ?_
    refine g_locs (by exact ⟨rfl, rfl, rfl, rfl, rfl, rfl, rfl, rfl, rfl, trivial⟩) (lp_M_bestPeak1 hM h0 hm k g s hk hg hs b t p (by omega) _ 8 0 0 (Nat.lt_succ_self _) (by omega) (by omega) (by omega) ?_)
    have hcr := sCnt8_range (A w) k g s p 8 0
    rw [Int.zero_add]
    refine g_iload dX13_bestPeak_105 rfl ?_
    refine g_iload dX13_bestPeak_107 rfl ?_
    refine g_icmp_le (tgt := 120) dX13_bestPeak_109 (by decide) (by first | omega | exact m64 (hB _)) (by first | omega | exact m64 (hB _)) (fun c_109 => ?_) (fun c_109 => ?_)
    · refine g_iinc dX13_bestPeak_120 rfl (by decide) ?_
      refine g_goto (tgt := 54) dX13_bestPeak_123 (by decide) ?_
      first
      | exact g_locs (by exact ⟨rfl, rfl, rfl, rfl, rfl, rfl, rfl, trivial⟩) (ih (m - 1) (p + 1) p _ (by omega) (by omega) (by omega) (by omega) ((sBestL_take (by omega) (by omega)).symm.trans he))
      | exact g_locs (by exact ⟨rfl, rfl, rfl, rfl, rfl, rfl, rfl, trivial⟩) (ih (m - 1) (p + 1) b t (by omega) (by omega) (by omega) (by omega) ((sBestL_skip (by omega) (by omega)).symm.trans he))
    · refine g_iload dX13_bestPeak_112 rfl ?_
      refine g_istore dX13_bestPeak_114 (by decide) ?_
      refine g_iload dX13_bestPeak_116 rfl ?_
      refine g_istore dX13_bestPeak_118 (by decide) ?_
      refine g_iinc dX13_bestPeak_120 rfl (by decide) ?_
      refine g_goto (tgt := 54) dX13_bestPeak_123 (by decide) ?_
      first
      | exact g_locs (by exact ⟨rfl, rfl, rfl, rfl, rfl, rfl, rfl, trivial⟩) (ih (m - 1) (p + 1) p _ (by omega) (by omega) (by omega) (by omega) ((sBestL_take (by omega) (by omega)).symm.trans he))
      | exact g_locs (by exact ⟨rfl, rfl, rfl, rfl, rfl, rfl, rfl, trivial⟩) (ih (m - 1) (p + 1) b t (by omega) (by omega) (by omega) (by omega) ((sBestL_skip (by omega) (by omega)).symm.trans he))
set_option maxHeartbeats 4000000 in
set_option maxRecDepth 100000 in
theorem k_M_bestPeak (Y : gEnv) {K N : Nat → Nat} {I : Nat → Nat → Int} {A : Nat → Int → Int} {R : Nat → Nat → Option Nat} {Q : Nat → Int → Option Nat} {x w sv tx ag : Nat} (hM : mS K N R x w sv tx ag) (h0 : iN (A w)) (hm : mT (A w)) (k : Int) (g : Int) (s : Int) (hk : (-2147483648 ≤ k ∧ k ≤ 2147483647)) (hg : (-2147483648 ≤ g ∧ g ≤ 2147483647)) (hs : (-2147483648 ≤ s ∧ s ≤ 2147483647)) : gC Y yX13_bestPeak cX13_bestPeak 9 (some .int) ({ frames := 2, cells := 0, slots := 0, locals := 51 } : Room) [.ref x, vi k, vi g, vi s] K N I A R Q (g_wr K N R Q (fun v I' A' => mRdP I A x (if ¬ ((0 ≤ k ∧ k ≤ 2) ∧ (0 ≤ g ∧ g ≤ 3)) then 1 else if ¬ (0 ≤ s ∧ s ≤ 19) then 2 else 0) (sBestL (A w) k g s 401 800 (-1) 0) v I' A')) gno := by
  refine gC_of (by decide) (Nat.le_of_ble_eq_true rfl) (fun X => ?_)
  obtain ⟨hKx, hRw, hRs, hRt, hRa, hKw, hNw, hKs, hNs, hKt, hNt, hKa, hNa, hta⟩ := id hM
  have hB : mB (A w) := hm.mB
  have n14 : 0 ≤ A w 1614 ∧ A w 1614 ≤ 160 := ⟨h0.2.2.2.2.1.1, h0.2.2.2.2.1.2.1⟩
  have n15 : 0 ≤ A w 1615 ∧ A w 1615 ≤ 40 := ⟨h0.2.2.2.2.2.1.1, h0.2.2.2.2.2.1.2.1⟩
  have n13 : 0 ≤ A w 1613 ∧ A w 1613 ≤ 80 := ⟨h0.2.2.2.1.1, h0.2.2.2.1.2.1⟩
  have n16 : 0 ≤ A w 1616 ∧ A w 1616 ≤ 20 := h0.2.2.2.2.2.2.2
  have nG := h0.1
  have nO := h0.2.1
  have nS := h0.2.2.2.2.2.2.1
  have nL := h0.2.2.2.2.1.2.2.1
  refine g_aload_n dX13_bestPeak_0 rfl rfl ?_
  refine g_iconst dX13_bestPeak_1 ?_
  refine g_put_Model_thrown dX13_bestPeak_2 mw_1161 (by assumption) (fun I2 hI2 => ?_)
  refine g_iload_n dX13_bestPeak_5 rfl rfl ?_
  refine g_callSp (k_M_isKiln Y _ (by omega)) u_X13_isKiln mw_1221 rfl dX13_bestPeak_6 rfl rfl ⟨Nat.le_of_ble_eq_true rfl, Nat.le_of_ble_eq_true rfl⟩ ⟨Nat.le_of_ble_eq_true rfl, Nat.le_of_ble_eq_true rfl⟩ (Nat.le_of_ble_eq_true rfl) ?_
  have b6 := ifd (0 ≤ k ∧ k ≤ 2)
  generalize (if 0 ≤ k ∧ k ≤ 2 then (1 : Int) else 0) = z6 at b6 ⊢
  refine g_if_eq (tgt := 19) dX13_bestPeak_9 (by decide) (by first | omega | exact m64 (hB _)) (fun c_9 => ?_) (fun c_9 => ?_)
  · refine g_aload_n dX13_bestPeak_19 rfl rfl ?_
    refine g_iconst dX13_bestPeak_20 ?_
    refine g_callVw (i := 10) rfl (gK0 (by assumption)) (g_at10 (by assumption)) (k_M_refuse Y hM _) u_X13_refuse mw_1202 dX13_bestPeak_21 rfl rfl ⟨Nat.le_of_ble_eq_true rfl, Nat.le_of_ble_eq_true rfl⟩ ⟨Nat.le_of_ble_eq_true rfl, Nat.le_of_ble_eq_true rfl⟩ (Nat.le_of_ble_eq_true rfl) (fun v21 I21 A21 h21 => ?_)
    obtain ⟨rfl, e21, f21⟩ := h21
    exact g_iret dX13_bestPeak_24 rfl (by decide) (by decide) ⟨rfl, rfl, rfl, rfl, by rw [f21]; exact mRdP.no hI2 e21 (by first | (rw [if_pos (by omega)]; done) | (rw [if_neg (by omega), if_pos (by omega)]; done) | (rw [if_neg (by omega)]; done) | (rw [if_neg (by omega), if_neg (by omega), if_pos (by omega)]; done) | (rw [if_neg (by omega), if_neg (by omega)]; done) | (rw [if_neg (by omega), if_neg (by omega), if_neg (by omega), if_pos (by omega)]; done) | (rw [if_neg (by omega), if_neg (by omega), if_neg (by omega)]; done) | omega | rfl) (by omega)⟩
  · refine g_iload_n dX13_bestPeak_12 rfl rfl ?_
    refine g_callSp (k_M_isGlaze Y _ (by omega)) u_X13_isGlaze mw_1195 rfl dX13_bestPeak_13 rfl rfl ⟨Nat.le_of_ble_eq_true rfl, Nat.le_of_ble_eq_true rfl⟩ ⟨Nat.le_of_ble_eq_true rfl, Nat.le_of_ble_eq_true rfl⟩ (Nat.le_of_ble_eq_true rfl) ?_
    have b13 := ifd (0 ≤ g ∧ g ≤ 3)
    generalize (if 0 ≤ g ∧ g ≤ 3 then (1 : Int) else 0) = z13 at b13 ⊢
    refine g_if_ne (tgt := 25) dX13_bestPeak_16 (by decide) (by first | omega | exact m64 (hB _)) (fun c_16 => ?_) (fun c_16 => ?_)
    · refine g_iload_n dX13_bestPeak_25 rfl rfl ?_
      refine g_i2l dX13_bestPeak_26 (by first | omega | exact m64 (hB _)) ?_
      refine g_lconst (c := 0) dX13_bestPeak_27 (by decide) ?_
      refine g_ldc2 (c := 19) dX13_bestPeak_28 mw_1206 (by decide) ?_
      refine g_callSp (k_M_in Y _ _ _ (by first | omega | exact m64 (hB _)) (by first | omega | exact m64 (hB _)) (by first | omega | exact m64 (hB _))) u_X13_in mw_1199 rfl dX13_bestPeak_31 rfl rfl ⟨Nat.le_of_ble_eq_true rfl, Nat.le_of_ble_eq_true rfl⟩ ⟨Nat.le_of_ble_eq_true rfl, Nat.le_of_ble_eq_true rfl⟩ (Nat.le_of_ble_eq_true rfl) ?_
      have b31 := ifd (0 ≤ s ∧ s ≤ 19)
      generalize (if 0 ≤ s ∧ s ≤ 19 then (1 : Int) else 0) = z31 at b31 ⊢
      refine g_if_ne (tgt := 43) dX13_bestPeak_34 (by decide) (by first | omega | exact m64 (hB _)) (fun c_34 => ?_) (fun c_34 => ?_)
      · refine g_iconst dX13_bestPeak_43 ?_
        refine g_istore dX13_bestPeak_44 (by decide) ?_
        refine g_iconst dX13_bestPeak_46 ?_
        refine g_istore dX13_bestPeak_47 (by decide) ?_
        refine g_sipush dX13_bestPeak_49 (by decide) ?_
        refine g_istore dX13_bestPeak_52 (by decide) ?_
        refine g_locs (by exact ⟨rfl, rfl, rfl, rfl, rfl, rfl, rfl, trivial⟩) (lp_M_bestPeak2 hM h0 hm k g s (by omega) (by omega) (by omega) (fun z hz => ?_) _ 401 800 (-1) 0 (Nat.lt_succ_self _) (by omega) (by omega) (by omega) rfl)
        subst hz
        exact ⟨rfl, rfl, rfl, rfl, mRdP.yes (by first | (rw [if_pos (by omega)]; done) | (rw [if_neg (by omega), if_pos (by omega)]; done) | (rw [if_neg (by omega)]; done) | (rw [if_neg (by omega), if_neg (by omega), if_pos (by omega)]; done) | (rw [if_neg (by omega), if_neg (by omega)]; done) | (rw [if_neg (by omega), if_neg (by omega), if_neg (by omega), if_pos (by omega)]; done) | (rw [if_neg (by omega), if_neg (by omega), if_neg (by omega)]; done) | omega | rfl) hI2 rfl⟩
      · refine g_aload_n dX13_bestPeak_37 rfl rfl ?_
        refine g_iconst dX13_bestPeak_38 ?_
        refine g_callVw (i := 10) rfl (gK0 (by assumption)) (g_at10 (by assumption)) (k_M_refuse Y hM _) u_X13_refuse mw_1202 dX13_bestPeak_39 rfl rfl ⟨Nat.le_of_ble_eq_true rfl, Nat.le_of_ble_eq_true rfl⟩ ⟨Nat.le_of_ble_eq_true rfl, Nat.le_of_ble_eq_true rfl⟩ (Nat.le_of_ble_eq_true rfl) (fun v39 I39 A39 h39 => ?_)
        obtain ⟨rfl, e39, f39⟩ := h39
        exact g_iret dX13_bestPeak_42 rfl (by decide) (by decide) ⟨rfl, rfl, rfl, rfl, by rw [f39]; exact mRdP.no hI2 e39 (by first | (rw [if_pos (by omega)]; done) | (rw [if_neg (by omega), if_pos (by omega)]; done) | (rw [if_neg (by omega)]; done) | (rw [if_neg (by omega), if_neg (by omega), if_pos (by omega)]; done) | (rw [if_neg (by omega), if_neg (by omega)]; done) | (rw [if_neg (by omega), if_neg (by omega), if_neg (by omega), if_pos (by omega)]; done) | (rw [if_neg (by omega), if_neg (by omega), if_neg (by omega)]; done) | omega | rfl) (by omega)⟩
    · refine g_aload_n dX13_bestPeak_19 rfl rfl ?_
      refine g_iconst dX13_bestPeak_20 ?_
      refine g_callVw (i := 10) rfl (gK0 (by assumption)) (g_at10 (by assumption)) (k_M_refuse Y hM _) u_X13_refuse mw_1202 dX13_bestPeak_21 rfl rfl ⟨Nat.le_of_ble_eq_true rfl, Nat.le_of_ble_eq_true rfl⟩ ⟨Nat.le_of_ble_eq_true rfl, Nat.le_of_ble_eq_true rfl⟩ (Nat.le_of_ble_eq_true rfl) (fun v21 I21 A21 h21 => ?_)
      obtain ⟨rfl, e21, f21⟩ := h21
      exact g_iret dX13_bestPeak_24 rfl (by decide) (by decide) ⟨rfl, rfl, rfl, rfl, by rw [f21]; exact mRdP.no hI2 e21 (by first | (rw [if_pos (by omega)]; done) | (rw [if_neg (by omega), if_pos (by omega)]; done) | (rw [if_neg (by omega)]; done) | (rw [if_neg (by omega), if_neg (by omega), if_pos (by omega)]; done) | (rw [if_neg (by omega), if_neg (by omega)]; done) | (rw [if_neg (by omega), if_neg (by omega), if_neg (by omega), if_pos (by omega)]; done) | (rw [if_neg (by omega), if_neg (by omega), if_neg (by omega)]; done) | omega | rfl) (by omega)⟩
set_option maxHeartbeats 4000000 in
set_option maxRecDepth 100000 in
theorem lp_M_largest {Y : gEnv} {X : gCtx} {K N : Nat → Nat} {I : Nat → Nat → Int} {A : Nat → Int → Int} {R : Nat → Nat → Option Nat} {Q : Nat → Int → Option Nat} {po : gPo} {px : gPx} {x w sv tx ag : Nat} (hM : mS K N R x w sv tx ag) (h0 : iN (A w)) (hm : mT (A w)) (g r : Int) (hg : 0 ≤ g ∧ g ≤ 3) (hr : 1 ≤ r ∧ r ≤ 2) (hpo : ∀ z, z = sLgL (A w) g r (A w 1614).toNat 0 0 → po (some (vi z)) K N I A R Q) : ∀ (f m : Nat) (l t : Int), m < f → 0 ≤ l → l + m = A w 1614 → 0 ≤ t ∧ t ≤ 1000000000000 → sLgL (A w) g r m l t = sLgL (A w) g r (A w 1614).toNat 0 0 → gJ Y X yX13_largest cX13_largest 7 (some .int) ({ frames := 2, cells := 0, slots := 0, locals := 45 } : Room) po px 0 0 36 [(0, .ref x), (1, vi g), (2, vi r), (3, vl t), (5, vi l)] [] K N I A R Q := by
  obtain ⟨hKx, hRw, hRs, hRt, hRa, hKw, hNw, hKs, hNs, hKt, hNt, hKa, hNa, hta⟩ := id hM
  have hB : mB (A w) := hm.mB
  have n14 : 0 ≤ A w 1614 ∧ A w 1614 ≤ 160 := ⟨h0.2.2.2.2.1.1, h0.2.2.2.2.1.2.1⟩
  have n15 : 0 ≤ A w 1615 ∧ A w 1615 ≤ 40 := ⟨h0.2.2.2.2.2.1.1, h0.2.2.2.2.2.1.2.1⟩
  have n13 : 0 ≤ A w 1613 ∧ A w 1613 ≤ 80 := ⟨h0.2.2.2.1.1, h0.2.2.2.1.2.1⟩
  have n16 : 0 ≤ A w 1616 ∧ A w 1616 ≤ 20 := h0.2.2.2.2.2.2.2
  have nG := h0.1
  have nO := h0.2.1
  have nS := h0.2.2.2.2.2.2.1
  have nL := h0.2.2.2.2.1.2.2.1

  intro f
  induction f with
  | zero => intro m l t h; omega
  | succ f ih =>
  intro m l t hf hl hml ht he
  refine g_iload dX13_largest_36 rfl ?_
  refine g_i2l dX13_largest_38 (by first | omega | exact m64 (hB _)) ?_
  refine g_aload_n dX13_largest_39 rfl rfl ?_
  refine g_get_Model_w dX13_largest_40 mw_1155 (by assumption) (by assumption) ?_
  refine g_sipush dX13_largest_43 (by decide) ?_
  refine g_laload dX13_largest_46 (by assumption) (by omega) (by omega) ?_
  refine g_lcmp_ge (tgt := 135) dX13_largest_47 dX13_largest_48 (by decide) (by first | omega | exact m64 (hB _)) (by first | omega | exact m64 (hB _)) (fun c_47 => ?_) (fun c_47 => ?_)
  · refine g_lload_n dX13_largest_135 rfl rfl ?_
    refine g_l2i dX13_largest_136 ?_
    exact g_iret dX13_largest_137 rfl (by decide) (by decide) (hpo _ (by rw [← he, sLgL_stop (by omega)]))
  · have hlt := nL l (by omega) (by omega)
    have hml := hm (1050 + l)
    refine g_aload_n dX13_largest_51 rfl rfl ?_
    refine g_get_Model_w dX13_largest_52 mw_1155 (by assumption) (by assumption) ?_
    refine g_sipush dX13_largest_55 (by decide) ?_
    refine g_iload dX13_largest_58 rfl ?_
    refine g_iadd dX13_largest_60 ?_
    refine g_laload dX13_largest_61 (by assumption) (by omega) (by omega) ?_
    refine g_iload_n dX13_largest_62 rfl rfl ?_
    refine g_i2l dX13_largest_63 (by first | omega | exact m64 (hB _)) ?_
    refine g_lcmp_ne (tgt := 89) dX13_largest_64 dX13_largest_65 (by decide) (by first | omega | exact m64 (hB _)) (by first | omega | exact m64 (hB _)) (fun c_64 => ?_) (fun c_64 => ?_)
    · refine g_iconst dX13_largest_89 ?_
      refine g_istore dX13_largest_90 (by decide) ?_
      refine g_iload dX13_largest_92 rfl ?_
      refine g_if_eq (tgt := 127) dX13_largest_94 (by decide) (by first | omega | exact m64 (hB _)) (fun c_94 => ?_) (fun c_94 => ?_)
      · refine g_lload_n dX13_largest_127 rfl rfl ?_
        refine g_lstore_n dX13_largest_128 rfl (by decide) ?_
        refine g_iinc dX13_largest_129 rfl (by decide) ?_
        refine g_goto (tgt := 36) dX13_largest_132 (by decide) ?_
        first
        | exact g_locs (by exact ⟨rfl, rfl, rfl, rfl, rfl, trivial⟩) (ih (m - 1) (l + 1) (A w (1050 + l)) (by omega) (by omega) (by omega) (by omega) ((sLgL_take (by omega) (by omega)).symm.trans he))
        | exact g_locs (by exact ⟨rfl, rfl, rfl, rfl, rfl, trivial⟩) (ih (m - 1) (l + 1) t (by omega) (by omega) (by omega) (by omega) ((sLgL_skip (by omega) (by omega)).symm.trans he))
      · refine g_aload_n dX13_largest_97 rfl rfl ?_
        refine g_get_Model_w dX13_largest_98 mw_1155 (by assumption) (by assumption) ?_
        refine g_sipush dX13_largest_101 (by decide) ?_
        refine g_iload dX13_largest_104 rfl ?_
        refine g_iadd dX13_largest_106 ?_
        refine g_laload dX13_largest_107 (by assumption) (by omega) (by omega) ?_
        refine g_lload_n dX13_largest_108 rfl rfl ?_
        refine g_lcmp_le (tgt := 127) dX13_largest_109 dX13_largest_110 (by decide) (by first | omega | exact m64 (hB _)) (by first | omega | exact m64 (hB _)) (fun c_109 => ?_) (fun c_109 => ?_)
        · refine g_lload_n dX13_largest_127 rfl rfl ?_
          refine g_lstore_n dX13_largest_128 rfl (by decide) ?_
          refine g_iinc dX13_largest_129 rfl (by decide) ?_
          refine g_goto (tgt := 36) dX13_largest_132 (by decide) ?_
          first
          | exact g_locs (by exact ⟨rfl, rfl, rfl, rfl, rfl, trivial⟩) (ih (m - 1) (l + 1) (A w (1050 + l)) (by omega) (by omega) (by omega) (by omega) ((sLgL_take (by omega) (by omega)).symm.trans he))
          | exact g_locs (by exact ⟨rfl, rfl, rfl, rfl, rfl, trivial⟩) (ih (m - 1) (l + 1) t (by omega) (by omega) (by omega) (by omega) ((sLgL_skip (by omega) (by omega)).symm.trans he))
        · refine g_aload_n dX13_largest_113 rfl rfl ?_
          refine g_get_Model_w dX13_largest_114 mw_1155 (by assumption) (by assumption) ?_
          refine g_sipush dX13_largest_117 (by decide) ?_
          refine g_iload dX13_largest_120 rfl ?_
          refine g_iadd dX13_largest_122 ?_
          refine g_laload dX13_largest_123 (by assumption) (by omega) (by omega) ?_
          refine g_goto (tgt := 128) dX13_largest_124 (by decide) ?_
          refine g_lstore_n dX13_largest_128 rfl (by decide) ?_
          refine g_iinc dX13_largest_129 rfl (by decide) ?_
          refine g_goto (tgt := 36) dX13_largest_132 (by decide) ?_
          first
          | exact g_locs (by exact ⟨rfl, rfl, rfl, rfl, rfl, trivial⟩) (ih (m - 1) (l + 1) (A w (1050 + l)) (by omega) (by omega) (by omega) (by omega) ((sLgL_take (by omega) (by omega)).symm.trans he))
          | exact g_locs (by exact ⟨rfl, rfl, rfl, rfl, rfl, trivial⟩) (ih (m - 1) (l + 1) t (by omega) (by omega) (by omega) (by omega) ((sLgL_skip (by omega) (by omega)).symm.trans he))
    · refine g_aload_n dX13_largest_68 rfl rfl ?_
      refine g_get_Model_w dX13_largest_69 mw_1155 (by assumption) (by assumption) ?_
      refine g_sipush dX13_largest_72 (by decide) ?_
      refine g_iload dX13_largest_75 rfl ?_
      refine g_iadd dX13_largest_77 ?_
      refine g_laload dX13_largest_78 (by assumption) (by omega) (by omega) ?_
      refine g_iload_n dX13_largest_79 rfl rfl ?_
      refine g_i2l dX13_largest_80 (by first | omega | exact m64 (hB _)) ?_
      refine g_lcmp_ne (tgt := 89) dX13_largest_81 dX13_largest_82 (by decide) (by first | omega | exact m64 (hB _)) (by first | omega | exact m64 (hB _)) (fun c_81 => ?_) (fun c_81 => ?_)
      · refine g_iconst dX13_largest_89 ?_
        refine g_istore dX13_largest_90 (by decide) ?_
        refine g_iload dX13_largest_92 rfl ?_
        refine g_if_eq (tgt := 127) dX13_largest_94 (by decide) (by first | omega | exact m64 (hB _)) (fun c_94 => ?_) (fun c_94 => ?_)
        · refine g_lload_n dX13_largest_127 rfl rfl ?_
          refine g_lstore_n dX13_largest_128 rfl (by decide) ?_
          refine g_iinc dX13_largest_129 rfl (by decide) ?_
          refine g_goto (tgt := 36) dX13_largest_132 (by decide) ?_
          first
          | exact g_locs (by exact ⟨rfl, rfl, rfl, rfl, rfl, trivial⟩) (ih (m - 1) (l + 1) (A w (1050 + l)) (by omega) (by omega) (by omega) (by omega) ((sLgL_take (by omega) (by omega)).symm.trans he))
          | exact g_locs (by exact ⟨rfl, rfl, rfl, rfl, rfl, trivial⟩) (ih (m - 1) (l + 1) t (by omega) (by omega) (by omega) (by omega) ((sLgL_skip (by omega) (by omega)).symm.trans he))
        · refine g_aload_n dX13_largest_97 rfl rfl ?_
          refine g_get_Model_w dX13_largest_98 mw_1155 (by assumption) (by assumption) ?_
          refine g_sipush dX13_largest_101 (by decide) ?_
          refine g_iload dX13_largest_104 rfl ?_
          refine g_iadd dX13_largest_106 ?_
          refine g_laload dX13_largest_107 (by assumption) (by omega) (by omega) ?_
          refine g_lload_n dX13_largest_108 rfl rfl ?_
          refine g_lcmp_le (tgt := 127) dX13_largest_109 dX13_largest_110 (by decide) (by first | omega | exact m64 (hB _)) (by first | omega | exact m64 (hB _)) (fun c_109 => ?_) (fun c_109 => ?_)
          · refine g_lload_n dX13_largest_127 rfl rfl ?_
            refine g_lstore_n dX13_largest_128 rfl (by decide) ?_
            refine g_iinc dX13_largest_129 rfl (by decide) ?_
            refine g_goto (tgt := 36) dX13_largest_132 (by decide) ?_
            first
            | exact g_locs (by exact ⟨rfl, rfl, rfl, rfl, rfl, trivial⟩) (ih (m - 1) (l + 1) (A w (1050 + l)) (by omega) (by omega) (by omega) (by omega) ((sLgL_take (by omega) (by omega)).symm.trans he))
            | exact g_locs (by exact ⟨rfl, rfl, rfl, rfl, rfl, trivial⟩) (ih (m - 1) (l + 1) t (by omega) (by omega) (by omega) (by omega) ((sLgL_skip (by omega) (by omega)).symm.trans he))
          · refine g_aload_n dX13_largest_113 rfl rfl ?_
            refine g_get_Model_w dX13_largest_114 mw_1155 (by assumption) (by assumption) ?_
            refine g_sipush dX13_largest_117 (by decide) ?_
            refine g_iload dX13_largest_120 rfl ?_
            refine g_iadd dX13_largest_122 ?_
            refine g_laload dX13_largest_123 (by assumption) (by omega) (by omega) ?_
            refine g_goto (tgt := 128) dX13_largest_124 (by decide) ?_
            refine g_lstore_n dX13_largest_128 rfl (by decide) ?_
            refine g_iinc dX13_largest_129 rfl (by decide) ?_
            refine g_goto (tgt := 36) dX13_largest_132 (by decide) ?_
            first
            | exact g_locs (by exact ⟨rfl, rfl, rfl, rfl, rfl, trivial⟩) (ih (m - 1) (l + 1) (A w (1050 + l)) (by omega) (by omega) (by omega) (by omega) ((sLgL_take (by omega) (by omega)).symm.trans he))
            | exact g_locs (by exact ⟨rfl, rfl, rfl, rfl, rfl, trivial⟩) (ih (m - 1) (l + 1) t (by omega) (by omega) (by omega) (by omega) ((sLgL_skip (by omega) (by omega)).symm.trans he))
      · refine g_iconst dX13_largest_85 ?_
        refine g_goto (tgt := 90) dX13_largest_86 (by decide) ?_
        refine g_istore dX13_largest_90 (by decide) ?_
        refine g_iload dX13_largest_92 rfl ?_
        refine g_if_eq (tgt := 127) dX13_largest_94 (by decide) (by first | omega | exact m64 (hB _)) (fun c_94 => ?_) (fun c_94 => ?_)
        · refine g_lload_n dX13_largest_127 rfl rfl ?_
          refine g_lstore_n dX13_largest_128 rfl (by decide) ?_
          refine g_iinc dX13_largest_129 rfl (by decide) ?_
          refine g_goto (tgt := 36) dX13_largest_132 (by decide) ?_
          first
          | exact g_locs (by exact ⟨rfl, rfl, rfl, rfl, rfl, trivial⟩) (ih (m - 1) (l + 1) (A w (1050 + l)) (by omega) (by omega) (by omega) (by omega) ((sLgL_take (by omega) (by omega)).symm.trans he))
          | exact g_locs (by exact ⟨rfl, rfl, rfl, rfl, rfl, trivial⟩) (ih (m - 1) (l + 1) t (by omega) (by omega) (by omega) (by omega) ((sLgL_skip (by omega) (by omega)).symm.trans he))
        · refine g_aload_n dX13_largest_97 rfl rfl ?_
          refine g_get_Model_w dX13_largest_98 mw_1155 (by assumption) (by assumption) ?_
          refine g_sipush dX13_largest_101 (by decide) ?_
          refine g_iload dX13_largest_104 rfl ?_
          refine g_iadd dX13_largest_106 ?_
          refine g_laload dX13_largest_107 (by assumption) (by omega) (by omega) ?_
          refine g_lload_n dX13_largest_108 rfl rfl ?_
          refine g_lcmp_le (tgt := 127) dX13_largest_109 dX13_largest_110 (by decide) (by first | omega | exact m64 (hB _)) (by first | omega | exact m64 (hB _)) (fun c_109 => ?_) (fun c_109 => ?_)
          · refine g_lload_n dX13_largest_127 rfl rfl ?_
            refine g_lstore_n dX13_largest_128 rfl (by decide) ?_
            refine g_iinc dX13_largest_129 rfl (by decide) ?_
            refine g_goto (tgt := 36) dX13_largest_132 (by decide) ?_
            first
            | exact g_locs (by exact ⟨rfl, rfl, rfl, rfl, rfl, trivial⟩) (ih (m - 1) (l + 1) (A w (1050 + l)) (by omega) (by omega) (by omega) (by omega) ((sLgL_take (by omega) (by omega)).symm.trans he))
            | exact g_locs (by exact ⟨rfl, rfl, rfl, rfl, rfl, trivial⟩) (ih (m - 1) (l + 1) t (by omega) (by omega) (by omega) (by omega) ((sLgL_skip (by omega) (by omega)).symm.trans he))
          · refine g_aload_n dX13_largest_113 rfl rfl ?_
            refine g_get_Model_w dX13_largest_114 mw_1155 (by assumption) (by assumption) ?_
            refine g_sipush dX13_largest_117 (by decide) ?_
            refine g_iload dX13_largest_120 rfl ?_
            refine g_iadd dX13_largest_122 ?_
            refine g_laload dX13_largest_123 (by assumption) (by omega) (by omega) ?_
            refine g_goto (tgt := 128) dX13_largest_124 (by decide) ?_
            refine g_lstore_n dX13_largest_128 rfl (by decide) ?_
            refine g_iinc dX13_largest_129 rfl (by decide) ?_
            refine g_goto (tgt := 36) dX13_largest_132 (by decide) ?_
            first
            | exact g_locs (by exact ⟨rfl, rfl, rfl, rfl, rfl, trivial⟩) (ih (m - 1) (l + 1) (A w (1050 + l)) (by omega) (by omega) (by omega) (by omega) ((sLgL_take (by omega) (by omega)).symm.trans he))
            | exact g_locs (by exact ⟨rfl, rfl, rfl, rfl, rfl, trivial⟩) (ih (m - 1) (l + 1) t (by omega) (by omega) (by omega) (by omega) ((sLgL_skip (by omega) (by omega)).symm.trans he))
set_option maxHeartbeats 4000000 in
set_option maxRecDepth 100000 in
theorem k_M_largest (Y : gEnv) {K N : Nat → Nat} {I : Nat → Nat → Int} {A : Nat → Int → Int} {R : Nat → Nat → Option Nat} {Q : Nat → Int → Option Nat} {x w sv tx ag : Nat} (hM : mS K N R x w sv tx ag) (h0 : iN (A w)) (hm : mT (A w)) (g : Int) (r : Int) (hg : (-2147483648 ≤ g ∧ g ≤ 2147483647)) (hr : (-2147483648 ≤ r ∧ r ≤ 2147483647)) : gC Y yX13_largest cX13_largest 7 (some .int) ({ frames := 2, cells := 0, slots := 0, locals := 45 } : Room) [.ref x, vi g, vi r] K N I A R Q (g_wr K N R Q (fun v I' A' => mRdP I A x (if ¬ (0 ≤ g ∧ g ≤ 3) then 1 else if ¬ (1 ≤ r ∧ r ≤ 2) then 2 else 0) (sLgL (A w) g r (A w 1614).toNat 0 0) v I' A')) gno := by
  refine gC_of (by decide) (Nat.le_of_ble_eq_true rfl) (fun X => ?_)
  obtain ⟨hKx, hRw, hRs, hRt, hRa, hKw, hNw, hKs, hNs, hKt, hNt, hKa, hNa, hta⟩ := id hM
  have hB : mB (A w) := hm.mB
  have n14 : 0 ≤ A w 1614 ∧ A w 1614 ≤ 160 := ⟨h0.2.2.2.2.1.1, h0.2.2.2.2.1.2.1⟩
  have n15 : 0 ≤ A w 1615 ∧ A w 1615 ≤ 40 := ⟨h0.2.2.2.2.2.1.1, h0.2.2.2.2.2.1.2.1⟩
  have n13 : 0 ≤ A w 1613 ∧ A w 1613 ≤ 80 := ⟨h0.2.2.2.1.1, h0.2.2.2.1.2.1⟩
  have n16 : 0 ≤ A w 1616 ∧ A w 1616 ≤ 20 := h0.2.2.2.2.2.2.2
  have nG := h0.1
  have nO := h0.2.1
  have nS := h0.2.2.2.2.2.2.1
  have nL := h0.2.2.2.2.1.2.2.1
  refine g_aload_n dX13_largest_0 rfl rfl ?_
  refine g_iconst dX13_largest_1 ?_
  refine g_put_Model_thrown dX13_largest_2 mw_1161 (by assumption) (fun I2 hI2 => ?_)
  refine g_iload_n dX13_largest_5 rfl rfl ?_
  refine g_callSp (k_M_isGlaze Y _ (by omega)) u_X13_isGlaze mw_1195 rfl dX13_largest_6 rfl rfl ⟨Nat.le_of_ble_eq_true rfl, Nat.le_of_ble_eq_true rfl⟩ ⟨Nat.le_of_ble_eq_true rfl, Nat.le_of_ble_eq_true rfl⟩ (Nat.le_of_ble_eq_true rfl) ?_
  have b6 := ifd (0 ≤ g ∧ g ≤ 3)
  generalize (if 0 ≤ g ∧ g ≤ 3 then (1 : Int) else 0) = z6 at b6 ⊢
  refine g_if_ne (tgt := 18) dX13_largest_9 (by decide) (by first | omega | exact m64 (hB _)) (fun c_9 => ?_) (fun c_9 => ?_)
  · refine g_iload_n dX13_largest_18 rfl rfl ?_
    refine g_callSp (k_M_isGrade Y _ (by omega)) u_X13_isGrade mw_1320 rfl dX13_largest_19 rfl rfl ⟨Nat.le_of_ble_eq_true rfl, Nat.le_of_ble_eq_true rfl⟩ ⟨Nat.le_of_ble_eq_true rfl, Nat.le_of_ble_eq_true rfl⟩ (Nat.le_of_ble_eq_true rfl) ?_
    have b19 := ifd (1 ≤ r ∧ r ≤ 2)
    generalize (if 1 ≤ r ∧ r ≤ 2 then (1 : Int) else 0) = z19 at b19 ⊢
    refine g_if_ne (tgt := 31) dX13_largest_22 (by decide) (by first | omega | exact m64 (hB _)) (fun c_22 => ?_) (fun c_22 => ?_)
    · refine g_lconst (c := 0) dX13_largest_31 (by decide) ?_
      refine g_lstore_n dX13_largest_32 rfl (by decide) ?_
      refine g_iconst dX13_largest_33 ?_
      refine g_istore dX13_largest_34 (by decide) ?_
      refine g_locs (by exact ⟨rfl, rfl, rfl, rfl, rfl, trivial⟩) (lp_M_largest hM h0 hm g r (by omega) (by omega) (fun z hz => ?_) _ (A w 1614).toNat 0 0 (Nat.lt_succ_self _) (by omega) (by omega) (by omega) rfl)
      subst hz
      exact ⟨rfl, rfl, rfl, rfl, mRdP.yes (by first | (rw [if_pos (by omega)]; done) | (rw [if_neg (by omega), if_pos (by omega)]; done) | (rw [if_neg (by omega)]; done) | (rw [if_neg (by omega), if_neg (by omega), if_pos (by omega)]; done) | (rw [if_neg (by omega), if_neg (by omega)]; done) | (rw [if_neg (by omega), if_neg (by omega), if_neg (by omega), if_pos (by omega)]; done) | (rw [if_neg (by omega), if_neg (by omega), if_neg (by omega)]; done) | omega | rfl) hI2 rfl⟩
    · refine g_aload_n dX13_largest_25 rfl rfl ?_
      refine g_iconst dX13_largest_26 ?_
      refine g_callVw (i := 10) rfl (gK0 (by assumption)) (g_at10 (by assumption)) (k_M_refuse Y hM _) u_X13_refuse mw_1202 dX13_largest_27 rfl rfl ⟨Nat.le_of_ble_eq_true rfl, Nat.le_of_ble_eq_true rfl⟩ ⟨Nat.le_of_ble_eq_true rfl, Nat.le_of_ble_eq_true rfl⟩ (Nat.le_of_ble_eq_true rfl) (fun v27 I27 A27 h27 => ?_)
      obtain ⟨rfl, e27, f27⟩ := h27
      exact g_iret dX13_largest_30 rfl (by decide) (by decide) ⟨rfl, rfl, rfl, rfl, by rw [f27]; exact mRdP.no hI2 e27 (by first | (rw [if_pos (by omega)]; done) | (rw [if_neg (by omega), if_pos (by omega)]; done) | (rw [if_neg (by omega)]; done) | (rw [if_neg (by omega), if_neg (by omega), if_pos (by omega)]; done) | (rw [if_neg (by omega), if_neg (by omega)]; done) | (rw [if_neg (by omega), if_neg (by omega), if_neg (by omega), if_pos (by omega)]; done) | (rw [if_neg (by omega), if_neg (by omega), if_neg (by omega)]; done) | omega | rfl) (by omega)⟩
  · refine g_aload_n dX13_largest_12 rfl rfl ?_
    refine g_iconst dX13_largest_13 ?_
    refine g_callVw (i := 10) rfl (gK0 (by assumption)) (g_at10 (by assumption)) (k_M_refuse Y hM _) u_X13_refuse mw_1202 dX13_largest_14 rfl rfl ⟨Nat.le_of_ble_eq_true rfl, Nat.le_of_ble_eq_true rfl⟩ ⟨Nat.le_of_ble_eq_true rfl, Nat.le_of_ble_eq_true rfl⟩ (Nat.le_of_ble_eq_true rfl) (fun v14 I14 A14 h14 => ?_)
    obtain ⟨rfl, e14, f14⟩ := h14
    exact g_iret dX13_largest_17 rfl (by decide) (by decide) ⟨rfl, rfl, rfl, rfl, by rw [f14]; exact mRdP.no hI2 e14 (by first | (rw [if_pos (by omega)]; done) | (rw [if_neg (by omega), if_pos (by omega)]; done) | (rw [if_neg (by omega)]; done) | (rw [if_neg (by omega), if_neg (by omega), if_pos (by omega)]; done) | (rw [if_neg (by omega), if_neg (by omega)]; done) | (rw [if_neg (by omega), if_neg (by omega), if_neg (by omega), if_pos (by omega)]; done) | (rw [if_neg (by omega), if_neg (by omega), if_neg (by omega)]; done) | omega | rfl) (by omega)⟩
set_option maxHeartbeats 4000000 in
set_option maxRecDepth 100000 in
theorem k_M_isOf (Y : gEnv) {K N : Nat → Nat} {I : Nat → Nat → Int} {A : Nat → Int → Int} {R : Nat → Nat → Option Nat} {Q : Nat → Int → Option Nat} {x w sv tx ag : Nat} (hM : mS K N R x w sv tx ag) (hB : mB (A w)) (l g r : Int) (hl : -1 ≤ l ∧ l < 160) (hg : (-2147483648 ≤ g ∧ g ≤ 2147483647)) (hr : (-2147483648 ≤ r ∧ r ≤ 2147483647)) : gC Y yX13_isOf cX13_isOf 4 (some .boolean) ({ frames := 0, cells := 0, slots := 0, locals := 0 } : Room) [.ref x, vi l, vi g, vi r] K N I A R Q (g_pu (some (vi (if sIs (A w) g r l = true then 1 else 0))) K N I A R Q) gno := by
  refine gC_of (by decide) (Nat.le_of_ble_eq_true rfl) (fun X => ?_)
  obtain ⟨hKx, hRw, hRs, hRt, hRa, hKw, hNw, hKs, hNs, hKt, hNt, hKa, hNa, hta⟩ := id hM
  refine g_iload_n dX13_isOf_0 rfl rfl ?_
  refine g_iconst dX13_isOf_1 ?_
  refine g_icmp_eq (tgt := 37) dX13_isOf_2 (by decide) (by first | omega | exact m64 (hB _)) (by first | omega | exact m64 (hB _)) (fun c_2 => ?_) (fun c_2 => ?_)
  · refine g_iconst dX13_isOf_37 ?_
    refine g_goto (tgt := 42) dX13_isOf_38 (by decide) ?_
    exact g_zret dX13_isOf_42 rfl (by omega) (by decide) (by decide) (g_pu_i (by first | rw [if_pos (by simp [sIs]; omega)] | rw [if_neg (by simp [sIs]; omega)]) _ _ _ _ _ _)
  · refine g_aload_n dX13_isOf_5 rfl rfl ?_
    refine g_get_Model_w dX13_isOf_6 mw_1155 (by assumption) (by assumption) ?_
    refine g_sipush dX13_isOf_9 (by decide) ?_
    refine g_iload_n dX13_isOf_12 rfl rfl ?_
    refine g_iadd dX13_isOf_13 ?_
    refine g_laload dX13_isOf_14 (by assumption) (by omega) (by omega) ?_
    refine g_iload_n dX13_isOf_15 rfl rfl ?_
    refine g_i2l dX13_isOf_16 (by first | omega | exact m64 (hB _)) ?_
    refine g_lcmp_ne (tgt := 41) dX13_isOf_17 dX13_isOf_18 (by decide) (by first | omega | exact m64 (hB _)) (by first | omega | exact m64 (hB _)) (fun c_17 => ?_) (fun c_17 => ?_)
    · refine g_iconst dX13_isOf_41 ?_
      exact g_zret dX13_isOf_42 rfl (by omega) (by decide) (by decide) (g_pu_i (by first | rw [if_pos (by simp [sIs]; omega)] | rw [if_neg (by simp [sIs]; omega)]) _ _ _ _ _ _)
    · refine g_aload_n dX13_isOf_21 rfl rfl ?_
      refine g_get_Model_w dX13_isOf_22 mw_1155 (by assumption) (by assumption) ?_
      refine g_sipush dX13_isOf_25 (by decide) ?_
      refine g_iload_n dX13_isOf_28 rfl rfl ?_
      refine g_iadd dX13_isOf_29 ?_
      refine g_laload dX13_isOf_30 (by assumption) (by omega) (by omega) ?_
      refine g_iload_n dX13_isOf_31 rfl rfl ?_
      refine g_i2l dX13_isOf_32 (by first | omega | exact m64 (hB _)) ?_
      refine g_lcmp_ne (tgt := 41) dX13_isOf_33 dX13_isOf_34 (by decide) (by first | omega | exact m64 (hB _)) (by first | omega | exact m64 (hB _)) (fun c_33 => ?_) (fun c_33 => ?_)
      · refine g_iconst dX13_isOf_41 ?_
        exact g_zret dX13_isOf_42 rfl (by omega) (by decide) (by decide) (g_pu_i (by first | rw [if_pos (by simp [sIs]; omega)] | rw [if_neg (by simp [sIs]; omega)]) _ _ _ _ _ _)
      · refine g_iconst dX13_isOf_37 ?_
        refine g_goto (tgt := 42) dX13_isOf_38 (by decide) ?_
        exact g_zret dX13_isOf_42 rfl (by omega) (by decide) (by decide) (g_pu_i (by first | rw [if_pos (by simp [sIs]; omega)] | rw [if_neg (by simp [sIs]; omega)]) _ _ _ _ _ _)
set_option maxHeartbeats 4000000 in
set_option maxRecDepth 100000 in
theorem lp_M_made {Y : gEnv} {X : gCtx} {K N : Nat → Nat} {I : Nat → Nat → Int} {A : Nat → Int → Int} {R : Nat → Nat → Option Nat} {Q : Nat → Int → Option Nat} {x w sv tx ag : Nat} (hM : mS K N R x w sv tx ag) (h0 : iN (A w)) (hm : mT (A w)) (u v t a b c : Int) (hu : -1 ≤ u ∧ u < 160) (hv : -1 ≤ v ∧ v < 160) (ht : -1 ≤ t ∧ t < 160) (ha : 1 ≤ a ∧ a ≤ 100000) (hb : 1 ≤ b ∧ b ≤ 100000) (hc : 1 ≤ c ∧ c ≤ 100000) : ∀ (f m : Nat) (l q : Int), m < f → 0 ≤ l → l + m = A w 1614 → (q = 0 ∨ q = 1) → gJ Y X yX13_made cX13_made 11 (some .int) ({ frames := 0, cells := 0, slots := 0, locals := 0 } : Room) (g_pu (some (vi (sMadeL (A w) u v t a b c m l q))) K N I A R Q) gno 0 0 6 [(0, .ref x), (1, vi u), (2, vi v), (3, vi t), (4, vi a), (5, vi b), (6, vi c), (7, vi q), (8, vi l)] [] K N I A R Q := by
  obtain ⟨hKx, hRw, hRs, hRt, hRa, hKw, hNw, hKs, hNs, hKt, hNt, hKa, hNa, hta⟩ := id hM
  have hB : mB (A w) := hm.mB
  have n14 : 0 ≤ A w 1614 ∧ A w 1614 ≤ 160 := ⟨h0.2.2.2.2.1.1, h0.2.2.2.2.1.2.1⟩
  have n15 : 0 ≤ A w 1615 ∧ A w 1615 ≤ 40 := ⟨h0.2.2.2.2.2.1.1, h0.2.2.2.2.2.1.2.1⟩
  have n13 : 0 ≤ A w 1613 ∧ A w 1613 ≤ 80 := ⟨h0.2.2.2.1.1, h0.2.2.2.1.2.1⟩
  have n16 : 0 ≤ A w 1616 ∧ A w 1616 ≤ 20 := h0.2.2.2.2.2.2.2
  have nG := h0.1
  have nO := h0.2.1
  have nS := h0.2.2.2.2.2.2.1
  have nL := h0.2.2.2.2.1.2.2.1

  intro f
  induction f with
  | zero => intro m l q h; omega
  | succ f ih =>
  intro m l q hf hl hml hq
  refine g_iload dX13_made_6 rfl ?_
  refine g_i2l dX13_made_8 (by first | omega | exact m64 (hB _)) ?_
  refine g_aload_n dX13_made_9 rfl rfl ?_
  refine g_get_Model_w dX13_made_10 mw_1155 (by assumption) (by assumption) ?_
  refine g_sipush dX13_made_13 (by decide) ?_
  refine g_laload dX13_made_16 (by assumption) (by omega) (by omega) ?_
  refine g_lcmp_ge (tgt := 97) dX13_made_17 dX13_made_18 (by decide) (by first | omega | exact m64 (hB _)) (by first | omega | exact m64 (hB _)) (fun c_17 => ?_) (fun c_17 => ?_)
  · refine g_iload dX13_made_97 rfl ?_
    refine g_if_eq (tgt := 137) dX13_made_99 (by decide) (by first | omega | exact m64 (hB _)) (fun c_99 => ?_) (fun c_99 => ?_)
    · refine g_iconst dX13_made_137 ?_
      exact g_iret dX13_made_138 rfl (by decide) (by decide) (g_pu_i (by rw [sMadeL_stop (by omega)]; first | (rw [if_pos (by assumption)]; done) | (rw [if_neg (by assumption)]; simp only [sN3]; repeat (first | omega | split))) _ _ _ _ _ _)
    · refine g_iload_n dX13_made_102 rfl rfl ?_
      refine g_iconst dX13_made_103 ?_
      refine g_icmp_ne (tgt := 111) dX13_made_104 (by decide) (by first | omega | exact m64 (hB _)) (by first | omega | exact m64 (hB _)) (fun c_104 => ?_) (fun c_104 => ?_)
      · refine g_iconst dX13_made_111 ?_
        refine g_iload_n dX13_made_112 rfl rfl ?_
        refine g_iconst dX13_made_113 ?_
        refine g_icmp_ne (tgt := 121) dX13_made_114 (by decide) (by first | omega | exact m64 (hB _)) (by first | omega | exact m64 (hB _)) (fun c_114 => ?_) (fun c_114 => ?_)
        · refine g_iconst dX13_made_121 ?_
          refine g_iadd dX13_made_122 ?_
          refine g_iload_n dX13_made_123 rfl rfl ?_
          refine g_iconst dX13_made_124 ?_
          refine g_icmp_ne (tgt := 132) dX13_made_125 (by decide) (by first | omega | exact m64 (hB _)) (by first | omega | exact m64 (hB _)) (fun c_125 => ?_) (fun c_125 => ?_)
          · refine g_iconst dX13_made_132 ?_
            refine g_iadd dX13_made_133 ?_
            refine g_goto (tgt := 138) dX13_made_134 (by decide) ?_
            exact g_iret dX13_made_138 rfl (by decide) (by decide) (g_pu_i (by rw [sMadeL_stop (by omega)]; first | (rw [if_pos (by assumption)]; done) | (rw [if_neg (by assumption)]; simp only [sN3]; repeat (first | omega | split))) _ _ _ _ _ _)
          · refine g_iconst dX13_made_128 ?_
            refine g_goto (tgt := 133) dX13_made_129 (by decide) ?_
            refine g_iadd dX13_made_133 ?_
            refine g_goto (tgt := 138) dX13_made_134 (by decide) ?_
            exact g_iret dX13_made_138 rfl (by decide) (by decide) (g_pu_i (by rw [sMadeL_stop (by omega)]; first | (rw [if_pos (by assumption)]; done) | (rw [if_neg (by assumption)]; simp only [sN3]; repeat (first | omega | split))) _ _ _ _ _ _)
        · refine g_iconst dX13_made_117 ?_
          refine g_goto (tgt := 122) dX13_made_118 (by decide) ?_
          refine g_iadd dX13_made_122 ?_
          refine g_iload_n dX13_made_123 rfl rfl ?_
          refine g_iconst dX13_made_124 ?_
          refine g_icmp_ne (tgt := 132) dX13_made_125 (by decide) (by first | omega | exact m64 (hB _)) (by first | omega | exact m64 (hB _)) (fun c_125 => ?_) (fun c_125 => ?_)
          · refine g_iconst dX13_made_132 ?_
            refine g_iadd dX13_made_133 ?_
            refine g_goto (tgt := 138) dX13_made_134 (by decide) ?_
            exact g_iret dX13_made_138 rfl (by decide) (by decide) (g_pu_i (by rw [sMadeL_stop (by omega)]; first | (rw [if_pos (by assumption)]; done) | (rw [if_neg (by assumption)]; simp only [sN3]; repeat (first | omega | split))) _ _ _ _ _ _)
          · refine g_iconst dX13_made_128 ?_
            refine g_goto (tgt := 133) dX13_made_129 (by decide) ?_
            refine g_iadd dX13_made_133 ?_
            refine g_goto (tgt := 138) dX13_made_134 (by decide) ?_
            exact g_iret dX13_made_138 rfl (by decide) (by decide) (g_pu_i (by rw [sMadeL_stop (by omega)]; first | (rw [if_pos (by assumption)]; done) | (rw [if_neg (by assumption)]; simp only [sN3]; repeat (first | omega | split))) _ _ _ _ _ _)
      · refine g_iconst dX13_made_107 ?_
        refine g_goto (tgt := 112) dX13_made_108 (by decide) ?_
        refine g_iload_n dX13_made_112 rfl rfl ?_
        refine g_iconst dX13_made_113 ?_
        refine g_icmp_ne (tgt := 121) dX13_made_114 (by decide) (by first | omega | exact m64 (hB _)) (by first | omega | exact m64 (hB _)) (fun c_114 => ?_) (fun c_114 => ?_)
        · refine g_iconst dX13_made_121 ?_
          refine g_iadd dX13_made_122 ?_
          refine g_iload_n dX13_made_123 rfl rfl ?_
          refine g_iconst dX13_made_124 ?_
          refine g_icmp_ne (tgt := 132) dX13_made_125 (by decide) (by first | omega | exact m64 (hB _)) (by first | omega | exact m64 (hB _)) (fun c_125 => ?_) (fun c_125 => ?_)
          · refine g_iconst dX13_made_132 ?_
            refine g_iadd dX13_made_133 ?_
            refine g_goto (tgt := 138) dX13_made_134 (by decide) ?_
            exact g_iret dX13_made_138 rfl (by decide) (by decide) (g_pu_i (by rw [sMadeL_stop (by omega)]; first | (rw [if_pos (by assumption)]; done) | (rw [if_neg (by assumption)]; simp only [sN3]; repeat (first | omega | split))) _ _ _ _ _ _)
          · refine g_iconst dX13_made_128 ?_
            refine g_goto (tgt := 133) dX13_made_129 (by decide) ?_
            refine g_iadd dX13_made_133 ?_
            refine g_goto (tgt := 138) dX13_made_134 (by decide) ?_
            exact g_iret dX13_made_138 rfl (by decide) (by decide) (g_pu_i (by rw [sMadeL_stop (by omega)]; first | (rw [if_pos (by assumption)]; done) | (rw [if_neg (by assumption)]; simp only [sN3]; repeat (first | omega | split))) _ _ _ _ _ _)
        · refine g_iconst dX13_made_117 ?_
          refine g_goto (tgt := 122) dX13_made_118 (by decide) ?_
          refine g_iadd dX13_made_122 ?_
          refine g_iload_n dX13_made_123 rfl rfl ?_
          refine g_iconst dX13_made_124 ?_
          refine g_icmp_ne (tgt := 132) dX13_made_125 (by decide) (by first | omega | exact m64 (hB _)) (by first | omega | exact m64 (hB _)) (fun c_125 => ?_) (fun c_125 => ?_)
          · refine g_iconst dX13_made_132 ?_
            refine g_iadd dX13_made_133 ?_
            refine g_goto (tgt := 138) dX13_made_134 (by decide) ?_
            exact g_iret dX13_made_138 rfl (by decide) (by decide) (g_pu_i (by rw [sMadeL_stop (by omega)]; first | (rw [if_pos (by assumption)]; done) | (rw [if_neg (by assumption)]; simp only [sN3]; repeat (first | omega | split))) _ _ _ _ _ _)
          · refine g_iconst dX13_made_128 ?_
            refine g_goto (tgt := 133) dX13_made_129 (by decide) ?_
            refine g_iadd dX13_made_133 ?_
            refine g_goto (tgt := 138) dX13_made_134 (by decide) ?_
            exact g_iret dX13_made_138 rfl (by decide) (by decide) (g_pu_i (by rw [sMadeL_stop (by omega)]; first | (rw [if_pos (by assumption)]; done) | (rw [if_neg (by assumption)]; simp only [sN3]; repeat (first | omega | split))) _ _ _ _ _ _)
  · refine g_iload_n dX13_made_21 rfl rfl ?_
    refine g_iload dX13_made_22 rfl ?_
    refine g_icmp_ne (tgt := 32) dX13_made_24 (by decide) (by first | omega | exact m64 (hB _)) (by first | omega | exact m64 (hB _)) (fun c_24 => ?_) (fun c_24 => ?_)
    · refine g_iconst dX13_made_32 ?_
      refine g_iload_n dX13_made_33 rfl rfl ?_
      refine g_iload dX13_made_34 rfl ?_
      refine g_icmp_ne (tgt := 44) dX13_made_36 (by decide) (by first | omega | exact m64 (hB _)) (by first | omega | exact m64 (hB _)) (fun c_36 => ?_) (fun c_36 => ?_)
      · refine g_iconst dX13_made_44 ?_
        refine g_iadd dX13_made_45 ?_
        refine g_iload_n dX13_made_46 rfl rfl ?_
        refine g_iload dX13_made_47 rfl ?_
        refine g_icmp_ne (tgt := 57) dX13_made_49 (by decide) (by first | omega | exact m64 (hB _)) (by first | omega | exact m64 (hB _)) (fun c_49 => ?_) (fun c_49 => ?_)
        · refine g_iconst dX13_made_57 ?_
          refine g_iadd dX13_made_58 ?_
          refine g_i2l dX13_made_59 (by first | omega | exact m64 (hB _)) ?_
          refine g_lstore dX13_made_60 (by decide) ?_
          refine g_iload dX13_made_62 rfl ?_
          refine g_if_eq (tgt := 88) dX13_made_64 (by decide) (by first | omega | exact m64 (hB _)) (fun c_64 => ?_) (fun c_64 => ?_)
          · refine g_iconst dX13_made_88 ?_
            refine g_istore dX13_made_89 (by decide) ?_
            refine g_iinc dX13_made_91 rfl (by decide) ?_
            refine g_goto (tgt := 6) dX13_made_94 (by decide) ?_
            first
            | (rw [sMadeL_yes (by omega) ⟨by omega, by simp only [sWants]; repeat (first | omega | split)⟩]; exact g_locs (by exact ⟨rfl, rfl, rfl, rfl, rfl, rfl, rfl, rfl, rfl, trivial⟩) (ih (m - 1) (l + 1) 1 (by omega) (by omega) (by omega) (by omega)))
            | (rw [sMadeL_no (by omega) (fun hh => by simp only [sWants] at hh; repeat (first | omega | split at hh))]; exact g_locs (by exact ⟨rfl, rfl, rfl, rfl, rfl, rfl, rfl, rfl, rfl, trivial⟩) (ih (m - 1) (l + 1) 0 (by omega) (by omega) (by omega) (by omega)))
          · refine g_lload dX13_made_67 rfl ?_
            refine g_aload_n dX13_made_69 rfl rfl ?_
            refine g_get_Model_w dX13_made_70 mw_1155 (by assumption) (by assumption) ?_
            refine g_sipush dX13_made_73 (by decide) ?_
            refine g_iload dX13_made_76 rfl ?_
            refine g_iadd dX13_made_78 ?_
            refine g_laload dX13_made_79 (by assumption) (by omega) (by omega) ?_
            refine g_lcmp_gt (tgt := 88) dX13_made_80 dX13_made_81 (by decide) (by first | omega | exact m64 (hB _)) (by first | omega | exact m64 (hB _)) (fun c_80 => ?_) (fun c_80 => ?_)
            · refine g_iconst dX13_made_88 ?_
              refine g_istore dX13_made_89 (by decide) ?_
              refine g_iinc dX13_made_91 rfl (by decide) ?_
              refine g_goto (tgt := 6) dX13_made_94 (by decide) ?_
              first
              | (rw [sMadeL_yes (by omega) ⟨by omega, by simp only [sWants]; repeat (first | omega | split)⟩]; exact g_locs (by exact ⟨rfl, rfl, rfl, rfl, rfl, rfl, rfl, rfl, rfl, trivial⟩) (ih (m - 1) (l + 1) 1 (by omega) (by omega) (by omega) (by omega)))
              | (rw [sMadeL_no (by omega) (fun hh => by simp only [sWants] at hh; repeat (first | omega | split at hh))]; exact g_locs (by exact ⟨rfl, rfl, rfl, rfl, rfl, rfl, rfl, rfl, rfl, trivial⟩) (ih (m - 1) (l + 1) 0 (by omega) (by omega) (by omega) (by omega)))
            · refine g_iconst dX13_made_84 ?_
              refine g_goto (tgt := 89) dX13_made_85 (by decide) ?_
              refine g_istore dX13_made_89 (by decide) ?_
              refine g_iinc dX13_made_91 rfl (by decide) ?_
              refine g_goto (tgt := 6) dX13_made_94 (by decide) ?_
              first
              | (rw [sMadeL_yes (by omega) ⟨by omega, by simp only [sWants]; repeat (first | omega | split)⟩]; exact g_locs (by exact ⟨rfl, rfl, rfl, rfl, rfl, rfl, rfl, rfl, rfl, trivial⟩) (ih (m - 1) (l + 1) 1 (by omega) (by omega) (by omega) (by omega)))
              | (rw [sMadeL_no (by omega) (fun hh => by simp only [sWants] at hh; repeat (first | omega | split at hh))]; exact g_locs (by exact ⟨rfl, rfl, rfl, rfl, rfl, rfl, rfl, rfl, rfl, trivial⟩) (ih (m - 1) (l + 1) 0 (by omega) (by omega) (by omega) (by omega)))
        · refine g_iload dX13_made_52 rfl ?_
          refine g_goto (tgt := 58) dX13_made_54 (by decide) ?_
          refine g_iadd dX13_made_58 ?_
          refine g_i2l dX13_made_59 (by first | omega | exact m64 (hB _)) ?_
          refine g_lstore dX13_made_60 (by decide) ?_
          refine g_iload dX13_made_62 rfl ?_
          refine g_if_eq (tgt := 88) dX13_made_64 (by decide) (by first | omega | exact m64 (hB _)) (fun c_64 => ?_) (fun c_64 => ?_)
          · refine g_iconst dX13_made_88 ?_
            refine g_istore dX13_made_89 (by decide) ?_
            refine g_iinc dX13_made_91 rfl (by decide) ?_
            refine g_goto (tgt := 6) dX13_made_94 (by decide) ?_
            first
            | (rw [sMadeL_yes (by omega) ⟨by omega, by simp only [sWants]; repeat (first | omega | split)⟩]; exact g_locs (by exact ⟨rfl, rfl, rfl, rfl, rfl, rfl, rfl, rfl, rfl, trivial⟩) (ih (m - 1) (l + 1) 1 (by omega) (by omega) (by omega) (by omega)))
            | (rw [sMadeL_no (by omega) (fun hh => by simp only [sWants] at hh; repeat (first | omega | split at hh))]; exact g_locs (by exact ⟨rfl, rfl, rfl, rfl, rfl, rfl, rfl, rfl, rfl, trivial⟩) (ih (m - 1) (l + 1) 0 (by omega) (by omega) (by omega) (by omega)))
          · refine g_lload dX13_made_67 rfl ?_
            refine g_aload_n dX13_made_69 rfl rfl ?_
            refine g_get_Model_w dX13_made_70 mw_1155 (by assumption) (by assumption) ?_
            refine g_sipush dX13_made_73 (by decide) ?_
            refine g_iload dX13_made_76 rfl ?_
            refine g_iadd dX13_made_78 ?_
            refine g_laload dX13_made_79 (by assumption) (by omega) (by omega) ?_
            refine g_lcmp_gt (tgt := 88) dX13_made_80 dX13_made_81 (by decide) (by first | omega | exact m64 (hB _)) (by first | omega | exact m64 (hB _)) (fun c_80 => ?_) (fun c_80 => ?_)
            · refine g_iconst dX13_made_88 ?_
              refine g_istore dX13_made_89 (by decide) ?_
              refine g_iinc dX13_made_91 rfl (by decide) ?_
              refine g_goto (tgt := 6) dX13_made_94 (by decide) ?_
              first
              | (rw [sMadeL_yes (by omega) ⟨by omega, by simp only [sWants]; repeat (first | omega | split)⟩]; exact g_locs (by exact ⟨rfl, rfl, rfl, rfl, rfl, rfl, rfl, rfl, rfl, trivial⟩) (ih (m - 1) (l + 1) 1 (by omega) (by omega) (by omega) (by omega)))
              | (rw [sMadeL_no (by omega) (fun hh => by simp only [sWants] at hh; repeat (first | omega | split at hh))]; exact g_locs (by exact ⟨rfl, rfl, rfl, rfl, rfl, rfl, rfl, rfl, rfl, trivial⟩) (ih (m - 1) (l + 1) 0 (by omega) (by omega) (by omega) (by omega)))
            · refine g_iconst dX13_made_84 ?_
              refine g_goto (tgt := 89) dX13_made_85 (by decide) ?_
              refine g_istore dX13_made_89 (by decide) ?_
              refine g_iinc dX13_made_91 rfl (by decide) ?_
              refine g_goto (tgt := 6) dX13_made_94 (by decide) ?_
              first
              | (rw [sMadeL_yes (by omega) ⟨by omega, by simp only [sWants]; repeat (first | omega | split)⟩]; exact g_locs (by exact ⟨rfl, rfl, rfl, rfl, rfl, rfl, rfl, rfl, rfl, trivial⟩) (ih (m - 1) (l + 1) 1 (by omega) (by omega) (by omega) (by omega)))
              | (rw [sMadeL_no (by omega) (fun hh => by simp only [sWants] at hh; repeat (first | omega | split at hh))]; exact g_locs (by exact ⟨rfl, rfl, rfl, rfl, rfl, rfl, rfl, rfl, rfl, trivial⟩) (ih (m - 1) (l + 1) 0 (by omega) (by omega) (by omega) (by omega)))
      · refine g_iload dX13_made_39 rfl ?_
        refine g_goto (tgt := 45) dX13_made_41 (by decide) ?_
        refine g_iadd dX13_made_45 ?_
        refine g_iload_n dX13_made_46 rfl rfl ?_
        refine g_iload dX13_made_47 rfl ?_
        refine g_icmp_ne (tgt := 57) dX13_made_49 (by decide) (by first | omega | exact m64 (hB _)) (by first | omega | exact m64 (hB _)) (fun c_49 => ?_) (fun c_49 => ?_)
        · refine g_iconst dX13_made_57 ?_
          refine g_iadd dX13_made_58 ?_
          refine g_i2l dX13_made_59 (by first | omega | exact m64 (hB _)) ?_
          refine g_lstore dX13_made_60 (by decide) ?_
          refine g_iload dX13_made_62 rfl ?_
          refine g_if_eq (tgt := 88) dX13_made_64 (by decide) (by first | omega | exact m64 (hB _)) (fun c_64 => ?_) (fun c_64 => ?_)
          · refine g_iconst dX13_made_88 ?_
            refine g_istore dX13_made_89 (by decide) ?_
            refine g_iinc dX13_made_91 rfl (by decide) ?_
            refine g_goto (tgt := 6) dX13_made_94 (by decide) ?_
            first
            | (rw [sMadeL_yes (by omega) ⟨by omega, by simp only [sWants]; repeat (first | omega | split)⟩]; exact g_locs (by exact ⟨rfl, rfl, rfl, rfl, rfl, rfl, rfl, rfl, rfl, trivial⟩) (ih (m - 1) (l + 1) 1 (by omega) (by omega) (by omega) (by omega)))
            | (rw [sMadeL_no (by omega) (fun hh => by simp only [sWants] at hh; repeat (first | omega | split at hh))]; exact g_locs (by exact ⟨rfl, rfl, rfl, rfl, rfl, rfl, rfl, rfl, rfl, trivial⟩) (ih (m - 1) (l + 1) 0 (by omega) (by omega) (by omega) (by omega)))
          · refine g_lload dX13_made_67 rfl ?_
            refine g_aload_n dX13_made_69 rfl rfl ?_
            refine g_get_Model_w dX13_made_70 mw_1155 (by assumption) (by assumption) ?_
            refine g_sipush dX13_made_73 (by decide) ?_
            refine g_iload dX13_made_76 rfl ?_
            refine g_iadd dX13_made_78 ?_
            refine g_laload dX13_made_79 (by assumption) (by omega) (by omega) ?_
            refine g_lcmp_gt (tgt := 88) dX13_made_80 dX13_made_81 (by decide) (by first | omega | exact m64 (hB _)) (by first | omega | exact m64 (hB _)) (fun c_80 => ?_) (fun c_80 => ?_)
            · refine g_iconst dX13_made_88 ?_
              refine g_istore dX13_made_89 (by decide) ?_
              refine g_iinc dX13_made_91 rfl (by decide) ?_
              refine g_goto (tgt := 6) dX13_made_94 (by decide) ?_
              first
              | (rw [sMadeL_yes (by omega) ⟨by omega, by simp only [sWants]; repeat (first | omega | split)⟩]; exact g_locs (by exact ⟨rfl, rfl, rfl, rfl, rfl, rfl, rfl, rfl, rfl, trivial⟩) (ih (m - 1) (l + 1) 1 (by omega) (by omega) (by omega) (by omega)))
              | (rw [sMadeL_no (by omega) (fun hh => by simp only [sWants] at hh; repeat (first | omega | split at hh))]; exact g_locs (by exact ⟨rfl, rfl, rfl, rfl, rfl, rfl, rfl, rfl, rfl, trivial⟩) (ih (m - 1) (l + 1) 0 (by omega) (by omega) (by omega) (by omega)))
            · refine g_iconst dX13_made_84 ?_
              refine g_goto (tgt := 89) dX13_made_85 (by decide) ?_
              refine g_istore dX13_made_89 (by decide) ?_
              refine g_iinc dX13_made_91 rfl (by decide) ?_
              refine g_goto (tgt := 6) dX13_made_94 (by decide) ?_
              first
              | (rw [sMadeL_yes (by omega) ⟨by omega, by simp only [sWants]; repeat (first | omega | split)⟩]; exact g_locs (by exact ⟨rfl, rfl, rfl, rfl, rfl, rfl, rfl, rfl, rfl, trivial⟩) (ih (m - 1) (l + 1) 1 (by omega) (by omega) (by omega) (by omega)))
              | (rw [sMadeL_no (by omega) (fun hh => by simp only [sWants] at hh; repeat (first | omega | split at hh))]; exact g_locs (by exact ⟨rfl, rfl, rfl, rfl, rfl, rfl, rfl, rfl, rfl, trivial⟩) (ih (m - 1) (l + 1) 0 (by omega) (by omega) (by omega) (by omega)))
        · refine g_iload dX13_made_52 rfl ?_
          refine g_goto (tgt := 58) dX13_made_54 (by decide) ?_
          refine g_iadd dX13_made_58 ?_
          refine g_i2l dX13_made_59 (by first | omega | exact m64 (hB _)) ?_
          refine g_lstore dX13_made_60 (by decide) ?_
          refine g_iload dX13_made_62 rfl ?_
          refine g_if_eq (tgt := 88) dX13_made_64 (by decide) (by first | omega | exact m64 (hB _)) (fun c_64 => ?_) (fun c_64 => ?_)
          · refine g_iconst dX13_made_88 ?_
            refine g_istore dX13_made_89 (by decide) ?_
            refine g_iinc dX13_made_91 rfl (by decide) ?_
            refine g_goto (tgt := 6) dX13_made_94 (by decide) ?_
            first
            | (rw [sMadeL_yes (by omega) ⟨by omega, by simp only [sWants]; repeat (first | omega | split)⟩]; exact g_locs (by exact ⟨rfl, rfl, rfl, rfl, rfl, rfl, rfl, rfl, rfl, trivial⟩) (ih (m - 1) (l + 1) 1 (by omega) (by omega) (by omega) (by omega)))
            | (rw [sMadeL_no (by omega) (fun hh => by simp only [sWants] at hh; repeat (first | omega | split at hh))]; exact g_locs (by exact ⟨rfl, rfl, rfl, rfl, rfl, rfl, rfl, rfl, rfl, trivial⟩) (ih (m - 1) (l + 1) 0 (by omega) (by omega) (by omega) (by omega)))
          · refine g_lload dX13_made_67 rfl ?_
            refine g_aload_n dX13_made_69 rfl rfl ?_
            refine g_get_Model_w dX13_made_70 mw_1155 (by assumption) (by assumption) ?_
            refine g_sipush dX13_made_73 (by decide) ?_
            refine g_iload dX13_made_76 rfl ?_
            refine g_iadd dX13_made_78 ?_
            refine g_laload dX13_made_79 (by assumption) (by omega) (by omega) ?_
            refine g_lcmp_gt (tgt := 88) dX13_made_80 dX13_made_81 (by decide) (by first | omega | exact m64 (hB _)) (by first | omega | exact m64 (hB _)) (fun c_80 => ?_) (fun c_80 => ?_)
            · refine g_iconst dX13_made_88 ?_
              refine g_istore dX13_made_89 (by decide) ?_
              refine g_iinc dX13_made_91 rfl (by decide) ?_
              refine g_goto (tgt := 6) dX13_made_94 (by decide) ?_
              first
              | (rw [sMadeL_yes (by omega) ⟨by omega, by simp only [sWants]; repeat (first | omega | split)⟩]; exact g_locs (by exact ⟨rfl, rfl, rfl, rfl, rfl, rfl, rfl, rfl, rfl, trivial⟩) (ih (m - 1) (l + 1) 1 (by omega) (by omega) (by omega) (by omega)))
              | (rw [sMadeL_no (by omega) (fun hh => by simp only [sWants] at hh; repeat (first | omega | split at hh))]; exact g_locs (by exact ⟨rfl, rfl, rfl, rfl, rfl, rfl, rfl, rfl, rfl, trivial⟩) (ih (m - 1) (l + 1) 0 (by omega) (by omega) (by omega) (by omega)))
            · refine g_iconst dX13_made_84 ?_
              refine g_goto (tgt := 89) dX13_made_85 (by decide) ?_
              refine g_istore dX13_made_89 (by decide) ?_
              refine g_iinc dX13_made_91 rfl (by decide) ?_
              refine g_goto (tgt := 6) dX13_made_94 (by decide) ?_
              first
              | (rw [sMadeL_yes (by omega) ⟨by omega, by simp only [sWants]; repeat (first | omega | split)⟩]; exact g_locs (by exact ⟨rfl, rfl, rfl, rfl, rfl, rfl, rfl, rfl, rfl, trivial⟩) (ih (m - 1) (l + 1) 1 (by omega) (by omega) (by omega) (by omega)))
              | (rw [sMadeL_no (by omega) (fun hh => by simp only [sWants] at hh; repeat (first | omega | split at hh))]; exact g_locs (by exact ⟨rfl, rfl, rfl, rfl, rfl, rfl, rfl, rfl, rfl, trivial⟩) (ih (m - 1) (l + 1) 0 (by omega) (by omega) (by omega) (by omega)))
    · refine g_iload dX13_made_27 rfl ?_
      refine g_goto (tgt := 33) dX13_made_29 (by decide) ?_
      refine g_iload_n dX13_made_33 rfl rfl ?_
      refine g_iload dX13_made_34 rfl ?_
      refine g_icmp_ne (tgt := 44) dX13_made_36 (by decide) (by first | omega | exact m64 (hB _)) (by first | omega | exact m64 (hB _)) (fun c_36 => ?_) (fun c_36 => ?_)
      · refine g_iconst dX13_made_44 ?_
        refine g_iadd dX13_made_45 ?_
        refine g_iload_n dX13_made_46 rfl rfl ?_
        refine g_iload dX13_made_47 rfl ?_
        refine g_icmp_ne (tgt := 57) dX13_made_49 (by decide) (by first | omega | exact m64 (hB _)) (by first | omega | exact m64 (hB _)) (fun c_49 => ?_) (fun c_49 => ?_)
        · refine g_iconst dX13_made_57 ?_
          refine g_iadd dX13_made_58 ?_
          refine g_i2l dX13_made_59 (by first | omega | exact m64 (hB _)) ?_
          refine g_lstore dX13_made_60 (by decide) ?_
          refine g_iload dX13_made_62 rfl ?_
          refine g_if_eq (tgt := 88) dX13_made_64 (by decide) (by first | omega | exact m64 (hB _)) (fun c_64 => ?_) (fun c_64 => ?_)
          · refine g_iconst dX13_made_88 ?_
            refine g_istore dX13_made_89 (by decide) ?_
            refine g_iinc dX13_made_91 rfl (by decide) ?_
            refine g_goto (tgt := 6) dX13_made_94 (by decide) ?_
            first
            | (rw [sMadeL_yes (by omega) ⟨by omega, by simp only [sWants]; repeat (first | omega | split)⟩]; exact g_locs (by exact ⟨rfl, rfl, rfl, rfl, rfl, rfl, rfl, rfl, rfl, trivial⟩) (ih (m - 1) (l + 1) 1 (by omega) (by omega) (by omega) (by omega)))
            | (rw [sMadeL_no (by omega) (fun hh => by simp only [sWants] at hh; repeat (first | omega | split at hh))]; exact g_locs (by exact ⟨rfl, rfl, rfl, rfl, rfl, rfl, rfl, rfl, rfl, trivial⟩) (ih (m - 1) (l + 1) 0 (by omega) (by omega) (by omega) (by omega)))
          · refine g_lload dX13_made_67 rfl ?_
            refine g_aload_n dX13_made_69 rfl rfl ?_
            refine g_get_Model_w dX13_made_70 mw_1155 (by assumption) (by assumption) ?_
            refine g_sipush dX13_made_73 (by decide) ?_
            refine g_iload dX13_made_76 rfl ?_
            refine g_iadd dX13_made_78 ?_
            refine g_laload dX13_made_79 (by assumption) (by omega) (by omega) ?_
            refine g_lcmp_gt (tgt := 88) dX13_made_80 dX13_made_81 (by decide) (by first | omega | exact m64 (hB _)) (by first | omega | exact m64 (hB _)) (fun c_80 => ?_) (fun c_80 => ?_)
            · refine g_iconst dX13_made_88 ?_
              refine g_istore dX13_made_89 (by decide) ?_
              refine g_iinc dX13_made_91 rfl (by decide) ?_
              refine g_goto (tgt := 6) dX13_made_94 (by decide) ?_
              first
              | (rw [sMadeL_yes (by omega) ⟨by omega, by simp only [sWants]; repeat (first | omega | split)⟩]; exact g_locs (by exact ⟨rfl, rfl, rfl, rfl, rfl, rfl, rfl, rfl, rfl, trivial⟩) (ih (m - 1) (l + 1) 1 (by omega) (by omega) (by omega) (by omega)))
              | (rw [sMadeL_no (by omega) (fun hh => by simp only [sWants] at hh; repeat (first | omega | split at hh))]; exact g_locs (by exact ⟨rfl, rfl, rfl, rfl, rfl, rfl, rfl, rfl, rfl, trivial⟩) (ih (m - 1) (l + 1) 0 (by omega) (by omega) (by omega) (by omega)))
            · refine g_iconst dX13_made_84 ?_
              refine g_goto (tgt := 89) dX13_made_85 (by decide) ?_
              refine g_istore dX13_made_89 (by decide) ?_
              refine g_iinc dX13_made_91 rfl (by decide) ?_
              refine g_goto (tgt := 6) dX13_made_94 (by decide) ?_
              first
              | (rw [sMadeL_yes (by omega) ⟨by omega, by simp only [sWants]; repeat (first | omega | split)⟩]; exact g_locs (by exact ⟨rfl, rfl, rfl, rfl, rfl, rfl, rfl, rfl, rfl, trivial⟩) (ih (m - 1) (l + 1) 1 (by omega) (by omega) (by omega) (by omega)))
              | (rw [sMadeL_no (by omega) (fun hh => by simp only [sWants] at hh; repeat (first | omega | split at hh))]; exact g_locs (by exact ⟨rfl, rfl, rfl, rfl, rfl, rfl, rfl, rfl, rfl, trivial⟩) (ih (m - 1) (l + 1) 0 (by omega) (by omega) (by omega) (by omega)))
        · refine g_iload dX13_made_52 rfl ?_
          refine g_goto (tgt := 58) dX13_made_54 (by decide) ?_
          refine g_iadd dX13_made_58 ?_
          refine g_i2l dX13_made_59 (by first | omega | exact m64 (hB _)) ?_
          refine g_lstore dX13_made_60 (by decide) ?_
          refine g_iload dX13_made_62 rfl ?_
          refine g_if_eq (tgt := 88) dX13_made_64 (by decide) (by first | omega | exact m64 (hB _)) (fun c_64 => ?_) (fun c_64 => ?_)
          · refine g_iconst dX13_made_88 ?_
            refine g_istore dX13_made_89 (by decide) ?_
            refine g_iinc dX13_made_91 rfl (by decide) ?_
            refine g_goto (tgt := 6) dX13_made_94 (by decide) ?_
            first
            | (rw [sMadeL_yes (by omega) ⟨by omega, by simp only [sWants]; repeat (first | omega | split)⟩]; exact g_locs (by exact ⟨rfl, rfl, rfl, rfl, rfl, rfl, rfl, rfl, rfl, trivial⟩) (ih (m - 1) (l + 1) 1 (by omega) (by omega) (by omega) (by omega)))
            | (rw [sMadeL_no (by omega) (fun hh => by simp only [sWants] at hh; repeat (first | omega | split at hh))]; exact g_locs (by exact ⟨rfl, rfl, rfl, rfl, rfl, rfl, rfl, rfl, rfl, trivial⟩) (ih (m - 1) (l + 1) 0 (by omega) (by omega) (by omega) (by omega)))
          · refine g_lload dX13_made_67 rfl ?_
            refine g_aload_n dX13_made_69 rfl rfl ?_
            refine g_get_Model_w dX13_made_70 mw_1155 (by assumption) (by assumption) ?_
            refine g_sipush dX13_made_73 (by decide) ?_
            refine g_iload dX13_made_76 rfl ?_
            refine g_iadd dX13_made_78 ?_
            refine g_laload dX13_made_79 (by assumption) (by omega) (by omega) ?_
            refine g_lcmp_gt (tgt := 88) dX13_made_80 dX13_made_81 (by decide) (by first | omega | exact m64 (hB _)) (by first | omega | exact m64 (hB _)) (fun c_80 => ?_) (fun c_80 => ?_)
            · refine g_iconst dX13_made_88 ?_
              refine g_istore dX13_made_89 (by decide) ?_
              refine g_iinc dX13_made_91 rfl (by decide) ?_
              refine g_goto (tgt := 6) dX13_made_94 (by decide) ?_
              first
              | (rw [sMadeL_yes (by omega) ⟨by omega, by simp only [sWants]; repeat (first | omega | split)⟩]; exact g_locs (by exact ⟨rfl, rfl, rfl, rfl, rfl, rfl, rfl, rfl, rfl, trivial⟩) (ih (m - 1) (l + 1) 1 (by omega) (by omega) (by omega) (by omega)))
              | (rw [sMadeL_no (by omega) (fun hh => by simp only [sWants] at hh; repeat (first | omega | split at hh))]; exact g_locs (by exact ⟨rfl, rfl, rfl, rfl, rfl, rfl, rfl, rfl, rfl, trivial⟩) (ih (m - 1) (l + 1) 0 (by omega) (by omega) (by omega) (by omega)))
            · refine g_iconst dX13_made_84 ?_
              refine g_goto (tgt := 89) dX13_made_85 (by decide) ?_
              refine g_istore dX13_made_89 (by decide) ?_
              refine g_iinc dX13_made_91 rfl (by decide) ?_
              refine g_goto (tgt := 6) dX13_made_94 (by decide) ?_
              first
              | (rw [sMadeL_yes (by omega) ⟨by omega, by simp only [sWants]; repeat (first | omega | split)⟩]; exact g_locs (by exact ⟨rfl, rfl, rfl, rfl, rfl, rfl, rfl, rfl, rfl, trivial⟩) (ih (m - 1) (l + 1) 1 (by omega) (by omega) (by omega) (by omega)))
              | (rw [sMadeL_no (by omega) (fun hh => by simp only [sWants] at hh; repeat (first | omega | split at hh))]; exact g_locs (by exact ⟨rfl, rfl, rfl, rfl, rfl, rfl, rfl, rfl, rfl, trivial⟩) (ih (m - 1) (l + 1) 0 (by omega) (by omega) (by omega) (by omega)))
      · refine g_iload dX13_made_39 rfl ?_
        refine g_goto (tgt := 45) dX13_made_41 (by decide) ?_
        refine g_iadd dX13_made_45 ?_
        refine g_iload_n dX13_made_46 rfl rfl ?_
        refine g_iload dX13_made_47 rfl ?_
        refine g_icmp_ne (tgt := 57) dX13_made_49 (by decide) (by first | omega | exact m64 (hB _)) (by first | omega | exact m64 (hB _)) (fun c_49 => ?_) (fun c_49 => ?_)
        · refine g_iconst dX13_made_57 ?_
          refine g_iadd dX13_made_58 ?_
          refine g_i2l dX13_made_59 (by first | omega | exact m64 (hB _)) ?_
          refine g_lstore dX13_made_60 (by decide) ?_
          refine g_iload dX13_made_62 rfl ?_
          refine g_if_eq (tgt := 88) dX13_made_64 (by decide) (by first | omega | exact m64 (hB _)) (fun c_64 => ?_) (fun c_64 => ?_)
          · refine g_iconst dX13_made_88 ?_
            refine g_istore dX13_made_89 (by decide) ?_
            refine g_iinc dX13_made_91 rfl (by decide) ?_
            refine g_goto (tgt := 6) dX13_made_94 (by decide) ?_
            first
            | (rw [sMadeL_yes (by omega) ⟨by omega, by simp only [sWants]; repeat (first | omega | split)⟩]; exact g_locs (by exact ⟨rfl, rfl, rfl, rfl, rfl, rfl, rfl, rfl, rfl, trivial⟩) (ih (m - 1) (l + 1) 1 (by omega) (by omega) (by omega) (by omega)))
            | (rw [sMadeL_no (by omega) (fun hh => by simp only [sWants] at hh; repeat (first | omega | split at hh))]; exact g_locs (by exact ⟨rfl, rfl, rfl, rfl, rfl, rfl, rfl, rfl, rfl, trivial⟩) (ih (m - 1) (l + 1) 0 (by omega) (by omega) (by omega) (by omega)))
          · refine g_lload dX13_made_67 rfl ?_
            refine g_aload_n dX13_made_69 rfl rfl ?_
            refine g_get_Model_w dX13_made_70 mw_1155 (by assumption) (by assumption) ?_
            refine g_sipush dX13_made_73 (by decide) ?_
            refine g_iload dX13_made_76 rfl ?_
            refine g_iadd dX13_made_78 ?_
            refine g_laload dX13_made_79 (by assumption) (by omega) (by omega) ?_
            refine g_lcmp_gt (tgt := 88) dX13_made_80 dX13_made_81 (by decide) (by first | omega | exact m64 (hB _)) (by first | omega | exact m64 (hB _)) (fun c_80 => ?_) (fun c_80 => ?_)
            · refine g_iconst dX13_made_88 ?_
              refine g_istore dX13_made_89 (by decide) ?_
              refine g_iinc dX13_made_91 rfl (by decide) ?_
              refine g_goto (tgt := 6) dX13_made_94 (by decide) ?_
              first
              | (rw [sMadeL_yes (by omega) ⟨by omega, by simp only [sWants]; repeat (first | omega | split)⟩]; exact g_locs (by exact ⟨rfl, rfl, rfl, rfl, rfl, rfl, rfl, rfl, rfl, trivial⟩) (ih (m - 1) (l + 1) 1 (by omega) (by omega) (by omega) (by omega)))
              | (rw [sMadeL_no (by omega) (fun hh => by simp only [sWants] at hh; repeat (first | omega | split at hh))]; exact g_locs (by exact ⟨rfl, rfl, rfl, rfl, rfl, rfl, rfl, rfl, rfl, trivial⟩) (ih (m - 1) (l + 1) 0 (by omega) (by omega) (by omega) (by omega)))
            · refine g_iconst dX13_made_84 ?_
              refine g_goto (tgt := 89) dX13_made_85 (by decide) ?_
              refine g_istore dX13_made_89 (by decide) ?_
              refine g_iinc dX13_made_91 rfl (by decide) ?_
              refine g_goto (tgt := 6) dX13_made_94 (by decide) ?_
              first
              | (rw [sMadeL_yes (by omega) ⟨by omega, by simp only [sWants]; repeat (first | omega | split)⟩]; exact g_locs (by exact ⟨rfl, rfl, rfl, rfl, rfl, rfl, rfl, rfl, rfl, trivial⟩) (ih (m - 1) (l + 1) 1 (by omega) (by omega) (by omega) (by omega)))
              | (rw [sMadeL_no (by omega) (fun hh => by simp only [sWants] at hh; repeat (first | omega | split at hh))]; exact g_locs (by exact ⟨rfl, rfl, rfl, rfl, rfl, rfl, rfl, rfl, rfl, trivial⟩) (ih (m - 1) (l + 1) 0 (by omega) (by omega) (by omega) (by omega)))
        · refine g_iload dX13_made_52 rfl ?_
          refine g_goto (tgt := 58) dX13_made_54 (by decide) ?_
          refine g_iadd dX13_made_58 ?_
          refine g_i2l dX13_made_59 (by first | omega | exact m64 (hB _)) ?_
          refine g_lstore dX13_made_60 (by decide) ?_
          refine g_iload dX13_made_62 rfl ?_
          refine g_if_eq (tgt := 88) dX13_made_64 (by decide) (by first | omega | exact m64 (hB _)) (fun c_64 => ?_) (fun c_64 => ?_)
          · refine g_iconst dX13_made_88 ?_
            refine g_istore dX13_made_89 (by decide) ?_
            refine g_iinc dX13_made_91 rfl (by decide) ?_
            refine g_goto (tgt := 6) dX13_made_94 (by decide) ?_
            first
            | (rw [sMadeL_yes (by omega) ⟨by omega, by simp only [sWants]; repeat (first | omega | split)⟩]; exact g_locs (by exact ⟨rfl, rfl, rfl, rfl, rfl, rfl, rfl, rfl, rfl, trivial⟩) (ih (m - 1) (l + 1) 1 (by omega) (by omega) (by omega) (by omega)))
            | (rw [sMadeL_no (by omega) (fun hh => by simp only [sWants] at hh; repeat (first | omega | split at hh))]; exact g_locs (by exact ⟨rfl, rfl, rfl, rfl, rfl, rfl, rfl, rfl, rfl, trivial⟩) (ih (m - 1) (l + 1) 0 (by omega) (by omega) (by omega) (by omega)))
          · refine g_lload dX13_made_67 rfl ?_
            refine g_aload_n dX13_made_69 rfl rfl ?_
            refine g_get_Model_w dX13_made_70 mw_1155 (by assumption) (by assumption) ?_
            refine g_sipush dX13_made_73 (by decide) ?_
            refine g_iload dX13_made_76 rfl ?_
            refine g_iadd dX13_made_78 ?_
            refine g_laload dX13_made_79 (by assumption) (by omega) (by omega) ?_
            refine g_lcmp_gt (tgt := 88) dX13_made_80 dX13_made_81 (by decide) (by first | omega | exact m64 (hB _)) (by first | omega | exact m64 (hB _)) (fun c_80 => ?_) (fun c_80 => ?_)
            · refine g_iconst dX13_made_88 ?_
              refine g_istore dX13_made_89 (by decide) ?_
              refine g_iinc dX13_made_91 rfl (by decide) ?_
              refine g_goto (tgt := 6) dX13_made_94 (by decide) ?_
              first
              | (rw [sMadeL_yes (by omega) ⟨by omega, by simp only [sWants]; repeat (first | omega | split)⟩]; exact g_locs (by exact ⟨rfl, rfl, rfl, rfl, rfl, rfl, rfl, rfl, rfl, trivial⟩) (ih (m - 1) (l + 1) 1 (by omega) (by omega) (by omega) (by omega)))
              | (rw [sMadeL_no (by omega) (fun hh => by simp only [sWants] at hh; repeat (first | omega | split at hh))]; exact g_locs (by exact ⟨rfl, rfl, rfl, rfl, rfl, rfl, rfl, rfl, rfl, trivial⟩) (ih (m - 1) (l + 1) 0 (by omega) (by omega) (by omega) (by omega)))
            · refine g_iconst dX13_made_84 ?_
              refine g_goto (tgt := 89) dX13_made_85 (by decide) ?_
              refine g_istore dX13_made_89 (by decide) ?_
              refine g_iinc dX13_made_91 rfl (by decide) ?_
              refine g_goto (tgt := 6) dX13_made_94 (by decide) ?_
              first
              | (rw [sMadeL_yes (by omega) ⟨by omega, by simp only [sWants]; repeat (first | omega | split)⟩]; exact g_locs (by exact ⟨rfl, rfl, rfl, rfl, rfl, rfl, rfl, rfl, rfl, trivial⟩) (ih (m - 1) (l + 1) 1 (by omega) (by omega) (by omega) (by omega)))
              | (rw [sMadeL_no (by omega) (fun hh => by simp only [sWants] at hh; repeat (first | omega | split at hh))]; exact g_locs (by exact ⟨rfl, rfl, rfl, rfl, rfl, rfl, rfl, rfl, rfl, trivial⟩) (ih (m - 1) (l + 1) 0 (by omega) (by omega) (by omega) (by omega)))
set_option maxHeartbeats 4000000 in
set_option maxRecDepth 100000 in
theorem k_M_made (Y : gEnv) {K N : Nat → Nat} {I : Nat → Nat → Int} {A : Nat → Int → Int} {R : Nat → Nat → Option Nat} {Q : Nat → Int → Option Nat} {x w sv tx ag : Nat} (hM : mS K N R x w sv tx ag) (h0 : iN (A w)) (hm : mT (A w)) (u v t a b c : Int) (hu : -1 ≤ u ∧ u < 160) (hv : -1 ≤ v ∧ v < 160) (ht : -1 ≤ t ∧ t < 160) (ha : 1 ≤ a ∧ a ≤ 100000) (hb : 1 ≤ b ∧ b ≤ 100000) (hc : 1 ≤ c ∧ c ≤ 100000) : gC Y yX13_made cX13_made 11 (some .int) ({ frames := 0, cells := 0, slots := 0, locals := 0 } : Room) [.ref x, vi u, vi v, vi t, vi a, vi b, vi c] K N I A R Q (g_pu (some (vi (sMade (A w) u v t a b c))) K N I A R Q) gno := by
  refine gC_of (by decide) (Nat.le_of_ble_eq_true rfl) (fun X => ?_)
  have h14 := h0.2.2.2.2.1.1
  refine g_iconst dX13_made_0 ?_
  refine g_istore dX13_made_1 (by decide) ?_
  refine g_iconst dX13_made_3 ?_
  refine g_istore dX13_made_4 (by decide) ?_
  exact g_locs (by exact ⟨rfl, rfl, rfl, rfl, rfl, rfl, rfl, rfl, rfl, trivial⟩) (lp_M_made hM h0 hm u v t a b c hu hv ht ha hb hc _ _ 0 1 (Nat.lt_succ_self _) (by omega) (by omega) (by omega))
set_option maxHeartbeats 4000000 in
set_option maxRecDepth 100000 in
theorem lp_M_most1 {Y : gEnv} {X : gCtx} {K N : Nat → Nat} {I : Nat → Nat → Int} {A : Nat → Int → Int} {R : Nat → Nat → Option Nat} {Q : Nat → Int → Option Nat} {po : gPo} {px : gPx} {x w sv tx ag : Nat} (hM : mS K N R x w sv tx ag) (h0 : iN (A w)) (hm : mT (A w)) (g r a b c : Int) (hg : 0 ≤ g ∧ g ≤ 3) (hr : 1 ≤ r ∧ r ≤ 2) (ha : 1 ≤ a ∧ a ≤ 100000) (hb : 1 ≤ b ∧ b ≤ 100000) (hc : 1 ≤ c ∧ c ≤ 100000) (u v : Int) (hu : -1 ≤ u ∧ u < 160) (hv : -1 ≤ v ∧ v < 160) : ∀ (f m : Nat) (z t : Int), m < f → -1 ≤ z → z + m = A w 1614 → 0 ≤ t ∧ t ≤ 3 → gJ Y X yX13_most cX13_most 11 (some .int) ({ frames := 1, cells := 0, slots := 0, locals := 30 } : Room) po px 0 0 139 [(0, .ref x), (1, vi g), (2, vi r), (3, vi a), (4, vi b), (5, vi c), (6, vi (sMz (A w) g r u v a b c m z t)), (7, vi u), (8, vi v)] [] K N I A R Q → gJ Y X yX13_most cX13_most 11 (some .int) ({ frames := 1, cells := 0, slots := 0, locals := 30 } : Room) po px 0 0 53 [(0, .ref x), (1, vi g), (2, vi r), (3, vi a), (4, vi b), (5, vi c), (6, vi t), (7, vi u), (8, vi v), (9, vi z)] [] K N I A R Q := by
  obtain ⟨hKx, hRw, hRs, hRt, hRa, hKw, hNw, hKs, hNs, hKt, hNt, hKa, hNa, hta⟩ := id hM
  have hB : mB (A w) := hm.mB
  have n14 : 0 ≤ A w 1614 ∧ A w 1614 ≤ 160 := ⟨h0.2.2.2.2.1.1, h0.2.2.2.2.1.2.1⟩
  have n15 : 0 ≤ A w 1615 ∧ A w 1615 ≤ 40 := ⟨h0.2.2.2.2.2.1.1, h0.2.2.2.2.2.1.2.1⟩
  have n13 : 0 ≤ A w 1613 ∧ A w 1613 ≤ 80 := ⟨h0.2.2.2.1.1, h0.2.2.2.1.2.1⟩
  have n16 : 0 ≤ A w 1616 ∧ A w 1616 ≤ 20 := h0.2.2.2.2.2.2.2
  have nG := h0.1
  have nO := h0.2.1
  have nS := h0.2.2.2.2.2.2.1
  have nL := h0.2.2.2.2.1.2.2.1

  intro f
  induction f with
  | zero => intro m z t h; omega
  | succ f ih =>
  intro m z t hf hz hmz ht kx
  refine g_iload dX13_most_53 rfl ?_
  refine g_i2l dX13_most_55 (by first | omega | exact m64 (hB _)) ?_
  refine g_aload_n dX13_most_56 rfl rfl ?_
  refine g_get_Model_w dX13_most_57 mw_1155 (by assumption) (by assumption) ?_
  refine g_sipush dX13_most_60 (by decide) ?_
  refine g_laload dX13_most_63 (by assumption) (by omega) (by omega) ?_
  refine g_lcmp_ge (tgt := 139) dX13_most_64 dX13_most_65 (by decide) (by first | omega | exact m64 (hB _)) (by first | omega | exact m64 (hB _)) (fun c_64 => ?_) (fun c_64 => ?_)
  · first
    | (rw [sMz_stop (by omega)] at kx; exact g_locs (by exact ⟨rfl, rfl, rfl, rfl, rfl, rfl, rfl, rfl, rfl, trivial⟩) kx)
    | (rw [sMz_out (fun hh => absurd hh.1 (n73 (by omega)))] at kx; exact g_locs (by exact ⟨rfl, rfl, rfl, rfl, rfl, rfl, rfl, rfl, rfl, trivial⟩) kx)
    | (rw [sMz_out (fun hh => by have := hh.2; omega)] at kx; exact g_locs (by exact ⟨rfl, rfl, rfl, rfl, rfl, rfl, rfl, rfl, rfl, trivial⟩) kx)
  · have hzl : z < A w 1614 := by omega
    refine g_aload_n dX13_most_68 rfl rfl ?_
    refine g_iload dX13_most_69 rfl ?_
    refine g_iload_n dX13_most_71 rfl rfl ?_
    refine g_iload_n dX13_most_72 rfl rfl ?_
    refine g_callVp (i := 10) rfl (gK0 (by assumption)) (g_at10 (by assumption)) (k_M_isOf Y hM hB _ _ _ (by omega) (by omega) (by omega)) u_X13_isOf mw_1453 dX13_most_73 rfl rfl ⟨Nat.le_of_ble_eq_true rfl, Nat.le_of_ble_eq_true rfl⟩ ⟨Nat.le_of_ble_eq_true rfl, Nat.le_of_ble_eq_true rfl⟩ (Nat.le_of_ble_eq_true rfl) ?_
    obtain ⟨b73, p73, n73⟩ := ifd2 (sIs (A w) g r v = true)
    generalize (if sIs (A w) g r v = true then (1 : Int) else 0) = z73 at b73 p73 n73 ⊢
    refine g_if_eq (tgt := 139) dX13_most_76 (by decide) (by first | omega | exact m64 (hB _)) (fun c_76 => ?_) (fun c_76 => ?_)
    · first
      | (rw [sMz_stop (by omega)] at kx; exact g_locs (by exact ⟨rfl, rfl, rfl, rfl, rfl, rfl, rfl, rfl, rfl, trivial⟩) kx)
      | (rw [sMz_out (fun hh => absurd hh.1 (n73 (by omega)))] at kx; exact g_locs (by exact ⟨rfl, rfl, rfl, rfl, rfl, rfl, rfl, rfl, rfl, trivial⟩) kx)
      | (rw [sMz_out (fun hh => by have := hh.2; omega)] at kx; exact g_locs (by exact ⟨rfl, rfl, rfl, rfl, rfl, rfl, rfl, rfl, rfl, trivial⟩) kx)
    · refine g_iload dX13_most_79 rfl ?_
      refine g_iconst dX13_most_81 ?_
      refine g_icmp_ge (tgt := 139) dX13_most_82 (by decide) (by first | omega | exact m64 (hB _)) (by first | omega | exact m64 (hB _)) (fun c_82 => ?_) (fun c_82 => ?_)
      · first
        | (rw [sMz_stop (by omega)] at kx; exact g_locs (by exact ⟨rfl, rfl, rfl, rfl, rfl, rfl, rfl, rfl, rfl, trivial⟩) kx)
        | (rw [sMz_out (fun hh => absurd hh.1 (n73 (by omega)))] at kx; exact g_locs (by exact ⟨rfl, rfl, rfl, rfl, rfl, rfl, rfl, rfl, rfl, trivial⟩) kx)
        | (rw [sMz_out (fun hh => by have := hh.2; omega)] at kx; exact g_locs (by exact ⟨rfl, rfl, rfl, rfl, rfl, rfl, rfl, rfl, rfl, trivial⟩) kx)
      · refine g_aload_n dX13_most_85 rfl rfl ?_
        refine g_iload dX13_most_86 rfl ?_
        refine g_iload_n dX13_most_88 rfl rfl ?_
        refine g_iload_n dX13_most_89 rfl rfl ?_
        refine g_callVp (i := 10) rfl (gK0 (by assumption)) (g_at10 (by assumption)) (k_M_isOf Y hM hB _ _ _ (by omega) (by omega) (by omega)) u_X13_isOf mw_1453 dX13_most_90 rfl rfl ⟨Nat.le_of_ble_eq_true rfl, Nat.le_of_ble_eq_true rfl⟩ ⟨Nat.le_of_ble_eq_true rfl, Nat.le_of_ble_eq_true rfl⟩ (Nat.le_of_ble_eq_true rfl) ?_
        obtain ⟨b90, p90, n90⟩ := ifd2 (sIs (A w) g r z = true)
        generalize (if sIs (A w) g r z = true then (1 : Int) else 0) = z90 at b90 p90 n90 ⊢
        refine g_if_eq (tgt := 114) dX13_most_93 (by decide) (by first | omega | exact m64 (hB _)) (fun c_93 => ?_) (fun c_93 => ?_)
        · refine g_iconst dX13_most_114 ?_
          refine g_istore dX13_most_115 (by decide) ?_
          refine g_iload dX13_most_117 rfl ?_
          refine g_iload dX13_most_119 rfl ?_
          refine g_icmp_le (tgt := 129) dX13_most_121 (by decide) (by first | omega | exact m64 (hB _)) (by first | omega | exact m64 (hB _)) (fun c_121 => ?_) (fun c_121 => ?_)
          · refine g_iload dX13_most_129 rfl ?_
            refine g_istore dX13_most_131 (by decide) ?_
            refine g_iinc dX13_most_133 rfl (by decide) ?_
            refine g_goto (tgt := 53) dX13_most_136 (by decide) ?_
            have hV : sIs (A w) g r v = true := p73 (by omega)
            rw [sMz_step (by omega) ⟨hV, by omega⟩] at kx
            first
            | (rw [show sM1 (A w) g r u v z a b c = sMade (A w) u v z a b c by simp only [sM1]; rw [if_pos (p90 (by omega))]] at kx
               first
               | (rw [if_pos (by omega)] at kx; exact g_locs (by exact ⟨rfl, rfl, rfl, rfl, rfl, rfl, rfl, rfl, rfl, rfl, trivial⟩) (ih (m - 1) (z + 1) _ (by omega) (by omega) (by omega) (by omega) kx))
               | (rw [if_neg (by omega)] at kx; exact g_locs (by exact ⟨rfl, rfl, rfl, rfl, rfl, rfl, rfl, rfl, rfl, rfl, trivial⟩) (ih (m - 1) (z + 1) _ (by omega) (by omega) (by omega) (by omega) kx)))
            | (rw [show sM1 (A w) g r u v z a b c = 0 by simp only [sM1]; rw [if_neg (n90 (by omega))]] at kx
               first
               | (rw [if_pos (by omega)] at kx; exact g_locs (by exact ⟨rfl, rfl, rfl, rfl, rfl, rfl, rfl, rfl, rfl, rfl, trivial⟩) (ih (m - 1) (z + 1) _ (by omega) (by omega) (by omega) (by omega) kx))
               | (rw [if_neg (by omega)] at kx; exact g_locs (by exact ⟨rfl, rfl, rfl, rfl, rfl, rfl, rfl, rfl, rfl, rfl, trivial⟩) (ih (m - 1) (z + 1) _ (by omega) (by omega) (by omega) (by omega) kx)))
          · refine g_iload dX13_most_124 rfl ?_
            refine g_goto (tgt := 131) dX13_most_126 (by decide) ?_
            refine g_istore dX13_most_131 (by decide) ?_
            refine g_iinc dX13_most_133 rfl (by decide) ?_
            refine g_goto (tgt := 53) dX13_most_136 (by decide) ?_
            have hV : sIs (A w) g r v = true := p73 (by omega)
            rw [sMz_step (by omega) ⟨hV, by omega⟩] at kx
            first
            | (rw [show sM1 (A w) g r u v z a b c = sMade (A w) u v z a b c by simp only [sM1]; rw [if_pos (p90 (by omega))]] at kx
               first
               | (rw [if_pos (by omega)] at kx; exact g_locs (by exact ⟨rfl, rfl, rfl, rfl, rfl, rfl, rfl, rfl, rfl, rfl, trivial⟩) (ih (m - 1) (z + 1) _ (by omega) (by omega) (by omega) (by omega) kx))
               | (rw [if_neg (by omega)] at kx; exact g_locs (by exact ⟨rfl, rfl, rfl, rfl, rfl, rfl, rfl, rfl, rfl, rfl, trivial⟩) (ih (m - 1) (z + 1) _ (by omega) (by omega) (by omega) (by omega) kx)))
            | (rw [show sM1 (A w) g r u v z a b c = 0 by simp only [sM1]; rw [if_neg (n90 (by omega))]] at kx
               first
               | (rw [if_pos (by omega)] at kx; exact g_locs (by exact ⟨rfl, rfl, rfl, rfl, rfl, rfl, rfl, rfl, rfl, rfl, trivial⟩) (ih (m - 1) (z + 1) _ (by omega) (by omega) (by omega) (by omega) kx))
               | (rw [if_neg (by omega)] at kx; exact g_locs (by exact ⟨rfl, rfl, rfl, rfl, rfl, rfl, rfl, rfl, rfl, rfl, trivial⟩) (ih (m - 1) (z + 1) _ (by omega) (by omega) (by omega) (by omega) kx)))
        · refine g_aload_n dX13_most_96 rfl rfl ?_
          refine g_iload dX13_most_97 rfl ?_
          refine g_iload dX13_most_99 rfl ?_
          refine g_iload dX13_most_101 rfl ?_
          refine g_iload_n dX13_most_103 rfl rfl ?_
          refine g_iload dX13_most_104 rfl ?_
          refine g_iload dX13_most_106 rfl ?_
          refine g_callVp (i := 10) rfl (gK0 (by assumption)) (g_at10 (by assumption)) (k_M_made Y hM h0 hm _ _ _ _ _ _ (by omega) (by omega) (by omega) (by omega) (by omega) (by omega)) u_X13_made mw_1457 dX13_most_108 rfl rfl ⟨Nat.le_of_ble_eq_true rfl, Nat.le_of_ble_eq_true rfl⟩ ⟨Nat.le_of_ble_eq_true rfl, Nat.le_of_ble_eq_true rfl⟩ (Nat.le_of_ble_eq_true rfl) ?_
          have hr108 := sMadeL_range (w := A w) (x := u) (y := v) (z := z) (a := a) (b := b) (c := c) (A w 1614).toNat 0 1
          rw [show sMadeL (A w) u v z a b c (A w 1614).toNat 0 1 = sMade (A w) u v z a b c from rfl] at hr108
          refine g_goto (tgt := 115) dX13_most_111 (by decide) ?_
          refine g_istore dX13_most_115 (by decide) ?_
          refine g_iload dX13_most_117 rfl ?_
          refine g_iload dX13_most_119 rfl ?_
          refine g_icmp_le (tgt := 129) dX13_most_121 (by decide) (by first | omega | exact m64 (hB _)) (by first | omega | exact m64 (hB _)) (fun c_121 => ?_) (fun c_121 => ?_)
          · refine g_iload dX13_most_129 rfl ?_
            refine g_istore dX13_most_131 (by decide) ?_
            refine g_iinc dX13_most_133 rfl (by decide) ?_
            refine g_goto (tgt := 53) dX13_most_136 (by decide) ?_
            have hV : sIs (A w) g r v = true := p73 (by omega)
            rw [sMz_step (by omega) ⟨hV, by omega⟩] at kx
            first
            | (rw [show sM1 (A w) g r u v z a b c = sMade (A w) u v z a b c by simp only [sM1]; rw [if_pos (p90 (by omega))]] at kx
               first
               | (rw [if_pos (by omega)] at kx; exact g_locs (by exact ⟨rfl, rfl, rfl, rfl, rfl, rfl, rfl, rfl, rfl, rfl, trivial⟩) (ih (m - 1) (z + 1) _ (by omega) (by omega) (by omega) (by omega) kx))
               | (rw [if_neg (by omega)] at kx; exact g_locs (by exact ⟨rfl, rfl, rfl, rfl, rfl, rfl, rfl, rfl, rfl, rfl, trivial⟩) (ih (m - 1) (z + 1) _ (by omega) (by omega) (by omega) (by omega) kx)))
            | (rw [show sM1 (A w) g r u v z a b c = 0 by simp only [sM1]; rw [if_neg (n90 (by omega))]] at kx
               first
               | (rw [if_pos (by omega)] at kx; exact g_locs (by exact ⟨rfl, rfl, rfl, rfl, rfl, rfl, rfl, rfl, rfl, rfl, trivial⟩) (ih (m - 1) (z + 1) _ (by omega) (by omega) (by omega) (by omega) kx))
               | (rw [if_neg (by omega)] at kx; exact g_locs (by exact ⟨rfl, rfl, rfl, rfl, rfl, rfl, rfl, rfl, rfl, rfl, trivial⟩) (ih (m - 1) (z + 1) _ (by omega) (by omega) (by omega) (by omega) kx)))
          · refine g_iload dX13_most_124 rfl ?_
            refine g_goto (tgt := 131) dX13_most_126 (by decide) ?_
            refine g_istore dX13_most_131 (by decide) ?_
            refine g_iinc dX13_most_133 rfl (by decide) ?_
            refine g_goto (tgt := 53) dX13_most_136 (by decide) ?_
            have hV : sIs (A w) g r v = true := p73 (by omega)
            rw [sMz_step (by omega) ⟨hV, by omega⟩] at kx
            first
            | (rw [show sM1 (A w) g r u v z a b c = sMade (A w) u v z a b c by simp only [sM1]; rw [if_pos (p90 (by omega))]] at kx
               first
               | (rw [if_pos (by omega)] at kx; exact g_locs (by exact ⟨rfl, rfl, rfl, rfl, rfl, rfl, rfl, rfl, rfl, rfl, trivial⟩) (ih (m - 1) (z + 1) _ (by omega) (by omega) (by omega) (by omega) kx))
               | (rw [if_neg (by omega)] at kx; exact g_locs (by exact ⟨rfl, rfl, rfl, rfl, rfl, rfl, rfl, rfl, rfl, rfl, trivial⟩) (ih (m - 1) (z + 1) _ (by omega) (by omega) (by omega) (by omega) kx)))
            | (rw [show sM1 (A w) g r u v z a b c = 0 by simp only [sM1]; rw [if_neg (n90 (by omega))]] at kx
               first
               | (rw [if_pos (by omega)] at kx; exact g_locs (by exact ⟨rfl, rfl, rfl, rfl, rfl, rfl, rfl, rfl, rfl, rfl, trivial⟩) (ih (m - 1) (z + 1) _ (by omega) (by omega) (by omega) (by omega) kx))
               | (rw [if_neg (by omega)] at kx; exact g_locs (by exact ⟨rfl, rfl, rfl, rfl, rfl, rfl, rfl, rfl, rfl, rfl, trivial⟩) (ih (m - 1) (z + 1) _ (by omega) (by omega) (by omega) (by omega) kx)))
set_option maxHeartbeats 4000000 in
set_option maxRecDepth 100000 in
theorem lp_M_most2 {Y : gEnv} {X : gCtx} {K N : Nat → Nat} {I : Nat → Nat → Int} {A : Nat → Int → Int} {R : Nat → Nat → Option Nat} {Q : Nat → Int → Option Nat} {po : gPo} {px : gPx} {x w sv tx ag : Nat} (hM : mS K N R x w sv tx ag) (h0 : iN (A w)) (hm : mT (A w)) (g r a b c : Int) (hg : 0 ≤ g ∧ g ≤ 3) (hr : 1 ≤ r ∧ r ≤ 2) (ha : 1 ≤ a ∧ a ≤ 100000) (hb : 1 ≤ b ∧ b ≤ 100000) (hc : 1 ≤ c ∧ c ≤ 100000) (u : Int) (hu : -1 ≤ u ∧ u < 160) : ∀ (f m : Nat) (v t : Int), m < f → -1 ≤ v → v + m = A w 1614 → 0 ≤ t ∧ t ≤ 3 → gJ Y X yX13_most cX13_most 11 (some .int) ({ frames := 1, cells := 0, slots := 0, locals := 30 } : Room) po px 0 0 145 [(0, .ref x), (1, vi g), (2, vi r), (3, vi a), (4, vi b), (5, vi c), (6, vi (sMy (A w) g r u a b c (A w 1614 + 1).toNat m v t)), (7, vi u)] [] K N I A R Q → gJ Y X yX13_most cX13_most 11 (some .int) ({ frames := 1, cells := 0, slots := 0, locals := 30 } : Room) po px 0 0 24 [(0, .ref x), (1, vi g), (2, vi r), (3, vi a), (4, vi b), (5, vi c), (6, vi t), (7, vi u), (8, vi v)] [] K N I A R Q := by
  obtain ⟨hKx, hRw, hRs, hRt, hRa, hKw, hNw, hKs, hNs, hKt, hNt, hKa, hNa, hta⟩ := id hM
  have hB : mB (A w) := hm.mB
  have n14 : 0 ≤ A w 1614 ∧ A w 1614 ≤ 160 := ⟨h0.2.2.2.2.1.1, h0.2.2.2.2.1.2.1⟩
  have n15 : 0 ≤ A w 1615 ∧ A w 1615 ≤ 40 := ⟨h0.2.2.2.2.2.1.1, h0.2.2.2.2.2.1.2.1⟩
  have n13 : 0 ≤ A w 1613 ∧ A w 1613 ≤ 80 := ⟨h0.2.2.2.1.1, h0.2.2.2.1.2.1⟩
  have n16 : 0 ≤ A w 1616 ∧ A w 1616 ≤ 20 := h0.2.2.2.2.2.2.2
  have nG := h0.1
  have nO := h0.2.1
  have nS := h0.2.2.2.2.2.2.1
  have nL := h0.2.2.2.2.1.2.2.1

  intro f
  induction f with
  | zero => intro m v t h; omega
  | succ f ih =>
  intro m v t hf hv hmv ht kx
  refine g_iload dX13_most_24 rfl ?_
  refine g_i2l dX13_most_26 (by first | omega | exact m64 (hB _)) ?_
  refine g_aload_n dX13_most_27 rfl rfl ?_
  refine g_get_Model_w dX13_most_28 mw_1155 (by assumption) (by assumption) ?_
  refine g_sipush dX13_most_31 (by decide) ?_
  refine g_laload dX13_most_34 (by assumption) (by omega) (by omega) ?_
  refine g_lcmp_ge (tgt := 145) dX13_most_35 dX13_most_36 (by decide) (by first | omega | exact m64 (hB _)) (by first | omega | exact m64 (hB _)) (fun c_35 => ?_) (fun c_35 => ?_)
  · first
    | (rw [sMy_stop (by omega)] at kx; exact g_locs (by exact ⟨rfl, rfl, rfl, rfl, rfl, rfl, rfl, rfl, trivial⟩) kx)
    | (rw [sMy_out (n44 (by omega))] at kx; exact g_locs (by exact ⟨rfl, rfl, rfl, rfl, rfl, rfl, rfl, rfl, trivial⟩) kx)
  · refine g_aload_n dX13_most_39 rfl rfl ?_
    refine g_iload dX13_most_40 rfl ?_
    refine g_iload_n dX13_most_42 rfl rfl ?_
    refine g_iload_n dX13_most_43 rfl rfl ?_
    refine g_callVp (i := 10) rfl (gK0 (by assumption)) (g_at10 (by assumption)) (k_M_isOf Y hM hB _ _ _ (by omega) (by omega) (by omega)) u_X13_isOf mw_1453 dX13_most_44 rfl rfl ⟨Nat.le_of_ble_eq_true rfl, Nat.le_of_ble_eq_true rfl⟩ ⟨Nat.le_of_ble_eq_true rfl, Nat.le_of_ble_eq_true rfl⟩ (Nat.le_of_ble_eq_true rfl) ?_
    obtain ⟨b44, p44, n44⟩ := ifd2 (sIs (A w) g r u = true)
    generalize (if sIs (A w) g r u = true then (1 : Int) else 0) = z44 at b44 p44 n44 ⊢
    refine g_if_eq (tgt := 145) dX13_most_47 (by decide) (by first | omega | exact m64 (hB _)) (fun c_47 => ?_) (fun c_47 => ?_)
    · first
      | (rw [sMy_stop (by omega)] at kx; exact g_locs (by exact ⟨rfl, rfl, rfl, rfl, rfl, rfl, rfl, rfl, trivial⟩) kx)
      | (rw [sMy_out (n44 (by omega))] at kx; exact g_locs (by exact ⟨rfl, rfl, rfl, rfl, rfl, rfl, rfl, rfl, trivial⟩) kx)
    · refine g_iconst dX13_most_50 ?_
      refine g_istore dX13_most_51 (by decide) ?_
      have hvl : v < A w 1614 := by omega
      have hU : sIs (A w) g r u = true := p44 (by omega)
      rw [sMy_step (by omega) hU] at kx
      refine g_locs (by exact ⟨rfl, rfl, rfl, rfl, rfl, rfl, rfl, rfl, rfl, rfl, trivial⟩) (lp_M_most1 hM h0 hm g r a b c hg hr ha hb hc u v hu (by omega) _ (A w 1614 + 1).toNat (-1) t (Nat.lt_succ_self _) (by omega) (by omega) ht ?_)
      have hrr := sMz_range (w := A w) (g := g) (r := r) (x := u) (y := v) (a := a) (b := b) (c := c) (A w 1614 + 1).toNat (-1) t ht
      refine g_iinc dX13_most_139 rfl (by decide) ?_
      refine g_goto (tgt := 24) dX13_most_142 (by decide) ?_
      exact g_locs (by exact ⟨rfl, rfl, rfl, rfl, rfl, rfl, rfl, rfl, rfl, trivial⟩) (ih (m - 1) (v + 1) _ (by omega) (by omega) (by omega) hrr kx)
set_option maxHeartbeats 4000000 in
set_option maxRecDepth 100000 in
theorem lp_M_most3 {Y : gEnv} {X : gCtx} {K N : Nat → Nat} {I : Nat → Nat → Int} {A : Nat → Int → Int} {R : Nat → Nat → Option Nat} {Q : Nat → Int → Option Nat} {x w sv tx ag : Nat} (hM : mS K N R x w sv tx ag) (h0 : iN (A w)) (hm : mT (A w)) (g r a b c : Int) (hg : 0 ≤ g ∧ g ≤ 3) (hr : 1 ≤ r ∧ r ≤ 2) (ha : 1 ≤ a ∧ a ≤ 100000) (hb : 1 ≤ b ∧ b ≤ 100000) (hc : 1 ≤ c ∧ c ≤ 100000) : ∀ (f m : Nat) (u t : Int), m < f → -1 ≤ u → u + m = A w 1614 → 0 ≤ t ∧ t ≤ 3 → gJ Y X yX13_most cX13_most 11 (some .int) ({ frames := 1, cells := 0, slots := 0, locals := 30 } : Room) (g_pu (some (vi (sMx (A w) g r a b c (A w 1614 + 1).toNat m u t))) K N I A R Q) gno 0 0 6 [(0, .ref x), (1, vi g), (2, vi r), (3, vi a), (4, vi b), (5, vi c), (6, vi t), (7, vi u)] [] K N I A R Q := by
  obtain ⟨hKx, hRw, hRs, hRt, hRa, hKw, hNw, hKs, hNs, hKt, hNt, hKa, hNa, hta⟩ := id hM
  have hB : mB (A w) := hm.mB
  have n14 : 0 ≤ A w 1614 ∧ A w 1614 ≤ 160 := ⟨h0.2.2.2.2.1.1, h0.2.2.2.2.1.2.1⟩
  have n15 : 0 ≤ A w 1615 ∧ A w 1615 ≤ 40 := ⟨h0.2.2.2.2.2.1.1, h0.2.2.2.2.2.1.2.1⟩
  have n13 : 0 ≤ A w 1613 ∧ A w 1613 ≤ 80 := ⟨h0.2.2.2.1.1, h0.2.2.2.1.2.1⟩
  have n16 : 0 ≤ A w 1616 ∧ A w 1616 ≤ 20 := h0.2.2.2.2.2.2.2
  have nG := h0.1
  have nO := h0.2.1
  have nS := h0.2.2.2.2.2.2.1
  have nL := h0.2.2.2.2.1.2.2.1

  intro f
  induction f with
  | zero => intro m u t h; omega
  | succ f ih =>
  intro m u t hf hu hmu ht
  refine g_iload dX13_most_6 rfl ?_
  refine g_i2l dX13_most_8 (by first | omega | exact m64 (hB _)) ?_
  refine g_aload_n dX13_most_9 rfl rfl ?_
  refine g_get_Model_w dX13_most_10 mw_1155 (by assumption) (by assumption) ?_
  refine g_sipush dX13_most_13 (by decide) ?_
  refine g_laload dX13_most_16 (by assumption) (by omega) (by omega) ?_
  refine g_lcmp_ge (tgt := 151) dX13_most_17 dX13_most_18 (by decide) (by first | omega | exact m64 (hB _)) (by first | omega | exact m64 (hB _)) (fun c_17 => ?_) (fun c_17 => ?_)
  · refine g_iload dX13_most_151 rfl ?_
    exact g_iret dX13_most_153 rfl (by decide) (by decide) (g_pu_i (by rw [sMx_stop (by omega)]) _ _ _ _ _ _)
  · refine g_iconst dX13_most_21 ?_
    refine g_istore dX13_most_22 (by decide) ?_
    rw [sMx_step (by omega)]
    refine g_locs (by exact ⟨rfl, rfl, rfl, rfl, rfl, rfl, rfl, rfl, rfl, trivial⟩) (lp_M_most2 hM h0 hm g r a b c hg hr ha hb hc u (by omega) _ (A w 1614 + 1).toNat (-1) t (Nat.lt_succ_self _) (by omega) (by omega) ht ?_)
    have hrr := sMy_range (w := A w) (g := g) (r := r) (x := u) (a := a) (b := b) (c := c) (N := (A w 1614 + 1).toNat) (A w 1614 + 1).toNat (-1) t ht
    refine g_iinc dX13_most_145 rfl (by decide) ?_
    refine g_goto (tgt := 6) dX13_most_148 (by decide) ?_
    exact g_locs (by exact ⟨rfl, rfl, rfl, rfl, rfl, rfl, rfl, rfl, trivial⟩) (ih (m - 1) (u + 1) _ (by omega) (by omega) (by omega) hrr)
set_option maxHeartbeats 4000000 in
set_option maxRecDepth 100000 in
theorem k_M_most (Y : gEnv) {K N : Nat → Nat} {I : Nat → Nat → Int} {A : Nat → Int → Int} {R : Nat → Nat → Option Nat} {Q : Nat → Int → Option Nat} {x w sv tx ag : Nat} (hM : mS K N R x w sv tx ag) (h0 : iN (A w)) (hm : mT (A w)) (g r a b c : Int) (hg : 0 ≤ g ∧ g ≤ 3) (hr : 1 ≤ r ∧ r ≤ 2) (ha : 1 ≤ a ∧ a ≤ 100000) (hb : 1 ≤ b ∧ b ≤ 100000) (hc : 1 ≤ c ∧ c ≤ 100000) : gC Y yX13_most cX13_most 11 (some .int) ({ frames := 1, cells := 0, slots := 0, locals := 30 } : Room) [.ref x, vi g, vi r, vi a, vi b, vi c] K N I A R Q (g_pu (some (vi (sMost (A w) g r a b c))) K N I A R Q) gno := by
  refine gC_of (by decide) (Nat.le_of_ble_eq_true rfl) (fun X => ?_)
  have h14 := h0.2.2.2.2.1.1
  refine g_iconst dX13_most_0 ?_
  refine g_istore dX13_most_1 (by decide) ?_
  refine g_iconst dX13_most_3 ?_
  refine g_istore dX13_most_4 (by decide) ?_
  exact g_locs (by exact ⟨rfl, rfl, rfl, rfl, rfl, rfl, rfl, rfl, trivial⟩) (lp_M_most3 hM h0 hm g r a b c hg hr ha hb hc _ _ (-1) 0 (Nat.lt_succ_self _) (by omega) (by omega) (by omega))
set_option maxHeartbeats 4000000 in
set_option maxRecDepth 100000 in
theorem k_M_possible (Y : gEnv) {K N : Nat → Nat} {I : Nat → Nat → Int} {A : Nat → Int → Int} {R : Nat → Nat → Option Nat} {Q : Nat → Int → Option Nat} {x w sv tx ag : Nat} (hM : mS K N R x w sv tx ag) (h0 : iN (A w)) (hm : mT (A w)) (g : Int) (r : Int) (a : Int) (b : Int) (c : Int) (hg : (-2147483648 ≤ g ∧ g ≤ 2147483647)) (hr : (-2147483648 ≤ r ∧ r ≤ 2147483647)) (ha : (-2147483648 ≤ a ∧ a ≤ 2147483647)) (hb : (-2147483648 ≤ b ∧ b ≤ 2147483647)) (hc : (-2147483648 ≤ c ∧ c ≤ 2147483647)) : gC Y yX13_possible cX13_possible 6 (some .int) ({ frames := 2, cells := 0, slots := 0, locals := 60 } : Room) [.ref x, vi g, vi r, vi a, vi b, vi c] K N I A R Q (g_wr K N R Q (fun v I' A' => mRdP I A x (if ¬ (0 ≤ g ∧ g ≤ 3) then 1 else if ¬ ((1 ≤ r ∧ r ≤ 2) ∧ (1 ≤ a ∧ a ≤ 100000) ∧ (1 ≤ b ∧ b ≤ 100000) ∧ (1 ≤ c ∧ c ≤ 100000)) then 2 else 0) (sMost (A w) g r a b c) v I' A')) gno := by
  refine gC_of (by decide) (Nat.le_of_ble_eq_true rfl) (fun X => ?_)
  obtain ⟨hKx, hRw, hRs, hRt, hRa, hKw, hNw, hKs, hNs, hKt, hNt, hKa, hNa, hta⟩ := id hM
  have hB : mB (A w) := hm.mB
  have n14 : 0 ≤ A w 1614 ∧ A w 1614 ≤ 160 := ⟨h0.2.2.2.2.1.1, h0.2.2.2.2.1.2.1⟩
  have n15 : 0 ≤ A w 1615 ∧ A w 1615 ≤ 40 := ⟨h0.2.2.2.2.2.1.1, h0.2.2.2.2.2.1.2.1⟩
  have n13 : 0 ≤ A w 1613 ∧ A w 1613 ≤ 80 := ⟨h0.2.2.2.1.1, h0.2.2.2.1.2.1⟩
  have n16 : 0 ≤ A w 1616 ∧ A w 1616 ≤ 20 := h0.2.2.2.2.2.2.2
  have nG := h0.1
  have nO := h0.2.1
  have nS := h0.2.2.2.2.2.2.1
  have nL := h0.2.2.2.2.1.2.2.1
  refine g_aload_n dX13_possible_0 rfl rfl ?_
  refine g_iconst dX13_possible_1 ?_
  refine g_put_Model_thrown dX13_possible_2 mw_1161 (by assumption) (fun I2 hI2 => ?_)
  refine g_iload_n dX13_possible_5 rfl rfl ?_
  refine g_callSp (k_M_isGlaze Y _ (by omega)) u_X13_isGlaze mw_1195 rfl dX13_possible_6 rfl rfl ⟨Nat.le_of_ble_eq_true rfl, Nat.le_of_ble_eq_true rfl⟩ ⟨Nat.le_of_ble_eq_true rfl, Nat.le_of_ble_eq_true rfl⟩ (Nat.le_of_ble_eq_true rfl) ?_
  have b6 := ifd (0 ≤ g ∧ g ≤ 3)
  generalize (if 0 ≤ g ∧ g ≤ 3 then (1 : Int) else 0) = z6 at b6 ⊢
  refine g_if_ne (tgt := 18) dX13_possible_9 (by decide) (by first | omega | exact m64 (hB _)) (fun c_9 => ?_) (fun c_9 => ?_)
  · refine g_iload_n dX13_possible_18 rfl rfl ?_
    refine g_callSp (k_M_isGrade Y _ (by omega)) u_X13_isGrade mw_1320 rfl dX13_possible_19 rfl rfl ⟨Nat.le_of_ble_eq_true rfl, Nat.le_of_ble_eq_true rfl⟩ ⟨Nat.le_of_ble_eq_true rfl, Nat.le_of_ble_eq_true rfl⟩ (Nat.le_of_ble_eq_true rfl) ?_
    have b19 := ifd (1 ≤ r ∧ r ≤ 2)
    generalize (if 1 ≤ r ∧ r ≤ 2 then (1 : Int) else 0) = z19 at b19 ⊢
    refine g_if_eq (tgt := 62) dX13_possible_22 (by decide) (by first | omega | exact m64 (hB _)) (fun c_22 => ?_) (fun c_22 => ?_)
    · refine g_aload_n dX13_possible_62 rfl rfl ?_
      refine g_iconst dX13_possible_63 ?_
      refine g_callVw (i := 10) rfl (gK0 (by assumption)) (g_at10 (by assumption)) (k_M_refuse Y hM _) u_X13_refuse mw_1202 dX13_possible_64 rfl rfl ⟨Nat.le_of_ble_eq_true rfl, Nat.le_of_ble_eq_true rfl⟩ ⟨Nat.le_of_ble_eq_true rfl, Nat.le_of_ble_eq_true rfl⟩ (Nat.le_of_ble_eq_true rfl) (fun v64 I64 A64 h64 => ?_)
      obtain ⟨rfl, e64, f64⟩ := h64
      exact g_iret dX13_possible_67 rfl (by decide) (by decide) (by first | exact ⟨rfl, rfl, rfl, rfl, mRdP.yes (by first | (rw [if_pos (by omega)]; done) | (rw [if_neg (by omega), if_pos (by omega)]; done) | (rw [if_neg (by omega)]; done) | (rw [if_neg (by omega), if_neg (by omega), if_pos (by omega)]; done) | (rw [if_neg (by omega), if_neg (by omega)]; done) | (rw [if_neg (by omega), if_neg (by omega), if_neg (by omega), if_pos (by omega)]; done) | (rw [if_neg (by omega), if_neg (by omega), if_neg (by omega)]; done) | omega | rfl) hI2 rfl⟩ | exact ⟨rfl, rfl, rfl, rfl, by rw [f64]; exact mRdP.no hI2 e64 (by first | (rw [if_pos (by omega)]; done) | (rw [if_neg (by omega), if_pos (by omega)]; done) | (rw [if_neg (by omega)]; done) | (rw [if_neg (by omega), if_neg (by omega), if_pos (by omega)]; done) | (rw [if_neg (by omega), if_neg (by omega)]; done) | (rw [if_neg (by omega), if_neg (by omega), if_neg (by omega), if_pos (by omega)]; done) | (rw [if_neg (by omega), if_neg (by omega), if_neg (by omega)]; done) | omega | rfl) (by omega)⟩)
    · refine g_iload_n dX13_possible_25 rfl rfl ?_
      refine g_callSp (k_M_isMany Y _ (by omega)) u_X13_isMany mw_1323 rfl dX13_possible_26 rfl rfl ⟨Nat.le_of_ble_eq_true rfl, Nat.le_of_ble_eq_true rfl⟩ ⟨Nat.le_of_ble_eq_true rfl, Nat.le_of_ble_eq_true rfl⟩ (Nat.le_of_ble_eq_true rfl) ?_
      have b26 := ifd (1 ≤ a ∧ a ≤ 100000)
      generalize (if 1 ≤ a ∧ a ≤ 100000 then (1 : Int) else 0) = z26 at b26 ⊢
      refine g_if_eq (tgt := 62) dX13_possible_29 (by decide) (by first | omega | exact m64 (hB _)) (fun c_29 => ?_) (fun c_29 => ?_)
      · refine g_aload_n dX13_possible_62 rfl rfl ?_
        refine g_iconst dX13_possible_63 ?_
        refine g_callVw (i := 10) rfl (gK0 (by assumption)) (g_at10 (by assumption)) (k_M_refuse Y hM _) u_X13_refuse mw_1202 dX13_possible_64 rfl rfl ⟨Nat.le_of_ble_eq_true rfl, Nat.le_of_ble_eq_true rfl⟩ ⟨Nat.le_of_ble_eq_true rfl, Nat.le_of_ble_eq_true rfl⟩ (Nat.le_of_ble_eq_true rfl) (fun v64 I64 A64 h64 => ?_)
        obtain ⟨rfl, e64, f64⟩ := h64
        exact g_iret dX13_possible_67 rfl (by decide) (by decide) (by first | exact ⟨rfl, rfl, rfl, rfl, mRdP.yes (by first | (rw [if_pos (by omega)]; done) | (rw [if_neg (by omega), if_pos (by omega)]; done) | (rw [if_neg (by omega)]; done) | (rw [if_neg (by omega), if_neg (by omega), if_pos (by omega)]; done) | (rw [if_neg (by omega), if_neg (by omega)]; done) | (rw [if_neg (by omega), if_neg (by omega), if_neg (by omega), if_pos (by omega)]; done) | (rw [if_neg (by omega), if_neg (by omega), if_neg (by omega)]; done) | omega | rfl) hI2 rfl⟩ | exact ⟨rfl, rfl, rfl, rfl, by rw [f64]; exact mRdP.no hI2 e64 (by first | (rw [if_pos (by omega)]; done) | (rw [if_neg (by omega), if_pos (by omega)]; done) | (rw [if_neg (by omega)]; done) | (rw [if_neg (by omega), if_neg (by omega), if_pos (by omega)]; done) | (rw [if_neg (by omega), if_neg (by omega)]; done) | (rw [if_neg (by omega), if_neg (by omega), if_neg (by omega), if_pos (by omega)]; done) | (rw [if_neg (by omega), if_neg (by omega), if_neg (by omega)]; done) | omega | rfl) (by omega)⟩)
      · refine g_iload dX13_possible_32 rfl ?_
        refine g_callSp (k_M_isMany Y _ (by omega)) u_X13_isMany mw_1323 rfl dX13_possible_34 rfl rfl ⟨Nat.le_of_ble_eq_true rfl, Nat.le_of_ble_eq_true rfl⟩ ⟨Nat.le_of_ble_eq_true rfl, Nat.le_of_ble_eq_true rfl⟩ (Nat.le_of_ble_eq_true rfl) ?_
        have b34 := ifd (1 ≤ b ∧ b ≤ 100000)
        generalize (if 1 ≤ b ∧ b ≤ 100000 then (1 : Int) else 0) = z34 at b34 ⊢
        refine g_if_eq (tgt := 62) dX13_possible_37 (by decide) (by first | omega | exact m64 (hB _)) (fun c_37 => ?_) (fun c_37 => ?_)
        · refine g_aload_n dX13_possible_62 rfl rfl ?_
          refine g_iconst dX13_possible_63 ?_
          refine g_callVw (i := 10) rfl (gK0 (by assumption)) (g_at10 (by assumption)) (k_M_refuse Y hM _) u_X13_refuse mw_1202 dX13_possible_64 rfl rfl ⟨Nat.le_of_ble_eq_true rfl, Nat.le_of_ble_eq_true rfl⟩ ⟨Nat.le_of_ble_eq_true rfl, Nat.le_of_ble_eq_true rfl⟩ (Nat.le_of_ble_eq_true rfl) (fun v64 I64 A64 h64 => ?_)
          obtain ⟨rfl, e64, f64⟩ := h64
          exact g_iret dX13_possible_67 rfl (by decide) (by decide) (by first | exact ⟨rfl, rfl, rfl, rfl, mRdP.yes (by first | (rw [if_pos (by omega)]; done) | (rw [if_neg (by omega), if_pos (by omega)]; done) | (rw [if_neg (by omega)]; done) | (rw [if_neg (by omega), if_neg (by omega), if_pos (by omega)]; done) | (rw [if_neg (by omega), if_neg (by omega)]; done) | (rw [if_neg (by omega), if_neg (by omega), if_neg (by omega), if_pos (by omega)]; done) | (rw [if_neg (by omega), if_neg (by omega), if_neg (by omega)]; done) | omega | rfl) hI2 rfl⟩ | exact ⟨rfl, rfl, rfl, rfl, by rw [f64]; exact mRdP.no hI2 e64 (by first | (rw [if_pos (by omega)]; done) | (rw [if_neg (by omega), if_pos (by omega)]; done) | (rw [if_neg (by omega)]; done) | (rw [if_neg (by omega), if_neg (by omega), if_pos (by omega)]; done) | (rw [if_neg (by omega), if_neg (by omega)]; done) | (rw [if_neg (by omega), if_neg (by omega), if_neg (by omega), if_pos (by omega)]; done) | (rw [if_neg (by omega), if_neg (by omega), if_neg (by omega)]; done) | omega | rfl) (by omega)⟩)
        · refine g_iload dX13_possible_40 rfl ?_
          refine g_callSp (k_M_isMany Y _ (by omega)) u_X13_isMany mw_1323 rfl dX13_possible_42 rfl rfl ⟨Nat.le_of_ble_eq_true rfl, Nat.le_of_ble_eq_true rfl⟩ ⟨Nat.le_of_ble_eq_true rfl, Nat.le_of_ble_eq_true rfl⟩ (Nat.le_of_ble_eq_true rfl) ?_
          have b42 := ifd (1 ≤ c ∧ c ≤ 100000)
          generalize (if 1 ≤ c ∧ c ≤ 100000 then (1 : Int) else 0) = z42 at b42 ⊢
          refine g_if_eq (tgt := 62) dX13_possible_45 (by decide) (by first | omega | exact m64 (hB _)) (fun c_45 => ?_) (fun c_45 => ?_)
          · refine g_aload_n dX13_possible_62 rfl rfl ?_
            refine g_iconst dX13_possible_63 ?_
            refine g_callVw (i := 10) rfl (gK0 (by assumption)) (g_at10 (by assumption)) (k_M_refuse Y hM _) u_X13_refuse mw_1202 dX13_possible_64 rfl rfl ⟨Nat.le_of_ble_eq_true rfl, Nat.le_of_ble_eq_true rfl⟩ ⟨Nat.le_of_ble_eq_true rfl, Nat.le_of_ble_eq_true rfl⟩ (Nat.le_of_ble_eq_true rfl) (fun v64 I64 A64 h64 => ?_)
            obtain ⟨rfl, e64, f64⟩ := h64
            exact g_iret dX13_possible_67 rfl (by decide) (by decide) (by first | exact ⟨rfl, rfl, rfl, rfl, mRdP.yes (by first | (rw [if_pos (by omega)]; done) | (rw [if_neg (by omega), if_pos (by omega)]; done) | (rw [if_neg (by omega)]; done) | (rw [if_neg (by omega), if_neg (by omega), if_pos (by omega)]; done) | (rw [if_neg (by omega), if_neg (by omega)]; done) | (rw [if_neg (by omega), if_neg (by omega), if_neg (by omega), if_pos (by omega)]; done) | (rw [if_neg (by omega), if_neg (by omega), if_neg (by omega)]; done) | omega | rfl) hI2 rfl⟩ | exact ⟨rfl, rfl, rfl, rfl, by rw [f64]; exact mRdP.no hI2 e64 (by first | (rw [if_pos (by omega)]; done) | (rw [if_neg (by omega), if_pos (by omega)]; done) | (rw [if_neg (by omega)]; done) | (rw [if_neg (by omega), if_neg (by omega), if_pos (by omega)]; done) | (rw [if_neg (by omega), if_neg (by omega)]; done) | (rw [if_neg (by omega), if_neg (by omega), if_neg (by omega), if_pos (by omega)]; done) | (rw [if_neg (by omega), if_neg (by omega), if_neg (by omega)]; done) | omega | rfl) (by omega)⟩)
          · refine g_aload_n dX13_possible_48 rfl rfl ?_
            refine g_iload_n dX13_possible_49 rfl rfl ?_
            refine g_iload_n dX13_possible_50 rfl rfl ?_
            refine g_iload_n dX13_possible_51 rfl rfl ?_
            refine g_iload dX13_possible_52 rfl ?_
            refine g_iload dX13_possible_54 rfl ?_
            refine g_callVp (i := 10) rfl (gK0 (by assumption)) (g_at10 (by assumption)) (k_M_most Y hM h0 hm _ _ _ _ _ (by omega) (by omega) (by omega) (by omega) (by omega)) u_X13_most mw_1449 dX13_possible_56 rfl rfl ⟨Nat.le_of_ble_eq_true rfl, Nat.le_of_ble_eq_true rfl⟩ ⟨Nat.le_of_ble_eq_true rfl, Nat.le_of_ble_eq_true rfl⟩ (Nat.le_of_ble_eq_true rfl) ?_
            refine g_goto (tgt := 67) dX13_possible_59 (by decide) ?_
            exact g_iret dX13_possible_67 rfl (by decide) (by decide) (by first | exact ⟨rfl, rfl, rfl, rfl, mRdP.yes (by first | (rw [if_pos (by omega)]; done) | (rw [if_neg (by omega), if_pos (by omega)]; done) | (rw [if_neg (by omega)]; done) | (rw [if_neg (by omega), if_neg (by omega), if_pos (by omega)]; done) | (rw [if_neg (by omega), if_neg (by omega)]; done) | (rw [if_neg (by omega), if_neg (by omega), if_neg (by omega), if_pos (by omega)]; done) | (rw [if_neg (by omega), if_neg (by omega), if_neg (by omega)]; done) | omega | rfl) hI2 rfl⟩ | exact ⟨rfl, rfl, rfl, rfl, by rw [f64]; exact mRdP.no hI2 e64 (by first | (rw [if_pos (by omega)]; done) | (rw [if_neg (by omega), if_pos (by omega)]; done) | (rw [if_neg (by omega)]; done) | (rw [if_neg (by omega), if_neg (by omega), if_pos (by omega)]; done) | (rw [if_neg (by omega), if_neg (by omega)]; done) | (rw [if_neg (by omega), if_neg (by omega), if_neg (by omega), if_pos (by omega)]; done) | (rw [if_neg (by omega), if_neg (by omega), if_neg (by omega)]; done) | omega | rfl) (by omega)⟩)
  · refine g_aload_n dX13_possible_12 rfl rfl ?_
    refine g_iconst dX13_possible_13 ?_
    refine g_callVw (i := 10) rfl (gK0 (by assumption)) (g_at10 (by assumption)) (k_M_refuse Y hM _) u_X13_refuse mw_1202 dX13_possible_14 rfl rfl ⟨Nat.le_of_ble_eq_true rfl, Nat.le_of_ble_eq_true rfl⟩ ⟨Nat.le_of_ble_eq_true rfl, Nat.le_of_ble_eq_true rfl⟩ (Nat.le_of_ble_eq_true rfl) (fun v14 I14 A14 h14 => ?_)
    obtain ⟨rfl, e14, f14⟩ := h14
    exact g_iret dX13_possible_17 rfl (by decide) (by decide) ⟨rfl, rfl, rfl, rfl, by rw [f14]; exact mRdP.no hI2 e14 (by first | (rw [if_pos (by omega)]; done) | (rw [if_neg (by omega), if_pos (by omega)]; done) | (rw [if_neg (by omega)]; done) | (rw [if_neg (by omega), if_neg (by omega), if_pos (by omega)]; done) | (rw [if_neg (by omega), if_neg (by omega)]; done) | (rw [if_neg (by omega), if_neg (by omega), if_neg (by omega), if_pos (by omega)]; done) | (rw [if_neg (by omega), if_neg (by omega), if_neg (by omega)]; done) | omega | rfl) (by omega)⟩
set_option maxHeartbeats 4000000 in
set_option maxRecDepth 100000 in
theorem lp_M_wouldHide {Y : gEnv} {X : gCtx} {K N : Nat → Nat} {I : Nat → Nat → Int} {A : Nat → Int → Int} {R : Nat → Nat → Option Nat} {Q : Nat → Int → Option Nat} {po : gPo} {px : gPx} {x w sv tx ag : Nat} (hM : mS K N R x w sv tx ag) (h0 : iN (A w)) (hm : mT (A w)) (p : Int) (hp : 1 ≤ p ∧ p ≤ 10) (hpo : ∀ z, z = sHideL (A w) p (A w 1613).toNat 0 → po (some (vi z)) K N I A R Q) : ∀ (f m : Nat) (l s : Int), m < f → 0 ≤ l → l + m = A w 1613 → s + sHideL (A w) p m l = sHideL (A w) p (A w 1613).toNat 0 → gJ Y X yX13_wouldHide cX13_wouldHide 5 (some .int) ({ frames := 1, cells := 0, slots := 0, locals := 26 } : Room) po px 0 0 28 [(0, .ref x), (1, vi p), (2, vl s), (4, vi l)] [] K N I A R Q := by
  obtain ⟨hKx, hRw, hRs, hRt, hRa, hKw, hNw, hKs, hNs, hKt, hNt, hKa, hNa, hta⟩ := id hM
  have hB : mB (A w) := hm.mB
  have n14 : 0 ≤ A w 1614 ∧ A w 1614 ≤ 160 := ⟨h0.2.2.2.2.1.1, h0.2.2.2.2.1.2.1⟩
  have n15 : 0 ≤ A w 1615 ∧ A w 1615 ≤ 40 := ⟨h0.2.2.2.2.2.1.1, h0.2.2.2.2.2.1.2.1⟩
  have n13 : 0 ≤ A w 1613 ∧ A w 1613 ≤ 80 := ⟨h0.2.2.2.1.1, h0.2.2.2.1.2.1⟩
  have n16 : 0 ≤ A w 1616 ∧ A w 1616 ≤ 20 := h0.2.2.2.2.2.2.2
  have nG := h0.1
  have nO := h0.2.1
  have nS := h0.2.2.2.2.2.2.1
  have nL := h0.2.2.2.2.1.2.2.1

  intro f
  induction f with
  | zero => intro m l s h; omega
  | succ f ih =>
  intro m l s hf hl hml he
  refine g_iload dX13_wouldHide_28 rfl ?_
  refine g_i2l dX13_wouldHide_30 (by first | omega | exact m64 (hB _)) ?_
  refine g_aload_n dX13_wouldHide_31 rfl rfl ?_
  refine g_get_Model_w dX13_wouldHide_32 mw_1155 (by assumption) (by assumption) ?_
  refine g_sipush dX13_wouldHide_35 (by decide) ?_
  refine g_laload dX13_wouldHide_38 (by assumption) (by omega) (by omega) ?_
  refine g_lcmp_ge (tgt := 68) dX13_wouldHide_39 dX13_wouldHide_40 (by decide) (by first | omega | exact m64 (hB _)) (by first | omega | exact m64 (hB _)) (fun c_39 => ?_) (fun c_39 => ?_)
  · refine g_lload_n dX13_wouldHide_68 rfl rfl ?_
    refine g_l2i dX13_wouldHide_69 ?_
    exact g_iret dX13_wouldHide_70 rfl (by decide) (by decide) (hpo _ (by rw [← he, sHideL, sSum_stop (by omega), Int.add_zero]))
  · refine g_lload_n dX13_wouldHide_43 rfl rfl ?_
    refine g_aload_n dX13_wouldHide_44 rfl rfl ?_
    refine g_aload_n dX13_wouldHide_45 rfl rfl ?_
    refine g_get_Model_w dX13_wouldHide_46 mw_1155 (by assumption) (by assumption) ?_
    refine g_sipush dX13_wouldHide_49 (by decide) ?_
    refine g_iload dX13_wouldHide_52 rfl ?_
    refine g_iadd dX13_wouldHide_54 ?_
    refine g_laload dX13_wouldHide_55 (by assumption) (by omega) (by omega) ?_
    refine g_iload_n dX13_wouldHide_56 rfl rfl ?_
    have hpl := h0.pile (p := l) (by omega) (by omega)
    refine g_callVp (i := 10) rfl (gK0 (by assumption)) (g_at10 (by assumption)) (k_M_stays Y hM hB p (by omega) ⟨nS.1, nS.2.1⟩ _ (by omega)) u_X13_stays mw_1291 dX13_wouldHide_57 rfl rfl ⟨Nat.le_of_ble_eq_true rfl, Nat.le_of_ble_eq_true rfl⟩ ⟨Nat.le_of_ble_eq_true rfl, Nat.le_of_ble_eq_true rfl⟩ (Nat.le_of_ble_eq_true rfl) ?_
    refine g_ladd dX13_wouldHide_60 ?_
    refine g_lstore_n dX13_wouldHide_61 rfl (by decide) ?_
    refine g_iinc dX13_wouldHide_62 rfl (by decide) ?_
    refine g_goto (tgt := 28) dX13_wouldHide_65 (by decide) ?_
    rw [sHideL, sSum_step (by omega), ← Int.add_assoc] at he
    exact g_locs (by exact ⟨rfl, rfl, rfl, rfl, trivial⟩) (ih (m - 1) (l + 1) _ (by omega) (by omega) (by omega) he)
set_option maxHeartbeats 4000000 in
set_option maxRecDepth 100000 in
theorem k_M_wouldHide (Y : gEnv) {K N : Nat → Nat} {I : Nat → Nat → Int} {A : Nat → Int → Int} {R : Nat → Nat → Option Nat} {Q : Nat → Int → Option Nat} {x w sv tx ag : Nat} (hM : mS K N R x w sv tx ag) (h0 : iN (A w)) (hm : mT (A w)) (p : Int) (hp : (-2147483648 ≤ p ∧ p ≤ 2147483647)) : gC Y yX13_wouldHide cX13_wouldHide 5 (some .int) ({ frames := 1, cells := 0, slots := 0, locals := 26 } : Room) [.ref x, vi p] K N I A R Q (g_wr K N R Q (fun v I' A' => mRdP I A x (if ¬ (1 ≤ p ∧ p ≤ 10) then 1 else 0) (sHideL (A w) p (A w 1613).toNat 0) v I' A')) gno := by
  refine gC_of (by decide) (Nat.le_of_ble_eq_true rfl) (fun X => ?_)
  obtain ⟨hKx, hRw, hRs, hRt, hRa, hKw, hNw, hKs, hNs, hKt, hNt, hKa, hNa, hta⟩ := id hM
  have hB : mB (A w) := hm.mB
  have n14 : 0 ≤ A w 1614 ∧ A w 1614 ≤ 160 := ⟨h0.2.2.2.2.1.1, h0.2.2.2.2.1.2.1⟩
  have n15 : 0 ≤ A w 1615 ∧ A w 1615 ≤ 40 := ⟨h0.2.2.2.2.2.1.1, h0.2.2.2.2.2.1.2.1⟩
  have n13 : 0 ≤ A w 1613 ∧ A w 1613 ≤ 80 := ⟨h0.2.2.2.1.1, h0.2.2.2.1.2.1⟩
  have n16 : 0 ≤ A w 1616 ∧ A w 1616 ≤ 20 := h0.2.2.2.2.2.2.2
  have nG := h0.1
  have nO := h0.2.1
  have nS := h0.2.2.2.2.2.2.1
  have nL := h0.2.2.2.2.1.2.2.1
  refine g_aload_n dX13_wouldHide_0 rfl rfl ?_
  refine g_iconst dX13_wouldHide_1 ?_
  refine g_put_Model_thrown dX13_wouldHide_2 mw_1161 (by assumption) (fun I2 hI2 => ?_)
  refine g_iload_n dX13_wouldHide_5 rfl rfl ?_
  refine g_i2l dX13_wouldHide_6 (by first | omega | exact m64 (hB _)) ?_
  refine g_lconst (c := 1) dX13_wouldHide_7 (by decide) ?_
  refine g_ldc2 (c := 10) dX13_wouldHide_8 mw_1152 (by decide) ?_
  refine g_callSp (k_M_in Y _ _ _ (by first | omega | exact m64 (hB _)) (by first | omega | exact m64 (hB _)) (by first | omega | exact m64 (hB _))) u_X13_in mw_1199 rfl dX13_wouldHide_11 rfl rfl ⟨Nat.le_of_ble_eq_true rfl, Nat.le_of_ble_eq_true rfl⟩ ⟨Nat.le_of_ble_eq_true rfl, Nat.le_of_ble_eq_true rfl⟩ (Nat.le_of_ble_eq_true rfl) ?_
  have b11 := ifd (1 ≤ p ∧ p ≤ 10)
  generalize (if 1 ≤ p ∧ p ≤ 10 then (1 : Int) else 0) = z11 at b11 ⊢
  refine g_if_ne (tgt := 23) dX13_wouldHide_14 (by decide) (by first | omega | exact m64 (hB _)) (fun c_14 => ?_) (fun c_14 => ?_)
  · refine g_lconst (c := 0) dX13_wouldHide_23 (by decide) ?_
    refine g_lstore_n dX13_wouldHide_24 rfl (by decide) ?_
    refine g_iconst dX13_wouldHide_25 ?_
    refine g_istore dX13_wouldHide_26 (by decide) ?_
    refine g_locs (by exact ⟨rfl, rfl, rfl, rfl, trivial⟩) (lp_M_wouldHide hM h0 hm p (by omega) (fun z hz => ?_) _ (A w 1613).toNat 0 0 (Nat.lt_succ_self _) (by omega) (by omega) (by rw [Int.zero_add]))
    subst hz
    exact ⟨rfl, rfl, rfl, rfl, mRdP.yes (by first | (rw [if_pos (by omega)]; done) | (rw [if_neg (by omega), if_pos (by omega)]; done) | (rw [if_neg (by omega)]; done) | (rw [if_neg (by omega), if_neg (by omega), if_pos (by omega)]; done) | (rw [if_neg (by omega), if_neg (by omega)]; done) | (rw [if_neg (by omega), if_neg (by omega), if_neg (by omega), if_pos (by omega)]; done) | (rw [if_neg (by omega), if_neg (by omega), if_neg (by omega)]; done) | omega | rfl) hI2 rfl⟩
  · refine g_aload_n dX13_wouldHide_17 rfl rfl ?_
    refine g_iconst dX13_wouldHide_18 ?_
    refine g_callVw (i := 10) rfl (gK0 (by assumption)) (g_at10 (by assumption)) (k_M_refuse Y hM _) u_X13_refuse mw_1202 dX13_wouldHide_19 rfl rfl ⟨Nat.le_of_ble_eq_true rfl, Nat.le_of_ble_eq_true rfl⟩ ⟨Nat.le_of_ble_eq_true rfl, Nat.le_of_ble_eq_true rfl⟩ (Nat.le_of_ble_eq_true rfl) (fun v19 I19 A19 h19 => ?_)
    obtain ⟨rfl, e19, f19⟩ := h19
    exact g_iret dX13_wouldHide_22 rfl (by decide) (by decide) ⟨rfl, rfl, rfl, rfl, by rw [f19]; exact mRdP.no hI2 e19 (by first | (rw [if_pos (by omega)]; done) | (rw [if_neg (by omega), if_pos (by omega)]; done) | (rw [if_neg (by omega)]; done) | (rw [if_neg (by omega), if_neg (by omega), if_pos (by omega)]; done) | (rw [if_neg (by omega), if_neg (by omega)]; done) | (rw [if_neg (by omega), if_neg (by omega), if_neg (by omega), if_pos (by omega)]; done) | (rw [if_neg (by omega), if_neg (by omega), if_neg (by omega)]; done) | omega | rfl) (by omega)⟩
set_option maxHeartbeats 4000000 in
set_option maxRecDepth 100000 in
theorem k_M_append (Y : gEnv) {K N : Nat → Nat} {I : Nat → Nat → Int} {A : Nat → Int → Int} {R : Nat → Nat → Option Nat} {Q : Nat → Int → Option Nat} {x w sv tx ag : Nat} (hM : mS K N R x w sv tx ag) (hs5 : 0 ≤ I 205 x ∧ I 205 x ≤ 100) (c : Int) (hc : (-2147483648 ≤ c ∧ c ≤ 2147483647)) : gC Y yX13_append cX13_append 2 (some .int) ({ frames := 1, cells := 0, slots := 0, locals := 25 } : Room) [.ref x, vi c] K N I A R Q (g_wr K N R Q (fun v I' A' => ((32 ≤ c ∧ c ≤ 126) ∧ I 205 x ≠ 100 → v = some (vi (I 205 x + 1)) ∧ I' = g_up (g_up I 206 x 0) 205 x (I 205 x + 1) ∧ A' = g_uq A tx (I 205 x) c) ∧ (¬ ((32 ≤ c ∧ c ≤ 126) ∧ I 205 x ≠ 100) → v = some (vi 0) ∧ I' = g_up I 206 x (if ¬ (32 ≤ c ∧ c ≤ 126) then 1 else 2) ∧ A' = A))) gno := by
  refine gC_of (by decide) (Nat.le_of_ble_eq_true rfl) (fun X => ?_)
  obtain ⟨hKx, hRw, hRs, hRt, hRa, hKw, hNw, hKs, hNs, hKt, hNt, hKa, hNa, hta⟩ := id hM
  refine g_aload_n dX13_append_0 rfl rfl ?_
  refine g_iconst dX13_append_1 ?_
  refine g_put_Model_thrown dX13_append_2 mw_1161 (by assumption) (fun I2 hI2 => ?_)
  refine g_iload_n dX13_append_5 rfl rfl ?_
  refine g_i2l dX13_append_6 (by omega) ?_
  refine g_ldc2 (c := 32) dX13_append_7 mw_1469 (by decide) ?_
  refine g_ldc2 (c := 126) dX13_append_10 mw_1470 (by decide) ?_
  refine g_callSp (k_M_in Y _ _ _ (by first | omega | exact m64 (hB _)) (by first | omega | exact m64 (hB _)) (by first | omega | exact m64 (hB _))) u_X13_in mw_1199 rfl dX13_append_13 rfl rfl ⟨Nat.le_of_ble_eq_true rfl, Nat.le_of_ble_eq_true rfl⟩ ⟨Nat.le_of_ble_eq_true rfl, Nat.le_of_ble_eq_true rfl⟩ (Nat.le_of_ble_eq_true rfl) ?_
  have b13 := ifd (32 ≤ c ∧ c ≤ 126)
  generalize (if 32 ≤ c ∧ c ≤ 126 then (1 : Int) else 0) = z13 at b13 ⊢
  refine g_if_ne (tgt := 25) dX13_append_16 (by decide) (by omega) (fun c_16 => ?_) (fun c_16 => ?_)
  · have e205 : I2 205 x = I 205 x := by rw [hI2]; simp [g_up]
    refine g_aload_n dX13_append_25 rfl rfl ?_
    refine g_get_Model_length dX13_append_26 mw_1160 (by assumption) ?_
    refine g_bipush dX13_append_29 (by decide) ?_
    refine g_icmp_ne (tgt := 40) dX13_append_31 (by decide) (by omega) (by omega) (fun c_31 => ?_) (fun c_31 => ?_)
    · refine g_aload_n dX13_append_40 rfl rfl ?_
      refine g_get_Model_text dX13_append_41 mw_1157 (by assumption) (by assumption) ?_
      refine g_aload_n dX13_append_44 rfl rfl ?_
      refine g_get_Model_length dX13_append_45 mw_1160 (by assumption) ?_
      refine g_iload_n dX13_append_48 rfl rfl ?_
      refine g_iastore dX13_append_49 (by assumption) (by omega) (by omega) (fun A49 hA49 => ?_)
      have eA49 := congrFun (hA49.trans (g_uq_rw _ _ _ _)) tx
      rw [g_rw_at] at eA49
      refine g_aload_n dX13_append_50 rfl rfl ?_
      refine g_dup dX13_append_51 rfl ?_
      refine g_get_Model_length dX13_append_52 mw_1160 (by assumption) ?_
      refine g_iconst dX13_append_55 ?_
      refine g_iadd dX13_append_56 ?_
      refine g_put_Model_length dX13_append_57 mw_1160 (by assumption) (fun I57 hI57 => ?_)
      refine g_aload_n dX13_append_60 rfl rfl ?_
      refine g_get_Model_length dX13_append_61 mw_1160 (by assumption) ?_
      exact g_iret dX13_append_64 rfl (by decide) (by decide) ⟨rfl, rfl, rfl, rfl, fun _ => ⟨by rw [hI57, g_up_eq, e205], by rw [hI57, e205, hI2], by rw [hA49, e205]⟩, fun h => absurd ⟨by omega, by omega⟩ h⟩
    · refine g_aload_n dX13_append_34 rfl rfl ?_
      refine g_iconst dX13_append_35 ?_
      refine g_callVw (i := 10) rfl (gK0 (by assumption)) (g_at10 (by assumption)) (k_M_refuse Y hM _) u_X13_refuse mw_1202 dX13_append_36 rfl rfl ⟨Nat.le_of_ble_eq_true rfl, Nat.le_of_ble_eq_true rfl⟩ ⟨Nat.le_of_ble_eq_true rfl, Nat.le_of_ble_eq_true rfl⟩ (Nat.le_of_ble_eq_true rfl) (fun v36 I36 A36 h36 => ?_)
      obtain ⟨rfl, e36, f36⟩ := h36
      exact g_iret dX13_append_39 rfl (by decide) (by decide) ⟨rfl, rfl, rfl, rfl, fun h => absurd h.2 (by omega), fun _ => ⟨rfl, by rw [e36, hI2, g_up_up, if_neg (by omega)], f36⟩⟩
  · refine g_aload_n dX13_append_19 rfl rfl ?_
    refine g_iconst dX13_append_20 ?_
    refine g_callVw (i := 10) rfl (gK0 (by assumption)) (g_at10 (by assumption)) (k_M_refuse Y hM _) u_X13_refuse mw_1202 dX13_append_21 rfl rfl ⟨Nat.le_of_ble_eq_true rfl, Nat.le_of_ble_eq_true rfl⟩ ⟨Nat.le_of_ble_eq_true rfl, Nat.le_of_ble_eq_true rfl⟩ (Nat.le_of_ble_eq_true rfl) (fun v21 I21 A21 h21 => ?_)
    obtain ⟨rfl, e21, f21⟩ := h21
    exact g_iret dX13_append_24 rfl (by decide) (by decide) ⟨rfl, rfl, rfl, rfl, fun h => absurd h.1 (by omega), fun _ => ⟨rfl, by rw [e21, hI2, g_up_up, if_pos (by omega)], f21⟩⟩
set_option maxHeartbeats 4000000 in
set_option maxRecDepth 100000 in
theorem k_M_clear (Y : gEnv) {K N : Nat → Nat} {I : Nat → Nat → Int} {A : Nat → Int → Int} {R : Nat → Nat → Option Nat} {Q : Nat → Int → Option Nat} {x w sv tx ag : Nat} (hM : mS K N R x w sv tx ag) : gC Y yX13_clear cX13_clear 2 (some .int) ({ frames := 0, cells := 0, slots := 0, locals := 0 } : Room) [.ref x] K N I A R Q (g_wr K N R Q (fun v I' A' => v = some (vi (I 205 x)) ∧ I' = g_up (g_up I 206 x 0) 205 x 0 ∧ A' = A)) gno := by
  refine gC_of (by decide) (Nat.le_of_ble_eq_true rfl) (fun X => ?_)
  obtain ⟨hKx, hRw, hRs, hRt, hRa, hKw, hNw, hKs, hNs, hKt, hNt, hKa, hNa, hta⟩ := id hM
  refine g_aload_n dX13_clear_0 rfl rfl ?_
  refine g_iconst dX13_clear_1 ?_
  refine g_put_Model_thrown dX13_clear_2 mw_1161 (by assumption) (fun I2 hI2 => ?_)
  refine g_aload_n dX13_clear_5 rfl rfl ?_
  refine g_get_Model_length dX13_clear_6 mw_1160 (by assumption) ?_
  have e205 : I2 205 x = I 205 x := by rw [hI2]; simp [g_up]
  rw [e205]
  refine g_istore_n dX13_clear_9 rfl (by decide) ?_
  refine g_aload_n dX13_clear_10 rfl rfl ?_
  refine g_iconst dX13_clear_11 ?_
  refine g_put_Model_length dX13_clear_12 mw_1160 (by assumption) (fun I12 hI12 => ?_)
  refine g_iload_n dX13_clear_15 rfl rfl ?_
  exact g_iret dX13_clear_16 rfl (by decide) (by decide) ⟨rfl, rfl, rfl, rfl, rfl, by rw [hI12, hI2], rfl⟩
