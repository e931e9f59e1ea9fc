/-! ===== a grading ===== -/
theorem sStays_range {s : Int} (hs : 0 ≤ s ∧ s ≤ 100) : ∀ (n : Nat) (h : Int), 0 ≤ h → 0 ≤ sStays s n h ∧ sStays s n h ≤ h
  | 0, h, h0 => ⟨h0, Int.le_refl _⟩
  | n + 1, h, h0 => by
    have h1 := Int.mul_nonneg h0 hs.1
    have h2 : h * s ≤ h * 100 := Int.mul_le_mul_of_nonneg_left hs.2 h0
    rw [sStays, td_pos (by omega)]
    have := sStays_range hs n (h - (h * s + 99) / 100) (by omega)
    omega
def sGr1 (ps : Int) (w : Int → Int) (p : Int) : Int → Int := sAdd (sAdd w (w (90 + p)) (w (170 + p)) 1 (w (250 + p) - (w (330 + p) - sStays (w 88) ps.toNat (w (330 + p)))) (sStays (w 88) ps.toNat (w (330 + p)))) (w (90 + p)) (w (170 + p)) 2 (w (330 + p) - sStays (w 88) ps.toNat (w (330 + p))) 0
def sGrL (ps : Int) : Nat → Int → (Int → Int) → (Int → Int)
  | 0, _, w => w
  | n + 1, p, w => sGrL ps n (p + 1) (sGr1 ps w p)
def sGrV (w : Int → Int) (ps : Int) (n : Nat) (p : Int) : Int := sSum (fun p => w (330 + p) - sStays (w 88) ps.toNat (w (330 + p))) n p
def sGrade (w : Int → Int) (ps : Int) : Int → Int := sHap (sU (sGrL ps (w 1613).toNat 0 w) 1613 0) 2 (sGrV w ps (w 1613).toNat 0)
theorem sGrL_stop {ps p : Int} {n : Nat} {w : Int → Int} (h : n = 0) : sGrL ps n p w = w := by subst h; rfl
theorem sGrL_step {ps p : Int} {n : Nat} {w : Int → Int} (h : 0 < n) : sGrL ps n p w = sGrL ps (n - 1) (p + 1) (sGr1 ps w p) := by
  obtain ⟨m, rfl⟩ : ∃ m, n = m + 1 := ⟨n - 1, by omega⟩
  rfl
theorem sFind_none {w : Int → Int} (hn : 0 ≤ w 1614) {g s r : Int} (h : sFind w g s r = -1) : ∀ j, 0 ≤ j → j < w 1614 → ¬ (w (410 + j) = g ∧ w (570 + j) = s ∧ w (730 + j) = r) := by
  have key : ∀ (n : Nat) (l : Int), sIx (sFindP w g s r) n l = -1 → 0 ≤ l → ∀ j, l ≤ j → j < l + n → ¬ (w (410 + j) = g ∧ w (570 + j) = s ∧ w (730 + j) = r) := by
    intro n
    induction n with
    | zero => intro l _ _ j a b; omega
    | succ n ih =>
      intro l h hl j a b hc
      by_cases hp : sFindP w g s r l = true
      · rw [sIx_hit (by omega) hp] at h; omega
      · rw [sIx_miss (by omega) (by simpa using hp), Nat.add_sub_cancel] at h
        by_cases e : j = l
        · subst e
          exact hp (by simp [sFindP, hc])
        · exact ih (l + 1) h (by omega) j (by omega) (by omega) hc
  exact fun j a b => key _ _ h (by omega) j a (by omega)
theorem sFind_new {w : Int → Int} (h : iL w) {g s r : Int} (hg : 0 ≤ g ∧ g ≤ 3) (hs : 0 ≤ s ∧ s ≤ 19) (hr : 1 ≤ r ∧ r ≤ 2) (hi : sFind w g s r = -1) : w 1614 < 160 := by
  obtain ⟨h1, h2, h3, h4⟩ := h
  have h5 := sFind_none h1 hi
  have := pig 160 ((w 1614).toNat + 1) (fun p => if p = w 1614 then 40 * g + 2 * s + (r - 1) else 40 * w (410 + p) + 2 * w (570 + p) + (w (730 + p) - 1)) (fun p a1 a2 => by
    by_cases e : p = w 1614
    · simp only [if_pos e]; omega
    · simp only [if_neg e]
      have := h3 p a1 (by omega)
      omega) (fun p q a1 a2 a3 => by
    simp only [if_neg (show ¬ p = w 1614 by omega)]
    have b1 := h3 p a1 (by omega)
    by_cases e : q = w 1614
    · simp only [if_pos e]
      have := h5 p a1 (by omega)
      omega
    · simp only [if_neg e]
      have := h4 p q a1 a2 (by omega)
      have := h3 q (by omega) (by omega)
      omega)
  omega
/-- the lot that something is added to -/
def sAddL (w : Int → Int) (g s r : Int) : Int := if sFind w g s r = -1 then w 1614 else sFind w g s r
theorem sAdd_at {w : Int → Int} (hL : iL w) (hZ : iZ w) {g s r t h : Int} (hg : 0 ≤ g ∧ g ≤ 3) (hs : 0 ≤ s ∧ s ≤ 19) (hr : 1 ≤ r ∧ r ≤ 2) (ht : t ≠ 0) :
    0 ≤ sAddL w g s r ∧ sAddL w g s r < 160 ∧ sAddL w g s r ≤ w 1614 ∧ (sAddL w g s r < w 1614 → w (410 + sAddL w g s r) = g ∧ w (570 + sAddL w g s r) = s ∧ w (730 + sAddL w g s r) = r) ∧ (sAddL w g s r = w 1614 → ∀ j, 0 ≤ j → j < w 1614 → ¬ (w (410 + j) = g ∧ w (570 + j) = s ∧ w (730 + j) = r)) ∧
    ∀ j, sAdd w g s r t h j = (if j = 1210 + sAddL w g s r then (if sAddL w g s r = w 1614 then 0 else w (1210 + sAddL w g s r)) + h else if j = 890 + sAddL w g s r then (if sAddL w g s r = w 1614 then 0 else w (890 + sAddL w g s r)) + t else if sAddL w g s r = w 1614 then (if j = 730 + sAddL w g s r then r else if j = 570 + sAddL w g s r then s else if j = 410 + sAddL w g s r then g else if j = 1614 then w 1614 + 1 else w j) else w j) := by
  have h1 := hL.1
  have hfr := sFind_range h1 g s r
  have hnew := sFind_new hL hg hs hr
  have hno := sFind_none (g := g) (s := s) (r := r) h1
  simp only [sAdd]
  rw [if_neg ht]
  by_cases e : sFind w g s r = -1
  · have hn := hnew e
    obtain ⟨z1, z2, z3⟩ := hZ (w 1614) (by omega) hn
    have eL : sAddL w g s r = w 1614 := by simp only [sAddL]; rw [if_pos e]
    rw [eL, if_pos e]
    refine ⟨h1, hn, by omega, fun a => by omega, fun _ => hno e, fun j => ?_⟩
    rw [if_pos rfl, if_pos rfl, if_pos rfl]
    have e1 : sAddNew w (w 1614) g s r (890 + w 1614) = 0 := by rw [sAddNew, sU_ne _ _ (by omega), sU_ne _ _ (by omega), sU_ne _ _ (by omega), sU_ne _ _ (by omega), z1]
    have e2 : sAddNew w (w 1614) g s r (1210 + w 1614) = 0 := by rw [sAddNew, sU_ne _ _ (by omega), sU_ne _ _ (by omega), sU_ne _ _ (by omega), sU_ne _ _ (by omega), z3]
    rw [sAddAt, e1, sU_ne _ _ (show (1210 + w 1614 : Int) ≠ 890 + w 1614 by omega), e2]
    simp only [sAddNew, sU]
  · rcases hfr with h2 | ⟨h2, h3, h4⟩
    · exact absurd h2 e
    have eL : sAddL w g s r = sFind w g s r := by simp only [sAddL]; rw [if_neg e]
    rw [eL, if_neg e]
    generalize sFind w g s r = l at *
    have e0 : ¬ l = w 1614 := by omega
    refine ⟨h2, by have := hL.2.1; omega, by omega, fun _ => ?_, fun a => by omega, fun j => ?_⟩
    · simpa [sFindP] using h4
    rw [if_neg e0, if_neg e0, if_neg e0, sAddAt, sU_ne _ _ (show (1210 + l : Int) ≠ 890 + l by omega)]
    simp only [sU]
theorem iL.add {w : Int → Int} (hL : iL w) (hZ : iZ w) {g s r t h : Int} (hb : 0 ≤ w 89) (hg : 0 ≤ g ∧ g ≤ 3) (hs : 0 ≤ s ∧ s ≤ 19) (hr : 1 ≤ r ∧ r ≤ 2) (ht : 0 ≤ h ∧ h ≤ t) :
    iL (sAdd w g s r t h) ∧ iZ (sAdd w g s r t h) ∧ (∀ j, j < 410 ∨ 1370 ≤ j → j ≠ 1614 → sAdd w g s r t h j = w j) ∧ w 1614 ≤ sAdd w g s r t h 1614 ∧ sumL (sAdd w g s r t h) = sumL w + t ∧ (∀ B, 160 ≤ B → sumL w + t ≤ B → mBB B w → mBB B (sAdd w g s r t h)) := by
  by_cases e0 : t = 0
  · have e1 : sAdd w g s r t h = w := by simp only [sAdd]; rw [if_pos e0]
    rw [e1]
    exact ⟨hL, hZ, fun _ _ _ => rfl, Int.le_refl _, by omega, fun _ _ _ h => h⟩
  obtain ⟨r1, r2, r3, r4, r5, k⟩ := sAdd_at (h := h) hL hZ hg hs hr e0
  obtain ⟨h1, h2, h3, h4⟩ := hL
  generalize sAddL w g s r = l at *
  generalize hw' : sAdd w g s r t h = w' at *
  have k14 : w' 1614 = (if l = w 1614 then w 1614 + 1 else w 1614) := by
    rw [k, if_neg (by omega), if_neg (by omega)]
    split
    · rw [if_neg (by omega), if_neg (by omega), if_neg (by omega), if_pos rfl]
    · rfl
  have k89 : w' 89 = w 89 := by
    rw [k, if_neg (by omega), if_neg (by omega)]
    split
    · rw [if_neg (by omega), if_neg (by omega), if_neg (by omega), if_neg (by omega)]
    · rfl
  have kid : ∀ q, 0 ≤ q → q < 160 → w' (410 + q) = (if l = w 1614 ∧ q = l then g else w (410 + q)) ∧ w' (570 + q) = (if l = w 1614 ∧ q = l then s else w (570 + q)) ∧ w' (730 + q) = (if l = w 1614 ∧ q = l then r else w (730 + q)) ∧ w' (890 + q) = (if q = l then (if l = w 1614 then 0 else w (890 + q)) + t else w (890 + q)) ∧ w' (1050 + q) = w (1050 + q) ∧ w' (1210 + q) = (if q = l then (if l = w 1614 then 0 else w (1210 + q)) + h else w (1210 + q)) := fun q a b => by
    refine ⟨?_, ?_, ?_, ?_, ?_, ?_⟩ <;> rw [k]
    · rw [if_neg (by omega), if_neg (by omega)]
      by_cases e : l = w 1614
      · rw [if_pos e, if_neg (by omega), if_neg (by omega)]
        by_cases e2 : q = l
        · rw [if_pos (by omega), if_pos ⟨e, e2⟩]
        · rw [if_neg (by omega), if_neg (by omega), if_neg (fun x => e2 x.2)]
      · rw [if_neg e, if_neg (fun x => e x.1)]
    · rw [if_neg (by omega), if_neg (by omega)]
      by_cases e : l = w 1614
      · rw [if_pos e, if_neg (by omega)]
        by_cases e2 : q = l
        · rw [if_pos (by omega), if_pos ⟨e, e2⟩]
        · rw [if_neg (by omega), if_neg (by omega), if_neg (by omega), if_neg (fun x => e2 x.2)]
      · rw [if_neg e, if_neg (fun x => e x.1)]
    · rw [if_neg (by omega), if_neg (by omega)]
      by_cases e : l = w 1614
      · rw [if_pos e]
        by_cases e2 : q = l
        · rw [if_pos (by omega), if_pos ⟨e, e2⟩]
        · rw [if_neg (by omega), if_neg (by omega), if_neg (by omega), if_neg (by omega), if_neg (fun x => e2 x.2)]
      · rw [if_neg e, if_neg (fun x => e x.1)]
    · rw [if_neg (by omega)]
      by_cases e2 : q = l
      · subst e2
        rw [if_pos rfl, if_pos rfl]
      · rw [if_neg (by omega), if_neg e2]
        split
        · rw [if_neg (by omega), if_neg (by omega), if_neg (by omega), if_neg (by omega)]
        · rfl
    · rw [if_neg (by omega), if_neg (by omega)]
      split
      · rw [if_neg (by omega), if_neg (by omega), if_neg (by omega), if_neg (by omega)]
      · rfl
    · by_cases e2 : q = l
      · subst e2
        rw [if_pos rfl, if_pos rfl]
      · rw [if_neg (by omega), if_neg (by omega), if_neg e2]
        split
        · rw [if_neg (by omega), if_neg (by omega), if_neg (by omega), if_neg (by omega)]
        · rfl
  have z0 : l = w 1614 → w (1050 + l) = 0 := fun e => (hZ l (by omega) r2).2.1
  have ct : ∀ q, 0 ≤ q → q < 160 → sContent w' q = (if q = l then (if l = w 1614 then 0 else sContent w q) + t else sContent w q) := fun q a b => by
    obtain ⟨-, -, -, c1, c2, -⟩ := kid q a b
    simp only [sContent]
    rw [c1, c2, k89]
    by_cases e2 : q = l
    · subst e2
      rw [if_pos rfl, if_pos rfl]
      split
      · rw [z0 (by assumption), Int.zero_mul]; omega
      · omega
    · rw [if_neg e2, if_neg e2]
  have hsum : sumL w' = sumL w + t := by
    simp only [sumL]
    rw [k14]
    by_cases e : l = w 1614
    · rw [if_pos e]
      rw [sSum_snocI (g := fun l => sContent w l) h1 (fun j a b => by rw [ct j a (by omega), if_neg (by omega)]), ct (w 1614) h1 (by omega), if_pos e.symm, if_pos e]
      omega
    · rw [if_neg e]
      rw [sSum_setI (g := fun l => sContent w l) r1 (show l < w 1614 by omega) (fun j a b d => by rw [ct j a (by omega), if_neg d]), ct l r1 r2, if_pos rfl, if_neg e]
      omega
  have sle : ∀ q, 0 ≤ q → q < w 1614 → sContent w q ≤ sumL w := fun q a b => sSum_leI (f := fun l => sContent w l) a b (fun j c d => by have := h3 j c d; omega)
  refine ⟨⟨by rw [k14]; split <;> omega, by rw [k14]; split <;> omega, fun q a b => ?_, fun q m a b c => ?_⟩, fun q a b => ?_, fun j a b => ?_, by rw [k14]; split <;> omega, hsum, fun B hB1 hB2 hB j => ?_⟩
  · rw [k14] at b
    have hq : q < 160 := by split at b <;> omega
    obtain ⟨c1, c2, c3, c4, c5, c6⟩ := kid q a hq
    rw [c1, c2, c3, c4, c5, c6, ct q a hq]
    by_cases e : l = w 1614
    · rw [if_pos e] at b
      by_cases e2 : q = l
      · have := z0 e
        rw [if_pos ⟨e, e2⟩, if_pos ⟨e, e2⟩, if_pos ⟨e, e2⟩, if_pos e2, if_pos e2, if_pos e2, if_pos e, if_pos e, if_pos e, e2, this]
        omega
      · rw [if_neg (fun x => e2 x.2), if_neg (fun x => e2 x.2), if_neg (fun x => e2 x.2), if_neg e2, if_neg e2, if_neg e2]
        exact h3 q a (by omega)
    · rw [if_neg e] at b
      rw [if_neg (fun x => e x.1), if_neg (fun x => e x.1), if_neg (fun x => e x.1)]
      have := h3 q a b
      by_cases e2 : q = l
      · rw [if_pos e2, if_pos e2, if_pos e2, if_neg e, if_neg e, if_neg e]; omega
      · rw [if_neg e2, if_neg e2, if_neg e2]; exact this
  · rw [k14] at c
    have hm : m < 160 := by split at c <;> omega
    obtain ⟨c1, c2, c3, -, -, -⟩ := kid q a (by omega)
    obtain ⟨d1, d2, d3, -, -, -⟩ := kid m (by omega) hm
    rw [c1, c2, c3, d1, d2, d3]
    by_cases e : l = w 1614
    · rw [if_pos e] at c
      rw [if_neg (show ¬ (l = w 1614 ∧ q = l) by omega), if_neg (show ¬ (l = w 1614 ∧ q = l) by omega), if_neg (show ¬ (l = w 1614 ∧ q = l) by omega)]
      by_cases e2 : m = l
      · rw [if_pos ⟨e, e2⟩, if_pos ⟨e, e2⟩, if_pos ⟨e, e2⟩]
        exact r5 e q a (by omega)
      · rw [if_neg (fun x => e2 x.2), if_neg (fun x => e2 x.2), if_neg (fun x => e2 x.2)]
        exact h4 q m a b (by omega)
    · rw [if_neg e] at c
      rw [if_neg (fun x => e x.1), if_neg (fun x => e x.1), if_neg (fun x => e x.1), if_neg (fun x => e x.1), if_neg (fun x => e x.1), if_neg (fun x => e x.1)]
      exact h4 q m a b c
  · rw [k14] at a
    have ha : w 1614 ≤ q ∧ q ≠ l := by split at a <;> omega
    obtain ⟨-, -, -, c4, c5, c6⟩ := kid q (by omega) b
    rw [c4, c5, c6, if_neg ha.2, if_neg ha.2]
    exact hZ q ha.1 b
  · rw [k, if_neg (by omega), if_neg (by omega)]
    split
    · repeat rw [if_neg (by omega)]
    · rfl
  · have hBj := hB j
    have sn : 0 ≤ sumL w := sSum_nnI (f := fun l => sContent w l) (fun j c d => by have := h3 j c d; omega)
    have bl : l ≠ w 1614 → 0 ≤ w (890 + l) ∧ w (890 + l) ≤ sumL w ∧ 0 ≤ w (1210 + l) ∧ w (1210 + l) ≤ sumL w := fun e => by
      have a1 := h3 l r1 (by omega)
      have a2 := sle l r1 (by omega)
      have a3 := Int.mul_nonneg a1.2.2.2.2.2.2.2.1 hb
      simp only [sContent] at a1 a2
      omega
    rw [k]
    split
    · split
      · omega
      · have := bl (by assumption); omega
    · split
      · split
        · omega
        · have := bl (by assumption); omega
      · split
        · split
          · omega
          · split
            · omega
            · split
              · omega
              · split <;> omega
        · omega
/-- what stands after p piles of a grading that began at w0 -/
def gI (w0 : Int → Int) (p : Int) (w : Int → Int) : Prop := iL w ∧ iZ w ∧ (∀ j, j < 410 ∨ 1370 ≤ j → j ≠ 1614 → w j = w0 j) ∧ w0 1614 ≤ w 1614 ∧ sumL w = sumL w0 + sSum (fun p => w0 (250 + p)) p.toNat 0
theorem gI.zero {w : Int → Int} (h : iL w) (hz : iZ w) : gI w 0 w := ⟨h, hz, fun _ _ _ => rfl, Int.le_refl _, by simp [sSum]⟩
theorem gI.lem {w0 w : Int → Int} {p ps : Int} (h0 : iN w0) (h : gI w0 p w) (hp : 0 ≤ p ∧ p < w0 1613) : 
    (0 ≤ w (90 + p) ∧ w (90 + p) ≤ 3) ∧ (0 ≤ w (170 + p) ∧ w (170 + p) ≤ 19) ∧ 0 ≤ w (330 + p) ∧ w (330 + p) ≤ w (250 + p) ∧ w (250 + p) ≤ 1600000 ∧ (0 ≤ w 88 ∧ w 88 ≤ 100) ∧ (1 ≤ w 89 ∧ w 89 ≤ 50) ∧ 0 ≤ sStays (w 88) ps.toNat (w (330 + p)) ∧ sStays (w 88) ps.toNat (w (330 + p)) ≤ w (330 + p) ∧ 0 ≤ sumL w ∧ sumL w + w (250 + p) ≤ 1600000 := by
  obtain ⟨h1, h2, h3, h4, h5⟩ := h
  have hs := h0.sums
  have hp0 := h0.pile hp.1 hp.2
  have hP := h0.2.2.2.1
  have hS := h0.2.2.2.2.2.2.1
  have a := hP.2.2.1 p hp.1 hp.2
  have hp8 := hP.2.1
  obtain ⟨s1, s2, s3, s4, s5, s6, s7, s8, s9, s10⟩ := hS
  have e1 := h3 (90 + p) (by omega) (by omega)
  have e2 := h3 (170 + p) (by omega) (by omega)
  have e3 := h3 (250 + p) (by omega) (by omega)
  have e4 := h3 (330 + p) (by omega) (by omega)
  have e5 := h3 88 (by omega) (by omega)
  have e6 := h3 89 (by omega) (by omega)
  have hst := sStays_range (s := w 88) (by omega) ps.toNat (w (330 + p)) (by omega)
  have hpart : sSum (fun p => w0 (250 + p)) p.toNat 0 + w0 (250 + p) ≤ sumP w0 := by
    have b1 : sSum (fun p => w0 (250 + p)) (p + 1).toNat 0 = sSum (fun p => w0 (250 + p)) p.toNat 0 + w0 (250 + p) := sSum_snocI hp.1 (fun _ _ _ => rfl)
    have b2 : ∀ (n : Nat), p + 1 + n ≤ w0 1613 → sSum (fun p => w0 (250 + p)) (p + 1).toNat 0 ≤ sSum (fun p => w0 (250 + p)) (p + 1 + n).toNat 0 := fun n => by
      induction n with
      | zero => intro _; simp
      | succ n ih =>
        intro hn
        have c := ih (by omega)
        rw [show p + 1 + ((n + 1 : Nat) : Int) = (p + 1 + n) + 1 by omega, sSum_snocI (f := fun p => w0 (250 + p)) (g := fun p => w0 (250 + p)) (n := p + 1 + n) (by omega) (fun _ _ _ => rfl)]
        have := hP.2.2.1 (p + 1 + n) (by omega) (by omega)
        omega
    have b3 := b2 (w0 1613 - (p + 1)).toNat (by omega)
    rw [show p + 1 + (((w0 1613 - (p + 1)).toNat : Nat) : Int) = w0 1613 by omega] at b3
    simp only [sumP]
    omega
  have hsn : 0 ≤ sumL w := sSum_nnI (f := fun l => sContent w l) (fun j c d => by have := h1.2.2.1 j c d; omega)
  exact ⟨by omega, by omega, by omega, by omega, by omega, by omega, by omega, hst.1, hst.2, hsn, by omega⟩
theorem gI.step {w0 w : Int → Int} {p ps : Int} (h0 : iN w0) (h : gI w0 p w) (hp : 0 ≤ p ∧ p < w0 1613) :
    gI w0 (p + 1) (sGr1 ps w p) ∧ (mT w → mT (sGr1 ps w p)) ∧
    (∀ j, j < 410 ∨ 1370 ≤ j → j ≠ 1614 → sAdd w (w (90 + p)) (w (170 + p)) 1 (w (250 + p) - (w (330 + p) - sStays (w 88) ps.toNat (w (330 + p)))) (sStays (w 88) ps.toNat (w (330 + p))) j = w j) ∧
    (mT w → mT (sAdd w (w (90 + p)) (w (170 + p)) 1 (w (250 + p) - (w (330 + p) - sStays (w 88) ps.toNat (w (330 + p)))) (sStays (w 88) ps.toNat (w (330 + p))))) ∧
    iL (sAdd w (w (90 + p)) (w (170 + p)) 1 (w (250 + p) - (w (330 + p) - sStays (w 88) ps.toNat (w (330 + p)))) (sStays (w 88) ps.toNat (w (330 + p)))) ∧
    iZ (sAdd w (w (90 + p)) (w (170 + p)) 1 (w (250 + p) - (w (330 + p) - sStays (w 88) ps.toNat (w (330 + p)))) (sStays (w 88) ps.toNat (w (330 + p)))) := by
  obtain ⟨b1, b2, b3, b4, b5, b6, b7, b8, b9, b10, b11⟩ := h.lem (ps := ps) h0 hp
  obtain ⟨h1, h2, h3, h4, h5⟩ := h
  obtain ⟨c1, c2, c3, c4, c5, c6⟩ := h1.add h2 (g := w (90 + p)) (s := w (170 + p)) (r := 1) (t := w (250 + p) - (w (330 + p) - sStays (w 88) ps.toNat (w (330 + p)))) (h := sStays (w 88) ps.toNat (w (330 + p))) (by omega) b1 b2 (by omega) (by omega)
  obtain ⟨d1, d2, d3, d4, d5, d6⟩ := c1.add c2 (g := w (90 + p)) (s := w (170 + p)) (r := 2) (t := w (330 + p) - sStays (w 88) ps.toNat (w (330 + p))) (h := 0) (by rw [c3 89 (by omega) (by omega)]; omega) b1 b2 (by omega) (by omega)
  refine ⟨⟨d1, d2, fun j a b => ?_, ?_, ?_⟩, fun hm => ?_, c3, fun hm => ?_, c1, c2⟩
  · rw [sGr1, d3 j a b, c3 j a b]
    exact h3 j a b
  · rw [sGr1]
    omega
  · rw [sGr1, d5, c5, h5, sSum_snocI (f := fun p => w0 (250 + p)) (g := fun p => w0 (250 + p)) hp.1 (fun _ _ _ => rfl), ← h3 (250 + p) (by have := h0.2.2.2.1.2.1; omega) (by have := h0.2.2.2.1.2.1; omega)]
    omega
  · exact d6 _ (by omega) (by omega) (c6 _ (by omega) (by omega) hm)
  · exact c6 _ (by omega) (by omega) hm
theorem gI.all {w0 : Int → Int} {ps : Int} (h0 : iN w0) : ∀ (n : Nat) (p : Int) (w : Int → Int), 0 ≤ p → p + n = w0 1613 → gI w0 p w → gI w0 (w0 1613) (sGrL ps n p w) ∧ (mT w → mT (sGrL ps n p w))
  | 0, p, w, h1, h2, h3 => by
    obtain rfl : p = w0 1613 := by omega
    exact ⟨h3, fun h => h⟩
  | n + 1, p, w, h1, h2, h3 => by
    obtain ⟨h4, h5, -⟩ := h3.step (ps := ps) h0 (by omega)
    obtain ⟨h6, h7⟩ := gI.all (ps := ps) h0 n (p + 1) _ (by omega) (by omega) h4
    exact ⟨h6, fun hm => h7 (h5 hm)⟩
theorem sGrade_pre {w0 w : Int → Int} (h0 : iN w0) (h : gI w0 (w0 1613) w) : iN (sU w 1613 0) := by
  obtain ⟨h1, h2, h3, h4, h5⟩ := h
  obtain ⟨hG, hO, hB, hP, hL, hD, hS, hE⟩ := h0
  obtain ⟨s1, s2, s3, s4, s5, s6, s7, s8, s9, s10⟩ := hS
  have e : ∀ j, j ≠ 1613 → sU w 1613 0 j = w j := fun j a => sU_ne _ _ a
  have e0 : sU w 1613 0 1613 = 0 := sU_eq _ _ _
  generalize sU w 1613 0 = w' at *
  have e3 : ∀ j, j < 410 ∨ 1370 ≤ j → j ≠ 1614 → j ≠ 1613 → w' j = w0 j := fun j a b c => by rw [e j c, h3 j a b]
  have e14 := e 1614 (by omega)
  have e15 := e3 1615 (by omega) (by omega) (by omega)
  have c0 : ∀ l, 0 ≤ l → l < w 1614 → sContent w' l = sContent w l := fun l a b => by
    have := h1.2.1
    simp only [sContent]
    rw [e (890 + l) (by omega), e (1050 + l) (by omega), e 89 (by omega)]
  have eP : sumP w' = 0 := by
    simp only [sumP]
    rw [e0]
    rfl
  have eL : sumL w' = sumL w0 + sumP w0 := by
    have : sumL w' = sumL w := by
      simp only [sumL]
      rw [e14]
      exact sSum_congrI c0
    rw [this, h5]
    rfl
  have eO : sumO w' = sumO w0 := by
    simp only [sumO]
    rw [e15]
    exact sSum_congrI (fun j a b => e3 _ (by have := hD.2.1; omega) (by have := hD.2.1; omega) (by have := hD.2.1; omega))
  have eV : sumV w' = sumV w0 := by
    simp only [sumV]
    rw [e15]
    exact sSum_congrI (fun j a b => e3 _ (by have := hD.2.1; omega) (by have := hD.2.1; omega) (by have := hD.2.1; omega))
  refine ⟨hG.of (fun j a b => e3 j (by omega) (by omega) (by omega)), hO.of (fun j a b => e3 j (by omega) (by omega) (by omega)), fun i a b => ?_, ⟨by omega, by omega, fun p a b => by omega, fun p q a b c => by omega⟩, ?_, ?_, ?_, ?_⟩
  · rw [e3 (64 + i) (by omega) (by omega) (by omega), e3 1610 (by omega) (by omega) (by omega)]
    exact hB i a b
  · obtain ⟨l1, l2, l3, l4⟩ := h1
    refine ⟨by omega, by omega, fun l a b => ?_, fun l m a b c => ?_⟩
    · rw [c0 l a (by omega), e (410 + l) (by omega), e (570 + l) (by omega), e (730 + l) (by omega), e (890 + l) (by omega), e (1050 + l) (by omega), e (1210 + l) (by omega)]
      exact l3 l a (by omega)
    · rw [e (410 + l) (by omega), e (570 + l) (by omega), e (730 + l) (by omega), e (410 + m) (by omega), e (570 + m) (by omega), e (730 + m) (by omega)]
      exact l4 l m a b (by omega)
  · obtain ⟨d1, d2, d3⟩ := hD
    refine ⟨by omega, by omega, fun d a b => ?_⟩
    rw [e3 (1370 + d) (by omega) (by omega) (by omega), e3 (1410 + d) (by omega) (by omega) (by omega), e3 (1450 + d) (by omega) (by omega) (by omega), e3 (1490 + d) (by omega) (by omega) (by omega), e3 (1530 + d) (by omega) (by omega) (by omega), e14]
    have := d3 d a (by omega)
    omega
  · simp only [iS]
    rw [eP, eL, eO, eV, e3 89 (by omega) (by omega) (by omega), e3 88 (by omega) (by omega) (by omega), e3 1610 (by omega) (by omega) (by omega), e3 1611 (by omega) (by omega) (by omega), e3 1612 (by omega) (by omega) (by omega), e3 1617 (by omega) (by omega) (by omega)]
    refine ⟨by omega, by omega, by omega, by omega, by omega, by omega, by omega, by omega, by omega, by omega⟩
  · simp only [iE]
    rw [e3 1616 (by omega) (by omega) (by omega)]
    exact hE
theorem sGrV_range {w : Int → Int} {ps : Int} (h0 : iN w) : 0 ≤ sGrV w ps (w 1613).toNat 0 ∧ sGrV w ps (w 1613).toNat 0 ≤ 1600000 := by
  have hS := h0.2.2.2.2.2.2.1
  obtain ⟨s1, s2, s3, s4, s5, s6, s7, s8, s9, s10⟩ := hS
  have hs := h0.sums
  have k : ∀ p, 0 ≤ p → p < w 1613 → 0 ≤ w (330 + p) - sStays (w 88) ps.toNat (w (330 + p)) ∧ w (330 + p) - sStays (w 88) ps.toNat (w (330 + p)) ≤ w (250 + p) := fun p a b => by
    have := h0.pile a b
    have := sStays_range (s := w 88) ⟨s1, s2⟩ ps.toNat (w (330 + p)) (by omega)
    omega
  have h1 : 0 ≤ sGrV w ps (w 1613).toNat 0 := sSum_nnI (fun j a b => (k j a b).1)
  have h2 : sGrV w ps (w 1613).toNat 0 ≤ sumP w := sSum_leq _ _ (fun j a b => (k j a (by omega)).2)
  omega
theorem iN.grade {w : Int → Int} {ps : Int} (h : iN w) (hz : iZ w) : iN (sGrade w ps) :=
  (sGrade_pre h (gI.all (ps := ps) h (w 1613).toNat 0 w (by omega) (by have := h.2.2.2.1.1; omega) (gI.zero h.2.2.2.2.1 hz)).1).hap _ _
theorem mT.grade {w : Int → Int} {ps : Int} (hm : mT w) (h : iN w) (hz : iZ w) : mT (sGrade w ps) := by
  obtain ⟨h1, h2⟩ := gI.all (ps := ps) h (w 1613).toNat 0 w (by omega) (by have := h.2.2.2.1.1; omega) (gI.zero h.2.2.2.2.1 hz)
  have hv := sGrV_range (ps := ps) h
  exact mT.hap ((h2 hm).put (by omega)) (sGrade_pre h h1).2.2.2.2.2.2.2 (by omega) (by omega)
theorem iZ.grade {w : Int → Int} {ps : Int} (h : iN w) (hz : iZ w) : iZ (sGrade w ps) := by
  obtain ⟨h1, h2⟩ := gI.all (ps := ps) h (w 1613).toNat 0 w (by omega) (by have := h.2.2.2.1.1; omega) (gI.zero h.2.2.2.2.1 hz)
  have h3 := sGrade_pre h h1
  refine h1.2.1.of h1.1.1 (fun j a b => ?_) ?_
  · rw [sGrade, sHap_same h3.2.2.2.2.2.2.2 (by omega) (by omega), sU_ne _ _ (by omega)]
  · rw [sGrade, sHap_same h3.2.2.2.2.2.2.2 (by omega) (by omega), sU_ne _ _ (by omega)]
