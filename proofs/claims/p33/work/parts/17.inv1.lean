/-! ===== what stays true of the numbers: bounds, piles ===== -/
def mBB (B : Int) (f : Int → Int) : Prop := ∀ i, -B ≤ f i ∧ f i ≤ B
theorem mBB.up {B C : Int} {f : Int → Int} (h : mBB B f) (hc : B ≤ C) : mBB C f := fun i => ⟨by have := (h i).1; omega, by have := (h i).2; omega⟩
theorem mBB.put {B : Int} {f : Int → Int} (h : mBB B f) {i v : Int} (hv : -B ≤ v ∧ v ≤ B) : mBB B (sU f i v) := fun j => by
  simp only [sU]
  split
  · exact hv
  · exact h j
theorem pig : ∀ (M n : Nat) (c : Int → Int), (∀ p : Int, 0 ≤ p → p < n → 0 ≤ c p ∧ c p < M) → (∀ p q : Int, 0 ≤ p → p < q → q < n → c p ≠ c q) → n ≤ M
  | 0, n, c, h1, h2 => by
    rcases Nat.eq_zero_or_pos n with h | h
    · omega
    · have := h1 0 (by omega) (by omega)
      omega
  | M + 1, n, c, h1, h2 => by
    by_cases h : ∃ p : Int, 0 ≤ p ∧ p < n ∧ c p = M
    · obtain ⟨p0, a1, a2, a3⟩ := h
      have := pig M (n - 1) (fun p => if p < p0 then c p else c (p + 1)) (fun p b1 b2 => by
        by_cases e : p < p0
        · simp only [if_pos e]
          have := h1 p b1 (by omega)
          have := h2 p p0 b1 e a2
          omega
        · simp only [if_neg e]
          have := h1 (p + 1) (by omega) (by omega)
          have := h2 p0 (p + 1) a1 (by omega) (by omega)
          omega) (fun p q b1 b2 b3 => by
        by_cases e : p < p0
        · by_cases e2 : q < p0
          · simp only [if_pos e, if_pos e2]
            exact h2 p q b1 b2 (by omega)
          · simp only [if_pos e, if_neg e2]
            exact h2 p (q + 1) b1 (by omega) (by omega)
        · simp only [if_neg e, if_neg (show ¬ q < p0 by omega)]
          exact h2 (p + 1) (q + 1) (by omega) (by omega) (by omega))
      omega
    · have := pig M n c (fun p b1 b2 => by
        have := h1 p b1 b2
        have : c p ≠ M := fun e => h ⟨p, b1, b2, e⟩
        omega) h2
      omega
def iG (w : Int → Int) : Prop := ∀ g, 0 ≤ g → g < 4 → 0 ≤ w g ∧ w g ≤ 19 ∧ 0 ≤ w (4 + g) ∧ w (4 + g) ≤ 20 ∧ 0 ≤ w (8 + g) ∧ w (8 + g) ≤ 100 ∧ 0 ≤ w (12 + g) ∧ w (12 + g) ≤ 9999
def iO (w : Int → Int) : Prop := ∀ i, 0 ≤ i → i < 24 → -40 ≤ w (16 + i) ∧ w (16 + i) ≤ 40 ∧ 0 ≤ w (40 + i) ∧ w (40 + i) ≤ 100
def iPi (w : Int → Int) : Prop := 0 ≤ w 1613 ∧ w 1613 ≤ 80 ∧ (∀ p, 0 ≤ p → p < w 1613 → 0 ≤ w (90 + p) ∧ w (90 + p) ≤ 3 ∧ 0 ≤ w (170 + p) ∧ w (170 + p) ≤ 19 ∧ 0 ≤ w (330 + p) ∧ w (330 + p) ≤ w (250 + p)) ∧ (∀ p q, 0 ≤ p → p < q → q < w 1613 → ¬ (w (90 + p) = w (90 + q) ∧ w (170 + p) = w (170 + q)))
theorem iG.of {w w' : Int → Int} (h : iG w) (e : ∀ j, 0 ≤ j → j < 16 → w' j = w j) : iG w' := fun g h1 h2 => by
  rw [e g h1 (by omega), e (4 + g) (by omega) (by omega), e (8 + g) (by omega) (by omega), e (12 + g) (by omega) (by omega)]
  exact h g h1 h2
theorem iO.of {w w' : Int → Int} (h : iO w) (e : ∀ j, 16 ≤ j → j < 64 → w' j = w j) : iO w' := fun g h1 h2 => by
  rw [e (16 + g) (by omega) (by omega), e (40 + g) (by omega) (by omega)]
  exact h g h1 h2
theorem iPi.of {w w' : Int → Int} (h : iPi w) (e : ∀ j, 90 ≤ j → j < 410 → w' j = w j) (e2 : w' 1613 = w 1613) : iPi w' := by
  obtain ⟨h1, h2, h3, h4⟩ := h
  refine ⟨by omega, by omega, fun p a1 a2 => ?_, fun p q a1 a2 a3 => ?_⟩
  · rw [e (90 + p) (by omega) (by omega), e (170 + p) (by omega) (by omega), e (330 + p) (by omega) (by omega), e (250 + p) (by omega) (by omega)]
    exact h3 p a1 (by omega)
  · rw [e (90 + p) (by omega) (by omega), e (170 + p) (by omega) (by omega), e (90 + q) (by omega) (by omega), e (170 + q) (by omega) (by omega)]
    exact h4 p q a1 a2 (by omega)
theorem sLayI_range {w : Int → Int} (hn : 0 ≤ w 1613) (g s : Int) : 0 ≤ sLayI w g s ∧ sLayI w g s ≤ w 1613 ∧ (sLayI w g s < w 1613 → w (90 + sLayI w g s) = g ∧ w (170 + sLayI w g s) = s) ∧ ∀ j, 0 ≤ j → j < sLayI w g s → ¬ (w (90 + j) = g ∧ w (170 + j) = s) := by
  obtain ⟨h1, h2, h3, h4⟩ := sLx_range (P := sLayP w g s) (w 1613).toNat 0
  refine ⟨h1, by unfold sLayI; omega, fun h => ?_, fun j a1 a2 => ?_⟩
  · have := h3 (by unfold sLayI at h; omega)
    simpa [sLayP, sLayI] using this
  · have := h4 j a1 a2
    simpa [sLayP] using this
theorem sLay_new {w : Int → Int} (h : iPi w) {g s : Int} (hg : 0 ≤ g ∧ g ≤ 3) (hs : 0 ≤ s ∧ s ≤ 19) (hi : sLayI w g s = w 1613) : w 1613 < 80 := by
  obtain ⟨h1, h2, h3, h4⟩ := h
  obtain ⟨-, -, -, h5⟩ := sLayI_range h1 g s
  have := pig 80 ((w 1613).toNat + 1) (fun p => if p = w 1613 then 20 * g + s else 20 * w (90 + p) + w (170 + p)) (fun p a1 a2 => by
    by_cases e : p = w 1613
    · simp only [if_pos e]; omega
    · simp only [if_neg e]
      have := h3 p a1 (by omega)
      omega) (fun p q a1 a2 a3 => by
    simp only [if_neg (show ¬ p = w 1613 by omega)]
    have b1 := h3 p a1 (by omega)
    by_cases e : q = w 1613
    · simp only [if_pos e]
      have := h5 p a1 (by omega)
      omega
    · simp only [if_neg e]
      have := h4 p q a1 a2 (by omega)
      have := h3 q (by omega) (by omega)
      omega)
  omega
theorem sLay_same {w : Int → Int} {g s t h : Int} (hp : 0 ≤ sLayI w g s ∧ sLayI w g s < 80) {j : Int} (hj : j < 90 ∨ 410 ≤ j) (hj2 : j ≠ 1613) : sLay w g s t h j = w j := by
  have e : ∀ a : Int → Int, sLayAt a (sLayI w g s) t h j = a j := fun a => by
    rw [sLayAt, sU_ne _ _ (by omega), sU_ne _ _ (by omega)]
  rw [sLay, e]
  split
  · rw [sLayNew, sU_ne _ _ (by omega), sU_ne _ _ (by omega), sU_ne _ _ (by omega), sU_ne _ _ (by omega), sU_ne _ _ hj2]
  · rfl
theorem sLay_at {w : Int → Int} {g s t h : Int} (hp : 0 ≤ sLayI w g s ∧ sLayI w g s < 80) :
    sLay w g s t h 1613 = (if sLayI w g s = w 1613 then w 1613 + 1 else w 1613) ∧ ∀ q, 0 ≤ q → q < 80 →
    sLay w g s t h (90 + q) = (if sLayI w g s = w 1613 ∧ q = sLayI w g s then g else w (90 + q)) ∧ sLay w g s t h (170 + q) = (if sLayI w g s = w 1613 ∧ q = sLayI w g s then s else w (170 + q)) ∧
    sLay w g s t h (250 + q) = (if q = sLayI w g s then (if sLayI w g s = w 1613 then 0 else w (250 + q)) + t else w (250 + q)) ∧ sLay w g s t h (330 + q) = (if q = sLayI w g s then (if sLayI w g s = w 1613 then 0 else w (330 + q)) + h else w (330 + q)) := by
  generalize hpp : sLayI w g s = p at hp
  have key : ∀ j, sLay w g s t h j = (if j = 330 + p then (if p = w 1613 then 0 else w (330 + p)) + h else if j = 250 + p then (if p = w 1613 then 0 else w (250 + p)) + t else if p = w 1613 then (if j = 170 + p then s else if j = 90 + p then g else if j = 1613 then w 1613 + 1 else w j) else w j) := fun j => by
    rw [sLay, hpp]
    by_cases e : p = w 1613
    · rw [if_pos e, if_pos e, if_pos e, if_pos e]
      simp only [sLayAt, sLayNew, sU]
      by_cases e1 : j = 330 + p
      · simp only [if_pos e1]
        rw [if_neg (by omega), if_pos (by first | trivial | rfl)]
      · simp only [if_neg e1]
        by_cases e2 : j = 250 + p
        · simp only [if_pos e2]
          rw [if_neg (by omega), if_pos (by first | trivial | rfl)]
        · simp only [if_neg e2]
    · rw [if_neg e, if_neg e, if_neg e, if_neg e]
      simp only [sLayAt, sU]
      by_cases e1 : j = 330 + p
      · simp only [if_pos e1]
        rw [if_neg (by omega)]
      · simp only [if_neg e1]
  refine ⟨?_, fun q h1 h2 => ⟨?_, ?_, ?_, ?_⟩⟩ <;> rw [key]
  · rw [if_neg (by omega), if_neg (by omega)]
    by_cases e : p = w 1613
    · rw [if_pos e, if_pos e, if_neg (by omega), if_neg (by omega), if_pos rfl]
    · rw [if_neg e, if_neg e]
  · rw [if_neg (by omega), if_neg (by omega)]
    by_cases e : p = w 1613
    · rw [if_pos e, if_neg (by omega)]
      by_cases e2 : q = p
      · rw [if_pos (by omega), if_pos ⟨e, e2⟩]
      · rw [if_neg (by omega), if_neg (by omega), if_neg (fun x => e2 x.2)]
    · rw [if_neg e, if_neg (fun x => e x.1)]
  · rw [if_neg (by omega), if_neg (by omega)]
    by_cases e : p = w 1613
    · rw [if_pos e]
      by_cases e2 : q = p
      · rw [if_pos (by omega), if_pos ⟨e, e2⟩]
      · rw [if_neg (by omega), if_neg (by omega), if_neg (by omega), if_neg (fun x => e2 x.2)]
    · rw [if_neg e, if_neg (fun x => e x.1)]
  · rw [if_neg (by omega)]
    by_cases e2 : q = p
    · subst e2
      rw [if_pos rfl, if_pos rfl]
    · rw [if_neg (by omega), if_neg e2]
      by_cases e : p = w 1613
      · rw [if_pos e, if_neg (by omega), if_neg (by omega), if_neg (by omega)]
      · rw [if_neg e]
  · by_cases e2 : q = p
    · subst e2
      rw [if_pos rfl, if_pos rfl]
    · rw [if_neg (by omega), if_neg (by omega), if_neg e2]
      by_cases e : p = w 1613
      · rw [if_pos e, if_neg (by omega), if_neg (by omega), if_neg (by omega)]
      · rw [if_neg e]
theorem iPi.lay {w : Int → Int} (hi : iPi w) {g s t h : Int} (hg : 0 ≤ g ∧ g ≤ 3) (hs : 0 ≤ s ∧ s ≤ 19) (ht : 0 ≤ h ∧ h ≤ t) : 0 ≤ sLayI w g s ∧ sLayI w g s < 80 ∧ iPi (sLay w g s t h) := by
  have hnew := sLay_new hi hg hs
  obtain ⟨h1, h2, h3, h4⟩ := hi
  obtain ⟨r1, r2, r3, r4⟩ := sLayI_range h1 g s
  have r5 : sLayI w g s < 80 := by
    by_cases e : sLayI w g s = w 1613
    · have := hnew e; omega
    · omega
  obtain ⟨k1, k2⟩ := sLay_at (t := t) (h := h) (w := w) (g := g) (s := s) ⟨r1, r5⟩
  refine ⟨r1, r5, ?_⟩
  generalize hpp : sLayI w g s = p at *
  refine ⟨by rw [k1]; split <;> omega, by rw [k1]; split <;> omega, fun q a1 a2 => ?_, fun q q2 a1 a2 a3 => ?_⟩
  · rw [k1] at a2
    have hq : q < 80 := by split at a2 <;> omega
    obtain ⟨b1, b2, b3, b4⟩ := k2 q a1 hq
    rw [b1, b2, b3, b4]
    by_cases e : p = w 1613
    · rw [if_pos e] at a2
      by_cases e2 : q = p
      · rw [if_pos ⟨e, e2⟩, if_pos ⟨e, e2⟩, if_pos e2, if_pos e2, if_pos e, if_pos e]; omega
      · rw [if_neg (fun x => e2 x.2), if_neg (fun x => e2 x.2), if_neg e2, if_neg e2]
        exact h3 q a1 (by omega)
    · rw [if_neg e] at a2
      rw [if_neg (fun x => e x.1), if_neg (fun x => e x.1)]
      have := h3 q a1 a2
      by_cases e2 : q = p
      · rw [if_pos e2, if_pos e2, if_neg e, if_neg e]; omega
      · rw [if_neg e2, if_neg e2]; exact this
  · rw [k1] at a3
    have hq : q2 < 80 := by split at a3 <;> omega
    obtain ⟨b1, b2, -, -⟩ := k2 q a1 (by omega)
    obtain ⟨c1, c2, -, -⟩ := k2 q2 (by omega) hq
    rw [b1, b2, c1, c2]
    by_cases e : p = w 1613
    · rw [if_pos e] at a3
      rw [if_neg (show ¬ (p = w 1613 ∧ q = p) by omega), if_neg (show ¬ (p = w 1613 ∧ q = p) by omega)]
      by_cases e2 : q2 = p
      · rw [if_pos ⟨e, e2⟩, if_pos ⟨e, e2⟩]
        exact r4 q a1 (by omega)
      · rw [if_neg (fun x => e2 x.2), if_neg (fun x => e2 x.2)]
        exact h4 q q2 a1 a2 (by omega)
    · rw [if_neg e] at a3
      rw [if_neg (fun x => e x.1), if_neg (fun x => e x.1), if_neg (fun x => e x.1), if_neg (fun x => e x.1)]
      exact h4 q q2 a1 a2 a3
theorem mBB.lay {w : Int → Int} {B C : Int} (hb : mBB B w) (hn : 0 ≤ w 1613 ∧ w 1613 ≤ 80) {g s t h : Int} (hg : 0 ≤ g ∧ g ≤ 3) (hs : 0 ≤ s ∧ s ≤ 19) (ht : 0 ≤ t ∧ t ≤ C) (hh : 0 ≤ h ∧ h ≤ C) (hB : 100 ≤ B) : mBB (B + C) (sLay w g s t h) := by
  have h2 : mBB B (if sLayI w g s = w 1613 then sLayNew w (sLayI w g s) g s else w) := by
    obtain ⟨r1, r2, -, -⟩ := sLayI_range hn.1 g s
    split
    · exact ((((hb.put (by omega)).put (by omega)).put (by omega)).put (by omega)).put (by omega)
    · exact hb
  have h1 := h2.up (show B ≤ B + C by omega)
  have a1 := h2 (250 + sLayI w g s)
  have a2 := h2 (330 + sLayI w g s)
  refine (h1.put ⟨by omega, by omega⟩).put ?_
  rw [sU_ne _ _ (by omega)]
  omega
