/-! ===== a firing ===== -/
def sBr (w : Int → Int) (t at_ : Int) : Int := (t * w (40 + at_)).tdiv 100
def sFireA (w : Int → Int) (k t p : Int) : Int → Int := sU w (64 + (8 * k + p)) (w (64 + (8 * k + p)) + sBr w t (8 * k + p))
def sFire1 (w : Int → Int) (k g pk t p : Int) : Int → Int :=
  if 0 < t - sBr w t (8 * k + p) then sLay (sFireA w k t p) g (sShade (sFireA w k t p) k p g pk) (t - sBr w t (8 * k + p)) (((t - sBr w t (8 * k + p)) * sFireA w k t p (8 + g)).tdiv 100) else sFireA w k t p
def sFireL (k g pk t : Int) : Nat → Int → (Int → Int) → (Int → Int)
  | 0, _, w => w
  | n + 1, p, w => sFireL k g pk t n (p + 1) (sFire1 w k g pk t p)
def sFireV (w : Int → Int) (k t : Int) (n : Nat) (p : Int) : Int := sSum (fun p => sBr w t (8 * k + p)) n p
def sFireZ (w : Int → Int) (t all : Int) : Int → Int := sHap (sU (sU (sU w 1610 (w 1610 + 1)) 1611 ((sU w 1610 (w 1610 + 1)) 1611 + 8 * t)) 1612 ((sU (sU w 1610 (w 1610 + 1)) 1611 ((sU w 1610 (w 1610 + 1)) 1611 + 8 * t)) 1612 + all)) 1 all
def sFire (w : Int → Int) (k g pk t : Int) : Int → Int := sFireZ (sFireL k g pk t 8 0 w) t (sFireV w k t 8 0)
theorem sFireL_stop {k g pk t p : Int} {n : Nat} {w : Int → Int} (h : n = 0) : sFireL k g pk t n p w = w := by subst h; rfl
theorem sFireL_step {k g pk t p : Int} {n : Nat} {w : Int → Int} (h : 0 < n) : sFireL k g pk t n p w = sFireL k g pk t (n - 1) (p + 1) (sFire1 w k g pk t p) := by
  obtain ⟨m, rfl⟩ : ∃ m, n = m + 1 := ⟨n - 1, by omega⟩
  rfl
theorem sBr_range {w : Int → Int} (hO : iO w) {t i : Int} (ht : 1 ≤ t ∧ t ≤ 100) (hi : 0 ≤ i ∧ i < 24) : 0 ≤ sBr w t i ∧ sBr w t i ≤ t ∧ 0 ≤ t * w (40 + i) ∧ t * w (40 + i) ≤ 10000 := by
  have h1 := hO i hi.1 hi.2
  have h2 := Int.mul_nonneg (show 0 ≤ t by omega) h1.2.2.1
  have h3 : t * w (40 + i) ≤ t * 100 := Int.mul_le_mul_of_nonneg_left h1.2.2.2 (by omega)
  simp only [sBr]
  rw [td_pos h2]
  omega
theorem sShade_range (w : Int → Int) (k p g pk : Int) : 0 ≤ sShade w k p g pk ∧ sShade w k p g pk ≤ 19 := by
  simp only [sShade, sClamp]
  split
  · omega
  · split <;> omega
/-- what stands after p places of a firing that began at w0 -/
def fI (w0 : Int → Int) (k t p : Int) (w : Int → Int) : Prop := iPi w ∧ (∀ j, j < 64 ∨ (88 ≤ j ∧ j < 90) ∨ 410 ≤ j → j ≠ 1613 → w j = w0 j) ∧ (∀ i, 0 ≤ i → i < 24 → w (64 + i) = w0 (64 + i) + (if 8 * k ≤ i ∧ i < 8 * k + p then sBr w0 t i else 0)) ∧ sumP w = sumP w0 + t * p - sFireV w0 k t p.toNat 0
theorem fI.zero {w : Int → Int} (h : iPi w) (k t : Int) : fI w k t 0 w := ⟨h, fun _ _ _ => rfl, fun i a b => by rw [if_neg (by omega), Int.add_zero], by simp [sFireV, sSum]⟩
theorem sumP_lay {w : Int → Int} (hi : iPi w) {g s t h : Int} (hg : 0 ≤ g ∧ g ≤ 3) (hs : 0 ≤ s ∧ s ≤ 19) (ht : 0 ≤ h ∧ h ≤ t) : sumP (sLay w g s t h) = sumP w + t := by
  obtain ⟨r1, r5, -⟩ := hi.lay hg hs ht
  obtain ⟨k1, k2⟩ := sLay_at (t := t) (h := h) (w := w) (g := g) (s := s) ⟨r1, r5⟩
  obtain ⟨-, r2, -, -⟩ := sLayI_range hi.1 g s
  have hn := hi.2.1
  have h0 := hi.1
  simp only [sumP]
  rw [k1]
  generalize sLayI w g s = p at *
  by_cases e : p = w 1613
  · rw [if_pos e]
    rw [sSum_snocI (g := fun p => w (250 + p)) h0 (fun j a b => by
      obtain ⟨-, -, c, -⟩ := k2 j a (by omega)
      rw [c, if_neg (by omega)])]
    obtain ⟨-, -, c, -⟩ := k2 (w 1613) h0 (by omega)
    rw [c, if_pos e.symm, if_pos e]
    omega
  · rw [if_neg e]
    rw [sSum_setI (g := fun p => w (250 + p)) r1 (show p < w 1613 by omega) (fun j a b d => by
      obtain ⟨-, -, c, -⟩ := k2 j a (by omega)
      rw [c, if_neg d])]
    obtain ⟨-, -, c, -⟩ := k2 p r1 r5
    rw [c, if_pos rfl, if_neg e]
    omega
theorem fI.bd {w0 w : Int → Int} {k t p : Int} (h0 : iN w0) (h : fI w0 k t p w) (ht : 1 ≤ t ∧ t ≤ 100) (hk : 0 ≤ k ∧ k ≤ 2) (hp : 0 ≤ p ∧ p ≤ 8) : iG w ∧ iO w ∧ 0 ≤ sFireV w0 k t p.toNat 0 ∧ sFireV w0 k t p.toNat 0 ≤ t * p ∧ (∀ i, 0 ≤ i → i < 24 → 0 ≤ w (64 + i) ∧ w (64 + i) ≤ 200100) ∧ (∀ q, 0 ≤ q → q < w 1613 → w (250 + q) ≤ 1600800) := by
  obtain ⟨h1, h2, h3, h4⟩ := h
  have hs := h0.sums
  obtain ⟨hG, hO, hB, hP, hL, hD, hS, hE⟩ := h0
  obtain ⟨s1, s2, s3, s4, s5, s6, s7, s8, s9, s10⟩ := hS
  have hv0 : 0 ≤ sFireV w0 k t p.toNat 0 := sSum_nnI (fun j a b => (sBr_range hO ht (by omega)).1)
  have hv1 : sFireV w0 k t p.toNat 0 ≤ t * p := by
    have := sSum_leq (f := fun p => sBr w0 t (8 * k + p)) (g := fun _ => t) p.toNat 0 (fun j a b => (sBr_range hO ht (by omega)).2.1)
    rw [sSum_const, Int.toNat_of_nonneg hp.1] at this
    rw [Int.mul_comm t p]
    exact this
  have hm : 0 ≤ t * p := Int.mul_nonneg (by omega) hp.1
  have hm2 : t * p ≤ 100 * 8 := Int.mul_le_mul ht.2 hp.2 hp.1 (by omega)
  refine ⟨hG.of (fun j a b => h2 j (by omega) (by omega)), hO.of (fun j a b => h2 j (by omega) (by omega)), hv0, hv1, fun i a b => ?_, fun q a b => ?_⟩
  · have h5 := hB i a b
    have h6 := sBr_range hO ht ⟨a, b⟩
    rw [h3 i a b]
    split <;> omega
  · have : w (250 + q) ≤ sumP w := sSum_leI (f := fun p => w (250 + p)) a b (fun j a b => by have := h1.2.2.1 j a b; omega)
    omega
theorem sFireA_ne {w : Int → Int} {k t p j : Int} (h : j ≠ 64 + (8 * k + p)) : sFireA w k t p j = w j := sU_ne _ _ h
theorem fI.step {w0 w : Int → Int} {k t p g pk : Int} (h0 : iN w0) (h : fI w0 k t p w) (ht : 1 ≤ t ∧ t ≤ 100) (hk : 0 ≤ k ∧ k ≤ 2) (hp : 0 ≤ p ∧ p < 8) (hg : 0 ≤ g ∧ g ≤ 3) : fI w0 k t (p + 1) (sFire1 w k g pk t p) := by
  obtain ⟨hG, hO, hv0, hv1, hb, hq⟩ := h.bd h0 ht hk ⟨hp.1, by omega⟩
  obtain ⟨h1, h2, h3, h4⟩ := h
  have hr := sBr_range hO (i := 8 * k + p) ht (by omega)
  have hb0 : sBr w0 t (8 * k + p) = sBr w t (8 * k + p) := by
    simp only [sBr]
    rw [h2 (40 + (8 * k + p)) (by omega) (by omega)]
  have hA : iPi (sFireA w k t p) := h1.of (fun j a b => sFireA_ne (by omega)) (sFireA_ne (by omega))
  have hsA : sumP (sFireA w k t p) = sumP w := by
    simp only [sumP]
    rw [sFireA_ne (by omega)]
    exact sSum_congrI (fun j a b => sFireA_ne (by omega))
  have hV : sFireV w0 k t (p + 1).toNat 0 = sFireV w0 k t p.toNat 0 + sBr w t (8 * k + p) := by
    rw [← hb0]
    exact sSum_snocI (f := fun p => sBr w0 t (8 * k + p)) (g := fun p => sBr w0 t (8 * k + p)) hp.1 (fun _ _ _ => rfl)
  have hcom : t * (p + 1) = t * p + t := by rw [Int.mul_add, Int.mul_one]
  have h64 : ∀ i, 0 ≤ i → i < 24 → sFireA w k t p (64 + i) = w0 (64 + i) + (if 8 * k ≤ i ∧ i < 8 * k + (p + 1) then sBr w0 t i else 0) := fun i a b => by
    by_cases e : i = 8 * k + p
    · subst e
      rw [sFireA, sU_eq, h3 _ a b, if_neg (by omega), if_pos (by omega), hb0]
      omega
    · rw [sFireA_ne (by omega), h3 i a b]
      by_cases e2 : 8 * k ≤ i ∧ i < 8 * k + p
      · rw [if_pos e2, if_pos (by omega)]
      · rw [if_neg e2, if_neg (by omega)]
  simp only [sFire1]
  by_cases e : 0 < t - sBr w t (8 * k + p)
  · rw [if_pos e]
    have hgg := hG g hg.1 (by omega)
    have hm := Int.mul_nonneg (show 0 ≤ t - sBr w t (8 * k + p) by omega) hgg.2.2.2.2.1
    have hm2 : (t - sBr w t (8 * k + p)) * w (8 + g) ≤ (t - sBr w t (8 * k + p)) * 100 := Int.mul_le_mul_of_nonneg_left hgg.2.2.2.2.2.1 (by omega)
    have e8 : sFireA w k t p (8 + g) = w (8 + g) := sFireA_ne (by omega)
    have hd : 0 ≤ ((t - sBr w t (8 * k + p)) * sFireA w k t p (8 + g)).tdiv 100 ∧ ((t - sBr w t (8 * k + p)) * sFireA w k t p (8 + g)).tdiv 100 ≤ t - sBr w t (8 * k + p) := by
      rw [e8, td_pos hm]
      omega
    obtain ⟨r1, r2, r3⟩ := hA.lay hg (sShade_range (sFireA w k t p) k p g pk) hd
    have hsm : ∀ j, j < 90 ∨ 410 ≤ j → j ≠ 1613 → sLay (sFireA w k t p) g (sShade (sFireA w k t p) k p g pk) (t - sBr w t (8 * k + p)) (((t - sBr w t (8 * k + p)) * sFireA w k t p (8 + g)).tdiv 100) j = sFireA w k t p j := fun j a b => sLay_same ⟨r1, r2⟩ a b
    refine ⟨r3, fun j a b => ?_, fun i a b => ?_, ?_⟩
    · rw [hsm j (by omega) b, sFireA_ne (by omega)]
      exact h2 j a b
    · rw [hsm _ (by omega) (by omega)]
      exact h64 i a b
    · rw [sumP_lay hA hg (sShade_range _ _ _ _ _) hd, hsA, h4, hV, hcom]
      omega
  · rw [if_neg e]
    refine ⟨hA, fun j a b => ?_, h64, ?_⟩
    · rw [sFireA_ne (by omega)]
      exact h2 j a b
    · rw [hsA, h4, hV, hcom]
      omega
theorem mT.lay {w : Int → Int} (h : mT w) (hi : iPi w) {g s t b : Int} (hg : 0 ≤ g ∧ g ≤ 3) (hs : 0 ≤ s ∧ s ≤ 19) (ht : 0 ≤ b ∧ b ≤ t ∧ t ≤ 100) (hq : ∀ q, 0 ≤ q → q < w 1613 → w (250 + q) ≤ 1600800) : mT (sLay w g s t b) := by
  obtain ⟨r1, r5, -⟩ := hi.lay hg hs ⟨ht.1, ht.2.1⟩
  obtain ⟨-, r2, -, -⟩ := sLayI_range hi.1 g s
  have hn := hi.2.1
  have h0 := hi.1
  simp only [sLay]
  by_cases e : sLayI w g s = w 1613
  · rw [if_pos e]
    generalize sLayI w g s = p at *
    have e1 : sLayNew w p g s (250 + p) = 0 := by rw [sLayNew, sU_ne _ _ (by omega), sU_eq]
    have e2 : sLayNew w p g s (330 + p) = 0 := by rw [sLayNew, sU_eq]
    rw [sLayAt, e1, sU_ne _ _ (by omega), e2, sLayNew]
    exact ((((((h.put (by omega)).put (by omega)).put (by omega)).put (by omega)).put (by omega)).put (by omega)).put (by omega)
  · rw [if_neg e]
    generalize sLayI w g s = p at *
    have a := hi.2.2.1 p r1 (by omega)
    have c := hq p r1 (by omega)
    rw [sLayAt, sU_ne _ _ (show (330 + p : Int) ≠ 250 + p by omega)]
    exact (h.put (by omega)).put (by omega)
theorem mT.fire1 {w0 w : Int → Int} {k t p g pk : Int} (hm : mT w) (h0 : iN w0) (h : fI w0 k t p w) (ht : 1 ≤ t ∧ t ≤ 100) (hk : 0 ≤ k ∧ k ≤ 2) (hp : 0 ≤ p ∧ p < 8) (hg : 0 ≤ g ∧ g ≤ 3) : mT (sFireA w k t p) ∧ mT (sFire1 w k g pk t p) := by
  obtain ⟨hG, hO, hv0, hv1, hb, hq⟩ := h.bd h0 ht hk ⟨hp.1, by omega⟩
  have hr := sBr_range hO (i := 8 * k + p) ht (by omega)
  have hbb := hb (8 * k + p) (by omega) (by omega)
  have hA : mT (sFireA w k t p) := hm.put (by omega)
  refine ⟨hA, ?_⟩
  have hAi : iPi (sFireA w k t p) := h.1.of (fun j a b => sFireA_ne (by omega)) (sFireA_ne (by omega))
  have hgg := hG g hg.1 (by omega)
  simp only [sFire1]
  split
  · have hmm := Int.mul_nonneg (show 0 ≤ t - sBr w t (8 * k + p) by omega) hgg.2.2.2.2.1
    have hm2 : (t - sBr w t (8 * k + p)) * w (8 + g) ≤ (t - sBr w t (8 * k + p)) * 100 := Int.mul_le_mul_of_nonneg_left hgg.2.2.2.2.2.1 (by omega)
    have e8 : sFireA w k t p (8 + g) = w (8 + g) := sFireA_ne (by omega)
    refine hA.lay hAi hg (sShade_range _ _ _ _ _) ?_ (fun q a b => ?_)
    · rw [e8, td_pos hmm]
      omega
    · rw [sFireA_ne (show (1613 : Int) ≠ _ by omega)] at b
      rw [sFireA_ne (by have := h.1.2.1; omega)]
      exact hq q a b
  · exact hA
theorem fI.all {w0 : Int → Int} {k t g pk : Int} (h0 : iN w0) (ht : 1 ≤ t ∧ t ≤ 100) (hk : 0 ≤ k ∧ k ≤ 2) (hg : 0 ≤ g ∧ g ≤ 3) : ∀ (n : Nat) (p : Int) (w : Int → Int), 0 ≤ p → p + n = 8 → fI w0 k t p w → fI w0 k t 8 (sFireL k g pk t n p w) ∧ (mT w → mT (sFireL k g pk t n p w))
  | 0, p, w, h1, h2, h3 => by
    obtain rfl : p = 8 := by omega
    exact ⟨h3, fun h => h⟩
  | n + 1, p, w, h1, h2, h3 => by
    have h4 := h3.step (pk := pk) h0 ht hk (by omega) hg
    obtain ⟨h5, h6⟩ := fI.all (g := g) (pk := pk) h0 ht hk hg n (p + 1) _ (by omega) (by omega) h4
    exact ⟨h5, fun hm => h6 (mT.fire1 hm h0 h3 ht hk (by omega) hg).2⟩
theorem sFireZ_pre {w0 w : Int → Int} {k t : Int} (h0 : iN w0) (h : fI w0 k t 8 w) (ht : 1 ≤ t ∧ t ≤ 100) (hk : 0 ≤ k ∧ k ≤ 2) (hf : w0 1610 < 2000) : iN (sU (sU (sU w 1610 (w 1610 + 1)) 1611 ((sU w 1610 (w 1610 + 1)) 1611 + 8 * t)) 1612 ((sU (sU w 1610 (w 1610 + 1)) 1611 ((sU w 1610 (w 1610 + 1)) 1611 + 8 * t)) 1612 + sFireV w0 k t 8 0)) := by
  obtain ⟨hG, hO, hv0, hv1, hb, hq⟩ := h.bd h0 ht hk ⟨by omega, by omega⟩
  obtain ⟨h1, h2, h3, h4⟩ := h
  rw [show (8 : Int).toNat = 8 from rfl] at hv0 hv1 h4
  obtain ⟨hG0, hO0, hB, hP, hL, hD, hS, hE⟩ := h0
  obtain ⟨s1, s2, s3, s4, s5, s6, s7, s8, s9, s10⟩ := hS
  rw [sU_ne w _ (show (1611 : Int) ≠ 1610 by omega), sU_ne _ _ (show (1612 : Int) ≠ 1611 by omega), sU_ne w _ (show (1612 : Int) ≠ 1610 by omega)]
  generalize hv : sFireV w0 k t 8 0 = v at *
  have e : ∀ j, j ≠ 1610 → j ≠ 1611 → j ≠ 1612 → sU (sU (sU w 1610 (w 1610 + 1)) 1611 (w 1611 + 8 * t)) 1612 (w 1612 + v) j = w j := fun j a b c => by rw [sU_ne _ _ c, sU_ne _ _ b, sU_ne _ _ a]
  have e0 : sU (sU (sU w 1610 (w 1610 + 1)) 1611 (w 1611 + 8 * t)) 1612 (w 1612 + v) 1610 = w 1610 + 1 := by rw [sU_ne _ _ (by omega), sU_ne _ _ (by omega), sU_eq]
  have e1 : sU (sU (sU w 1610 (w 1610 + 1)) 1611 (w 1611 + 8 * t)) 1612 (w 1612 + v) 1611 = w 1611 + 8 * t := by rw [sU_ne _ _ (by omega), sU_eq]
  have e2 : sU (sU (sU w 1610 (w 1610 + 1)) 1611 (w 1611 + 8 * t)) 1612 (w 1612 + v) 1612 = w 1612 + v := sU_eq _ _ _
  generalize sU (sU (sU w 1610 (w 1610 + 1)) 1611 (w 1611 + 8 * t)) 1612 (w 1612 + v) = w' at *
  have e4 : ∀ j, 410 ≤ j → j ≠ 1613 → j < 1610 ∨ 1612 < j → w' j = w0 j := fun j a b c => by rw [e j (by omega) (by omega) (by omega), h2 j (by omega) b]
  have e14 := e4 1614 (by omega) (by omega) (by omega)
  have e15 := e4 1615 (by omega) (by omega) (by omega)
  have e89 : w' 89 = w0 89 := by rw [e 89 (by omega) (by omega) (by omega), h2 89 (by omega) (by omega)]
  have a0 := h2 1610 (by omega) (by omega)
  have a1 := h2 1611 (by omega) (by omega)
  have a2 := h2 1612 (by omega) (by omega)
  have c0 : ∀ l, 0 ≤ l → l < w0 1614 → sContent w' l = sContent w0 l := fun l a b => by
    have := hL.2.1
    simp only [sContent]
    rw [e4 (890 + l) (by omega) (by omega) (by omega), e4 (1050 + l) (by omega) (by omega) (by omega), e89]
  have eP : sumP w' = sumP w := by
    simp only [sumP]
    rw [e 1613 (by omega) (by omega) (by omega)]
    exact sSum_congrI (fun j a b => e _ (by have := h1.2.1; omega) (by have := h1.2.1; omega) (by have := h1.2.1; omega))
  have eL : sumL w' = sumL w0 := by
    simp only [sumL]
    rw [e14]
    exact sSum_congrI c0
  have eO : sumO w' = sumO w0 := by
    simp only [sumO]
    rw [e15]
    exact sSum_congrI (fun j a b => e4 _ (by have := hD.2.1; omega) (by have := hD.2.1; omega) (by have := hD.2.1; omega))
  have eV : sumV w' = sumV w0 := by
    simp only [sumV]
    rw [e15]
    exact sSum_congrI (fun j a b => e4 _ (by have := hD.2.1; omega) (by have := hD.2.1; omega) (by have := hD.2.1; omega))
  refine ⟨hG.of (fun j a b => e j (by omega) (by omega) (by omega)), hO.of (fun j a b => e j (by omega) (by omega) (by omega)), fun i a b => ?_, h1.of (fun j a b => e j (by omega) (by omega) (by omega)) (e _ (by omega) (by omega) (by omega)), ?_, ?_, ?_, ?_⟩
  · rw [e (64 + i) (by omega) (by omega) (by omega), e0, h3 i a b]
    have h5 := hB i a b
    have h6 := sBr_range hO0 ht ⟨a, b⟩
    split <;> omega
  · obtain ⟨l1, l2, l3, l4⟩ := hL
    refine ⟨by omega, by omega, fun l a b => ?_, fun l m a b c => ?_⟩
    · rw [c0 l a (by omega), e4 (410 + l) (by omega) (by omega) (by omega), e4 (570 + l) (by omega) (by omega) (by omega), e4 (730 + l) (by omega) (by omega) (by omega), e4 (890 + l) (by omega) (by omega) (by omega), e4 (1050 + l) (by omega) (by omega) (by omega), e4 (1210 + l) (by omega) (by omega) (by omega)]
      exact l3 l a (by omega)
    · rw [e4 (410 + l) (by omega) (by omega) (by omega), e4 (570 + l) (by omega) (by omega) (by omega), e4 (730 + l) (by omega) (by omega) (by omega), e4 (410 + m) (by omega) (by omega) (by omega), e4 (570 + m) (by omega) (by omega) (by omega), e4 (730 + m) (by omega) (by omega) (by omega)]
      exact l4 l m a b (by omega)
  · obtain ⟨d1, d2, d3⟩ := hD
    refine ⟨by omega, by omega, fun d a b => ?_⟩
    rw [e4 (1370 + d) (by omega) (by omega) (by omega), e4 (1410 + d) (by omega) (by omega) (by omega), e4 (1450 + d) (by omega) (by omega) (by omega), e4 (1490 + d) (by omega) (by omega) (by omega), e4 (1530 + d) (by omega) (by omega) (by omega), e14]
    exact d3 d a (by omega)
  · simp only [iS]
    rw [eP, eL, eO, eV, e89, e0, e1, e2, e 88 (by omega) (by omega) (by omega), h2 88 (by omega) (by omega), e4 1617 (by omega) (by omega) (by omega)]
    refine ⟨by omega, by omega, by omega, by omega, by omega, by omega, by omega, by omega, by omega, by omega⟩
  · simp only [iE]
    rw [e4 1616 (by omega) (by omega) (by omega)]
    exact hE
theorem iN.fire {w : Int → Int} {k g pk t : Int} (h : iN w) (ht : 1 ≤ t ∧ t ≤ 100) (hk : 0 ≤ k ∧ k ≤ 2) (hg : 0 ≤ g ∧ g ≤ 3) (hf : w 1610 < 2000) : iN (sFire w k g pk t) :=
  (sFireZ_pre h (fI.all h ht hk hg 8 0 w (by omega) (by omega) (fI.zero h.2.2.2.1 k t)).1 ht hk hf).hap _ _
theorem mT.fire {w : Int → Int} {k g pk t : Int} (hm : mT w) (h : iN w) (ht : 1 ≤ t ∧ t ≤ 100) (hk : 0 ≤ k ∧ k ≤ 2) (hg : 0 ≤ g ∧ g ≤ 3) (hf : w 1610 < 2000) : mT (sFire w k g pk t) := by
  obtain ⟨h1, h2⟩ := fI.all (pk := pk) h ht hk hg 8 0 w (by omega) (by omega) (fI.zero h.2.2.2.1 k t)
  have h3 := sFireZ_pre h h1 ht hk hf
  obtain ⟨-, -, hv0, hv1, -, -⟩ := h1.bd h ht hk ⟨by omega, by omega⟩
  rw [show (8 : Int).toNat = 8 from rfl] at hv0 hv1
  have hs := h.2.2.2.2.2.2.1
  obtain ⟨s1, s2, s3, s4, s5, s6, s7, s8, s9, s10⟩ := hs
  have hsu := h.sums
  have a0 := h1.2.1 1610 (by omega) (by omega)
  have a1 := h1.2.1 1611 (by omega) (by omega)
  have a2 := h1.2.1 1612 (by omega) (by omega)
  refine mT.hap ?_ h3.2.2.2.2.2.2.2 (by omega) (by omega)
  refine ((h2 hm |>.put (by omega)).put ?_).put ?_
  · rw [sU_ne _ _ (by omega)]; omega
  · rw [sU_ne _ _ (by omega), sU_ne _ _ (by omega)]; omega
