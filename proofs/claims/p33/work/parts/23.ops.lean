/-! ===== the other calls: packing, delivering, dropping, taking back, replacing, setting ===== -/
theorem iZ.fire {w : Int → Int} {k g pk t : Int} (hz : iZ w) (h : iN w) (ht : 1 ≤ t ∧ t ≤ 100) (hk : 0 ≤ k ∧ k ≤ 2) (hg : 0 ≤ g ∧ g ≤ 3) (hf : w 1610 < 2000) : iZ (sFire w k g pk t) := by
  obtain ⟨h1, -⟩ := fI.all (pk := pk) h ht hk hg 8 0 w (by omega) (by omega) (fI.zero h.2.2.2.1 k t)
  have h3 := sFireZ_pre h h1 ht hk hf
  have key : ∀ j, 410 ≤ j → j < 1570 ∨ j = 1614 → sFire w k g pk t j = w j := fun j a b => by
    rw [sFire, sFireZ, sHap_same h3.2.2.2.2.2.2.2 (by omega) (by omega), sU_ne _ _ (by omega), sU_ne _ _ (by omega), sU_ne _ _ (by omega)]
    exact h1.2.1 j (by omega) (by omega)
  exact hz.of h.2.2.2.2.1.1 (fun j a b => key j (by omega) (by omega)) (key 1614 (by omega) (by omega))
/-- calls that leave glazes, kilns, piles and the lots' names as they are -/
theorem iN.mk {w w' : Int → Int} (h : iN w) (e1 : ∀ j, j < 890 → w' j = w j) (e2 : ∀ j, j = 1610 ∨ j = 1611 ∨ j = 1613 ∨ j = 1614 → w' j = w j)
    (hl : ∀ l, 0 ≤ l → l < w 1614 → 0 ≤ w' (890 + l) ∧ 0 ≤ w' (1050 + l) ∧ 0 ≤ w' (1210 + l) ∧ w' (1210 + l) ≤ sContent w' l) (hd : iD w') (hb : 0 ≤ w' 1612) (hs : sumL w' + w 89 * sumO w' + w' 1612 = sumL w + w 89 * sumO w + w 1612) (hv : w' 1617 = sumV w') (he : iE w') : iN w' := by
  obtain ⟨hG, hO, hB, hP, hL, hD, hS, hE⟩ := h
  obtain ⟨s1, s2, s3, s4, s5, s6, s7, s8, s9, s10⟩ := hS
  have e13 := e2 1613 (by omega)
  have e14 := e2 1614 (by omega)
  have e89 := e1 89 (by omega)
  have eP : sumP w' = sumP w := by
    simp only [sumP]
    rw [e13]
    exact sSum_congrI (fun j a b => e1 _ (by have := hP.2.1; omega))
  refine ⟨hG.of (fun j a b => e1 j (by omega)), hO.of (fun j a b => e1 j (by omega)), fun i a b => ?_, hP.of (fun j a b => e1 j (by omega)) e13, ?_, hd, ?_, he⟩
  · rw [e1 (64 + i) (by omega), e2 1610 (by omega)]
    exact hB i a b
  · obtain ⟨h1, h2, h3, h4⟩ := hL
    refine ⟨by omega, by omega, fun l a b => ?_, fun l m a b c => ?_⟩
    · rw [e1 (410 + l) (by omega), e1 (570 + l) (by omega), e1 (730 + l) (by omega)]
      have := h3 l a (by omega)
      have := hl l a (by omega)
      omega
    · rw [e1 (410 + l) (by omega), e1 (570 + l) (by omega), e1 (730 + l) (by omega), e1 (410 + m) (by omega), e1 (570 + m) (by omega), e1 (730 + m) (by omega)]
      exact h4 l m a b (by omega)
  · simp only [iS]
    rw [eP, e89, e1 88 (by omega), e2 1610 (by omega), e2 1611 (by omega)]
    exact ⟨by omega, by omega, by omega, by omega, by omega, by omega, by omega, by omega, by omega, by omega⟩
theorem iD.of {w w' : Int → Int} (h : iD w) (e : ∀ j, 1370 ≤ j → j < 1570 → w' j = w j) (e2 : w' 1614 = w 1614) (e3 : w' 1615 = w 1615) : iD w' := by
  obtain ⟨h1, h2, h3⟩ := h
  refine ⟨by omega, by omega, fun d a b => ?_⟩
  rw [e (1370 + d) (by omega) (by omega), e (1410 + d) (by omega) (by omega), e (1450 + d) (by omega) (by omega), e (1490 + d) (by omega) (by omega), e (1530 + d) (by omega) (by omega), e2]
  exact h3 d a (by omega)
theorem sumO_of {w w' : Int → Int} (hD : iD w) (e : ∀ j, 1370 ≤ j → j < 1570 → w' j = w j) (e3 : w' 1615 = w 1615) : sumO w' = sumO w ∧ sumV w' = sumV w := by
  have h1 := hD.2.1
  constructor
  · simp only [sumO]
    rw [e3]
    exact sSum_congrI (fun j a b => e _ (by omega) (by omega))
  · simp only [sumV]
    rw [e3]
    exact sSum_congrI (fun j a b => e _ (by omega) (by omega))
-- pack
theorem sPack_lem {w : Int → Int} (h : iN w) {l : Int} (h1 : 0 ≤ l) (h2 : l < w 1614) : 0 ≤ (w (890 + l)).tdiv (w 89) ∧ (w (890 + l)).tdiv (w 89) * w 89 ≤ w (890 + l) ∧ (w (890 + l)).tdiv (w 89) ≤ w (890 + l) ∧ w (890 + l) ≤ 1600000 := by
  obtain ⟨a1, a2, a3, a4, a5, a6, a7⟩ := h.lot h1 h2
  have hS := h.2.2.2.2.2.2.1
  obtain ⟨s1, s2, s3, s4, s5, s6, s7, s8, s9, s10⟩ := hS
  have b := Int.mul_nonneg a2 (show 0 ≤ w 89 by omega)
  rw [td_pos a1]
  exact ⟨Int.ediv_nonneg a1 (by omega), Int.ediv_mul_le _ (by omega), Int.ediv_le_self _ a1, by omega⟩
theorem sPack_at {w : Int → Int} (h : iN w) : (∀ l, 0 ≤ l → l < w 1614 → sPack w (1050 + l) = w (1050 + l) + (w (890 + l)).tdiv (w 89) ∧ sPack w (890 + l) = w (890 + l) - (w (890 + l)).tdiv (w 89) * w 89) ∧ (∀ j, j < 890 ∨ 1050 + w 1614 ≤ j ∨ (890 + w 1614 ≤ j ∧ j < 1050) → sPack w j = w j) := by
  have h1 := h.2.2.2.2.1.1
  have h2 := h.2.2.2.2.1.2.1
  refine ⟨fun l a b => ⟨?_, ?_⟩, fun j a => ?_⟩
  · rw [sPack, sPackK, if_pos (by omega), show 1050 + l - 160 = 890 + l by omega]
  · rw [sPack, sPackK, if_neg (by omega), if_pos (by omega)]
  · rw [sPack, sPackK, if_neg (by omega), if_neg (by omega)]
theorem iN.pack {w : Int → Int} (h : iN w) : iN (sPack w) := by
  obtain ⟨k1, k2⟩ := sPack_at h
  have h1 := h.2.2.2.2.1.1
  have h2 := h.2.2.2.2.1.2.1
  obtain ⟨q1, q2⟩ := sumO_of (w' := sPack w) h.2.2.2.2.2.1 (fun j a b => k2 j (by omega)) (k2 _ (by omega))
  have hS := h.2.2.2.2.2.2.1
  obtain ⟨s1, s2, s3, s4, s5, s6, s7, s8, s9, s10⟩ := hS
  have e14 := k2 1614 (by omega)
  have e89 := k2 89 (by omega)
  have e12 := k2 1612 (by omega)
  have ct : ∀ l, 0 ≤ l → l < w 1614 → sContent (sPack w) l = sContent w l := fun l a b => by
    obtain ⟨c1, c2⟩ := k1 l a b
    simp only [sContent]
    rw [c1, c2, e89, Int.add_mul]
    omega
  have eL : sumL (sPack w) = sumL w := by
    simp only [sumL]
    rw [e14]
    exact sSum_congrI ct
  refine h.mk (fun j a => k2 j (by omega)) (fun j a => k2 j (by omega)) (fun l a b => ?_) (h.2.2.2.2.2.1.of (fun j a b => k2 j (by omega)) e14 (k2 _ (by omega))) (by omega) (by rw [eL, q1, e12]) (by rw [q2, k2 1617 (by omega)]; exact s10) ?_
  · obtain ⟨c1, c2⟩ := k1 l a b
    obtain ⟨a1, a2, a3, a4, a5, a6, a7⟩ := h.lot a b
    obtain ⟨b1, b2, b3, b4⟩ := sPack_lem h a b
    rw [ct l a b, c1, c2, k2 (1210 + l) (by omega)]
    omega
  · simp only [iE]
    rw [k2 1616 (by omega)]
    exact h.2.2.2.2.2.2.2
theorem mT.pack {w : Int → Int} (hm : mT w) (h : iN w) : mT (sPack w) := fun j => by
  obtain ⟨k1, k2⟩ := sPack_at h
  by_cases e : 1050 ≤ j ∧ j < 1050 + w 1614
  · obtain ⟨c1, c2⟩ := k1 (j - 1050) (by omega) (by omega)
    obtain ⟨a1, a2, a3, a4, a5, a6, a7⟩ := h.lot (l := j - 1050) (by omega) (by omega)
    obtain ⟨b1, b2, b3, b4⟩ := sPack_lem h (l := j - 1050) (by omega) (by omega)
    rw [show j = 1050 + (j - 1050) by omega, c1]
    omega
  · by_cases e2 : 890 ≤ j ∧ j < 890 + w 1614
    · obtain ⟨c1, c2⟩ := k1 (j - 890) (by omega) (by omega)
      obtain ⟨b1, b2, b3, b4⟩ := sPack_lem h (l := j - 890) (by omega) (by omega)
      have hS := h.2.2.2.2.2.2.1
      have := Int.mul_nonneg b1 (show 0 ≤ w 89 by have := hS.2.2.1; omega)
      rw [show j = 890 + (j - 890) by omega, c2]
      omega
    · rw [k2 j (by omega)]
      exact hm j
theorem iZ.pack {w : Int → Int} (hz : iZ w) (h : iN w) : iZ (sPack w) := fun l a b => by
  obtain ⟨k1, k2⟩ := sPack_at h
  have h1 := h.2.2.2.2.1.1
  have h2 := h.2.2.2.2.1.2.1
  rw [k2 1614 (by omega)] at a
  rw [k2 (890 + l) (by omega), k2 (1050 + l) (by omega), k2 (1210 + l) (by omega)]
  exact hz l a b
-- breaking
theorem iN.brk {w w' : Int → Int} {t : Int} (ht : 0 ≤ t) (h : iN (sU w 1612 (w 1612 + t))) (hw : w' = sBrk w t) : iN w' := by
  subst hw
  simp only [sBrk]
  split
  · exact h.hap _ _
  · exact h
theorem sBrk_same {w : Int → Int} {t j : Int} (he : iE w) (h : j < 1570 ∨ 1610 ≤ j) (h2 : j ≠ 1616) (h3 : j ≠ 1612) : sBrk w t j = w j := by
  simp only [sBrk]
  split
  · rw [sHap_same (by simp only [iE]; rw [sU_ne _ _ (by omega)]; exact he) h h2, sU_ne _ _ h3]
  · rw [sU_ne _ _ h3]
theorem mT.brk {w : Int → Int} {t : Int} (hm : mT w) (he : iE w) (ht : 0 ≤ t ∧ t ≤ 10000000) (hb : 0 ≤ w 1612 ∧ w 1612 ≤ 1600000) : mT (sU w 1612 (w 1612 + t)) ∧ mT (sBrk w t) := by
  have h1 : mT (sU w 1612 (w 1612 + t)) := hm.put (by omega)
  refine ⟨h1, ?_⟩
  simp only [sBrk]
  split
  · exact h1.hap (by simp only [iE]; rw [sU_ne _ _ (by omega)]; exact he) (by omega) (by omega)
  · exact h1
-- one lot's loose tiles, boxes and hidden defects
def sLot3 (w : Int → Int) (l a b c : Int) : Int → Int := sU (sU (sU w (890 + l) a) (1050 + l) b) (1210 + l) c
theorem sLot3_at {w : Int → Int} {l a b c : Int} (hl : 0 ≤ l ∧ l < 160) : (∀ q, 0 ≤ q → q < 160 → sLot3 w l a b c (890 + q) = (if q = l then a else w (890 + q)) ∧ sLot3 w l a b c (1050 + q) = (if q = l then b else w (1050 + q)) ∧ sLot3 w l a b c (1210 + q) = (if q = l then c else w (1210 + q))) ∧ (∀ j, j < 890 ∨ 1370 ≤ j → sLot3 w l a b c j = w j) := by
  refine ⟨fun q h1 h2 => ?_, fun j h => ?_⟩
  · simp only [sLot3, sU]
    by_cases e : q = l
    · subst e
      refine ⟨?_, ?_, ?_⟩
      · rw [if_neg (by omega), if_neg (by omega), if_pos rfl, if_pos rfl]
      · rw [if_neg (by omega), if_pos rfl, if_pos rfl]
      · rw [if_pos rfl, if_pos rfl]
    · refine ⟨?_, ?_, ?_⟩
      · rw [if_neg (by omega), if_neg (by omega), if_neg (by omega), if_neg e]
      · rw [if_neg (by omega), if_neg (by omega), if_neg (by omega), if_neg e]
      · rw [if_neg (by omega), if_neg (by omega), if_neg (by omega), if_neg e]
  · rw [sLot3, sU_ne _ _ (by omega), sU_ne _ _ (by omega), sU_ne _ _ (by omega)]
theorem sumL_lot {w w' : Int → Int} {l : Int} (hl : 0 ≤ l ∧ l < w 1614) (e14 : w' 1614 = w 1614) (e : ∀ q, 0 ≤ q → q < w 1614 → q ≠ l → sContent w' q = sContent w q) : sumL w' = sumL w + (sContent w' l - sContent w l) := by
  simp only [sumL]
  rw [e14]
  exact sSum_setI (f := fun l => sContent w' l) (g := fun l => sContent w l) hl.1 hl.2 e
theorem mT.lot3 {w : Int → Int} (hm : mT w) {l a b c : Int} (ha : 0 ≤ a ∧ a ≤ 10000000) (hb : 0 ≤ b ∧ b ≤ 10000000) (hc : 0 ≤ c ∧ c ≤ 10000000) : mT (sLot3 w l a b c) := ((hm.put (by omega)).put (by omega)).put (by omega)
theorem iZ.lot3 {w : Int → Int} (hz : iZ w) {l a b c : Int} (hl : 0 ≤ l ∧ l < w 1614) (h2 : w 1614 ≤ 160) : iZ (sLot3 w l a b c) := fun q x y => by
  obtain ⟨k1, k2⟩ := sLot3_at (w := w) (l := l) (a := a) (b := b) (c := c) (by omega)
  rw [k2 1614 (by omega)] at x
  obtain ⟨c1, c2, c3⟩ := k1 q (by omega) y
  rw [c1, c2, c3, if_neg (by omega), if_neg (by omega), if_neg (by omega)]
  exact hz q x y
def sMin (a b : Int) : Int := if b < a then b else a
theorem sMin_le (a b : Int) : sMin a b ≤ a ∧ sMin a b ≤ b ∧ (sMin a b = a ∨ sMin a b = b) := by
  simp only [sMin]
  split <;> omega
-- drop
def sDropW (w : Int → Int) (l b : Int) : Int → Int := sLot3 w l (w (890 + l) + (w 89 - b)) (w (1050 + l) - 1) (sMin (w (1210 + l)) (w (890 + l) + (w 89 - b) + (w (1050 + l) - 1) * w 89))
def sDrop (w : Int → Int) (g s r b : Int) : Int → Int := sBrk (sDropW w (sFind w g s r) b) b
theorem sDrop_pre {w : Int → Int} {l b : Int} (h : iN w) (hl : 0 ≤ l ∧ l < w 1614) (hb : 0 ≤ b ∧ b ≤ w 89) (hx : w (1050 + l) ≠ 0) : iN (sU (sDropW w l b) 1612 (sDropW w l b 1612 + b)) ∧ (mT w → mT (sDropW w l b) ∧ mT (sBrk (sDropW w l b) b)) ∧ (iZ w → iZ (sDropW w l b) ∧ iZ (sBrk (sDropW w l b) b)) ∧ iE (sDropW w l b) ∧ sDropW w l b (1050 + l) = w (1050 + l) - 1 ∧ sBrk (sDropW w l b) b (1050 + l) = w (1050 + l) - 1 := by
  have hn := h.2.2.2.2.1
  obtain ⟨a1, a2, a3, a4, a5, a6, a7⟩ := h.lot hl.1 hl.2
  obtain ⟨s1, s2, s3, s4, s5, s6, s7, s8, s9, s10⟩ := h.2.2.2.2.2.2.1
  have hsum := h.sums
  have hs3 := sLot3_at (w := w) (l := l) (a := w (890 + l) + (w 89 - b)) (b := w (1050 + l) - 1) (c := sMin (w (1210 + l)) (w (890 + l) + (w 89 - b) + (w (1050 + l) - 1) * w 89)) ⟨hl.1, by have := hn.2.1; omega⟩
  have hmin := sMin_le (w (1210 + l)) (w (890 + l) + (w 89 - b) + (w (1050 + l) - 1) * w 89)
  have hp : 0 ≤ (w (1050 + l) - 1) * w 89 := Int.mul_nonneg (by omega) (by omega)
  have hp2 : (w (1050 + l) - 1) * w 89 = w (1050 + l) * w 89 - w 89 := by rw [Int.sub_mul, Int.one_mul]
  have hm : mT w → mT (sDropW w l b) := fun hm => hm.lot3 (by omega) (by omega) (by omega)
  have hz : iZ w → iZ (sDropW w l b) := fun hz => hz.lot3 hl hn.2.1
  have hE : iE (sDropW w l b) := by
    simp only [iE, sDropW]
    rw [hs3.2 1616 (by omega)]
    exact h.2.2.2.2.2.2.2
  have hx0 : sDropW w l b (1050 + l) = w (1050 + l) - 1 := by
    have := (hs3.1 l hl.1 (by have := hn.2.1; omega)).2.1
    rw [if_pos rfl] at this
    exact this
  have h12 : sDropW w l b 1612 = w 1612 := hs3.2 1612 (by omega)
  have h14 : sDropW w l b 1614 = w 1614 := hs3.2 1614 (by omega)
  have hzz : ∀ v, iZ v → v 1614 = w 1614 → iE v → iZ (sBrk v b) := fun v hz e he => hz.of (by have := hn.1; omega) (fun j x y => sBrk_same he (by omega) (by omega) (by omega)) (sBrk_same he (by omega) (by omega) (by omega))
  refine ⟨?_, fun h1 => ⟨hm h1, (mT.brk (hm h1) hE ⟨by omega, by omega⟩ (by rw [h12]; omega)).2⟩, fun h1 => ⟨hz h1, hzz _ (hz h1) h14 hE⟩, hE, hx0, ?_⟩
  · have k1 : ∀ j, j < 890 ∨ 1370 ≤ j → j ≠ 1612 → sU (sDropW w l b) 1612 (sDropW w l b 1612 + b) j = w j := fun j a c => by rw [sU_ne _ _ c]; exact hs3.2 j a
    have k2 : ∀ q, 0 ≤ q → q < 160 → sU (sDropW w l b) 1612 (sDropW w l b 1612 + b) (890 + q) = (if q = l then w (890 + l) + (w 89 - b) else w (890 + q)) ∧ sU (sDropW w l b) 1612 (sDropW w l b 1612 + b) (1050 + q) = (if q = l then w (1050 + l) - 1 else w (1050 + q)) ∧ sU (sDropW w l b) 1612 (sDropW w l b 1612 + b) (1210 + q) = (if q = l then sMin (w (1210 + l)) (w (890 + l) + (w 89 - b) + (w (1050 + l) - 1) * w 89) else w (1210 + q)) := fun q x y => by
      rw [sU_ne _ _ (by omega), sU_ne _ _ (by omega), sU_ne _ _ (by omega)]
      exact hs3.1 q x y
    have k3 : sU (sDropW w l b) 1612 (sDropW w l b 1612 + b) 1612 = w 1612 + b := by rw [sU_eq, h12]
    generalize sU (sDropW w l b) 1612 (sDropW w l b 1612 + b) = w' at *
    have e89 := k1 89 (by omega) (by omega)
    have ct : ∀ q, 0 ≤ q → q < w 1614 → sContent w' q = (if q = l then sContent w l - b else sContent w q) := fun q x y => by
      obtain ⟨c1, c2, c3⟩ := k2 q x (by have := hn.2.1; omega)
      simp only [sContent]
      rw [c1, c2, e89]
      by_cases e : q = l
      · subst e
        rw [if_pos rfl, if_pos rfl, if_pos rfl]
        omega
      · rw [if_neg e, if_neg e, if_neg e]
    have eL := sumL_lot (w' := w') hl (k1 1614 (by omega) (by omega)) (fun q x y z => by rw [ct q x y, if_neg z])
    rw [ct l hl.1 hl.2, if_pos rfl] at eL
    obtain ⟨q1, q2⟩ := sumO_of (w' := w') h.2.2.2.2.2.1 (fun j x y => k1 j (by omega) (by omega)) (k1 _ (by omega) (by omega))
    refine h.mk (fun j x => k1 j (by omega) (by omega)) (fun j x => k1 j (by omega) (by omega)) (fun q x y => ?_) (h.2.2.2.2.2.1.of (fun j x y => k1 j (by omega) (by omega)) (k1 _ (by omega) (by omega)) (k1 _ (by omega) (by omega))) (by omega) (by rw [eL, q1, k3]; omega) (by rw [q2, k1 1617 (by omega) (by omega)]; exact s10) ?_
    · obtain ⟨c1, c2, c3⟩ := k2 q x (by have := hn.2.1; omega)
      rw [ct q x y, c1, c2, c3]
      by_cases e : q = l
      · rw [if_pos e, if_pos e, if_pos e, if_pos e]
        omega
      · rw [if_neg e, if_neg e, if_neg e, if_neg e]
        have := h.lot x y
        omega
    · simp only [iE]
      rw [k1 1616 (by omega) (by omega)]
      exact h.2.2.2.2.2.2.2
  · rw [sBrk_same hE (by have := hn.2.1; omega) (by have := hn.2.1; omega) (by have := hn.2.1; omega)]
    exact hx0
theorem iN.drop {w : Int → Int} {l b : Int} (h : iN w) (hl : 0 ≤ l ∧ l < w 1614) (hb : 0 ≤ b ∧ b ≤ w 89) (hx : w (1050 + l) ≠ 0) : iN (sBrk (sDropW w l b) b) := iN.brk hb.1 (sDrop_pre h hl hb hx).1 rfl
-- deliver
def sDelD (w : Int → Int) (d l b bad val : Int) : Int → Int := sU (sU (sU (sU (sU (sU (sU w 1615 (w 1615 + 1)) (1370 + d) l) (1410 + d) b) (1450 + d) b) (1490 + d) bad) (1530 + d) val) 1617 (w 1617 + val)
def sBad (w : Int → Int) (l b : Int) : Int := (w (1210 + l) * (b * w 89)).tdiv (sContent w l)
def sDelW (w : Int → Int) (l b : Int) : Int → Int := sLot3 (sDelD w (w 1615) l b (sBad w l b) (b * w 89 * sWorth w l)) l (w (890 + l)) (w (1050 + l) - b) (sMin (w (1210 + l) - sBad w l b) (w (890 + l) + (w (1050 + l) - b) * w 89))
def sDel (w : Int → Int) (g r b : Int) : Int → Int := sHap (sDelW w (sLotFor w g r b) b) 3 (w 1615)
theorem sBad_range {w : Int → Int} {l b : Int} (h : iN w) (hl : 0 ≤ l ∧ l < w 1614) (hb : 1 ≤ b ∧ b ≤ w (1050 + l)) : 1 ≤ sContent w l ∧ 0 ≤ b * w 89 ∧ b ≤ b * w 89 ∧ b * w 89 ≤ w (1050 + l) * w 89 ∧ 0 ≤ w (1210 + l) * (b * w 89) ∧ w (1210 + l) * (b * w 89) ≤ 1600000 * 1600000 ∧ 0 ≤ sBad w l b ∧ sBad w l b ≤ w (1210 + l) ∧ sBad w l b = w (1210 + l) * (b * w 89) / sContent w l := by
  obtain ⟨a1, a2, a3, a4, a5, a6, a7⟩ := h.lot hl.1 hl.2
  obtain ⟨s1, s2, s3, s4, s5, s6, s7, s8, s9, s10⟩ := h.2.2.2.2.2.2.1
  have h1 : 0 ≤ b * w 89 := Int.mul_nonneg (by omega) (by omega)
  have h2 : b * 1 ≤ b * w 89 := Int.mul_le_mul_of_nonneg_left s3 (by omega)
  have h3 : b * w 89 ≤ w (1050 + l) * w 89 := Int.mul_le_mul_of_nonneg_right hb.2 (by omega)
  have h4 := Int.mul_nonneg a4 h1
  have h5 : w (1210 + l) * (b * w 89) ≤ 1600000 * 1600000 := Int.mul_le_mul (by omega) (by omega) h1 (by omega)
  have h6 : w (1210 + l) * (b * w 89) ≤ w (1210 + l) * sContent w l := Int.mul_le_mul_of_nonneg_left (by omega) a4
  have h7 : sBad w l b = w (1210 + l) * (b * w 89) / sContent w l := td_pos h4
  refine ⟨by omega, h1, by omega, h3, h4, h5, ?_, ?_, h7⟩
  · rw [h7]
    exact Int.ediv_nonneg h4 (by omega)
  · rw [h7]
    have := Int.ediv_le_ediv (show 0 < sContent w l by omega) h6
    rw [Int.mul_ediv_cancel _ (show sContent w l ≠ 0 by omega)] at this
    exact this
theorem sWorth_range {w : Int → Int} {l : Int} (h : iN w) (hl : 0 ≤ l ∧ l < w 1614) : 0 ≤ sWorth w l ∧ sWorth w l ≤ 9999 := by
  have a := h.2.2.2.2.1.2.2.1 l hl.1 hl.2
  have b := h.1 (w (410 + l)) (by omega) (by omega)
  simp only [sWorth]
  split
  · omega
  · rw [td_pos (by omega)]; omega
theorem sDelD_at {w : Int → Int} {d l b bad val : Int} (hd : 0 ≤ d ∧ d < 40) (e : d = w 1615) : sDelD w d l b bad val 1615 = w 1615 + 1 ∧ sDelD w d l b bad val 1617 = w 1617 + val ∧ (∀ q, 0 ≤ q → q < 40 → sDelD w d l b bad val (1370 + q) = (if q = d then l else w (1370 + q)) ∧ sDelD w d l b bad val (1410 + q) = (if q = d then b else w (1410 + q)) ∧ sDelD w d l b bad val (1450 + q) = (if q = d then b else w (1450 + q)) ∧ sDelD w d l b bad val (1490 + q) = (if q = d then bad else w (1490 + q)) ∧ sDelD w d l b bad val (1530 + q) = (if q = d then val else w (1530 + q))) ∧ (∀ j, j < 1370 ∨ 1570 ≤ j → j ≠ 1615 → j ≠ 1617 → sDelD w d l b bad val j = w j) := by
  simp only [sDelD, sU]
  refine ⟨?_, ?_, fun q h1 h2 => ⟨?_, ?_, ?_, ?_, ?_⟩, fun j h1 h2 h3 => ?_⟩
  · rw [if_neg (by omega), if_neg (by omega), if_neg (by omega), if_neg (by omega), if_neg (by omega), if_neg (by omega), if_pos (by first | trivial | rfl)]
  · rw [if_pos (by first | trivial | rfl)]
  · rw [if_neg (by omega), if_neg (by omega), if_neg (by omega), if_neg (by omega), if_neg (by omega)]
    by_cases e : q = d
    · rw [if_pos (by omega), if_pos e]
    · rw [if_neg (by omega), if_neg (by omega), if_neg e]
  · rw [if_neg (by omega), if_neg (by omega), if_neg (by omega), if_neg (by omega)]
    by_cases e : q = d
    · rw [if_pos (by omega), if_pos e]
    · rw [if_neg (by omega), if_neg (by omega), if_neg (by omega), if_neg e]
  · rw [if_neg (by omega), if_neg (by omega), if_neg (by omega)]
    by_cases e : q = d
    · rw [if_pos (by omega), if_pos e]
    · rw [if_neg (by omega), if_neg (by omega), if_neg (by omega), if_neg (by omega), if_neg e]
  · rw [if_neg (by omega), if_neg (by omega)]
    by_cases e : q = d
    · rw [if_pos (by omega), if_pos e]
    · rw [if_neg (by omega), if_neg (by omega), if_neg (by omega), if_neg (by omega), if_neg (by omega), if_neg e]
  · rw [if_neg (by omega)]
    by_cases e : q = d
    · rw [if_pos (by omega), if_pos e]
    · rw [if_neg (by omega), if_neg (by omega), if_neg (by omega), if_neg (by omega), if_neg (by omega), if_neg (by omega), if_neg e]
  · rw [if_neg (by omega), if_neg (by omega), if_neg (by omega), if_neg (by omega), if_neg (by omega), if_neg (by omega), if_neg (by omega)]
theorem sDel_pre {w : Int → Int} {l b : Int} (h : iN w) (hl : 0 ≤ l ∧ l < w 1614) (hb : 1 ≤ b ∧ b ≤ w (1050 + l)) (hb2 : b ≤ 100000) (hd : w 1615 < 40) : iN (sDelW w l b) ∧ (mT w → mT (sDelW w l b)) ∧ (iZ w → iZ (sDelW w l b)) := by
  have hn := h.2.2.2.2.1
  obtain ⟨a1, a2, a3, a4, a5, a6, a7⟩ := h.lot hl.1 hl.2
  obtain ⟨s1, s2, s3, s4, s5, s6, s7, s8, s9, s10⟩ := h.2.2.2.2.2.2.1
  obtain ⟨d1, d2, d3⟩ := h.2.2.2.2.2.1
  have hsum := h.sums
  obtain ⟨b1, b2, b3, b4, b5, b6, b7, b8, b9⟩ := sBad_range h hl hb
  have hw := sWorth_range h hl
  have hv0 : 0 ≤ b * w 89 * sWorth w l := Int.mul_nonneg b2 hw.1
  have hv1 : b * w 89 * sWorth w l ≤ 1600000 * 9999 := Int.mul_le_mul (by omega) hw.2 hw.1 (by omega)
  obtain ⟨q1, q2, q3, q4⟩ := sDelD_at (w := w) (d := w 1615) (l := l) (b := b) (bad := sBad w l b) (val := b * w 89 * sWorth w l) ⟨d1, hd⟩ rfl
  have hs3 := sLot3_at (w := sDelD w (w 1615) l b (sBad w l b) (b * w 89 * sWorth w l)) (l := l) (a := w (890 + l)) (b := w (1050 + l) - b) (c := sMin (w (1210 + l) - sBad w l b) (w (890 + l) + (w (1050 + l) - b) * w 89)) ⟨hl.1, by have := hn.2.1; omega⟩
  have hmin := sMin_le (w (1210 + l) - sBad w l b) (w (890 + l) + (w (1050 + l) - b) * w 89)
  have hp2 : (w (1050 + l) - b) * w 89 = w (1050 + l) * w 89 - b * w 89 := by rw [Int.sub_mul]
  have hsv : 0 ≤ sumV w ∧ sumV w ≤ 800000000000 := by
    have e1 := sSum_nnI (f := fun d => w (1530 + d)) (n := w 1615) (fun j a b => by have := d3 j a b; omega)
    have e2 := sSum_leq (f := fun d => w (1530 + d)) (g := fun _ => 20000000000) (w 1615).toNat 0 (fun j a b => by have := d3 j a (by omega); omega)
    rw [sSum_const] at e2
    simp only [sumV]
    omega
  refine ⟨?_, fun hm => ?_, fun hz => ?_⟩
  · have k1 : ∀ j, j < 890 ∨ 1570 ≤ j → j ≠ 1615 → j ≠ 1617 → sDelW w l b j = w j := fun j x y z => by rw [sDelW, hs3.2 j (by omega), q4 j (by omega) y z]
    have k2 : ∀ q, 0 ≤ q → q < 160 → sDelW w l b (890 + q) = w (890 + q) ∧ sDelW w l b (1050 + q) = (if q = l then w (1050 + l) - b else w (1050 + q)) ∧ sDelW w l b (1210 + q) = (if q = l then sMin (w (1210 + l) - sBad w l b) (w (890 + l) + (w (1050 + l) - b) * w 89) else w (1210 + q)) := fun q x y => by
      obtain ⟨c1, c2, c3⟩ := hs3.1 q x y
      rw [sDelW, c1, c2, c3, q4 (890 + q) (by omega) (by omega) (by omega), q4 (1050 + q) (by omega) (by omega) (by omega), q4 (1210 + q) (by omega) (by omega) (by omega)]
      refine ⟨?_, rfl, rfl⟩
      split
      · subst_vars; rfl
      · rfl
    have k3 : ∀ j, 1370 ≤ j → sDelW w l b j = sDelD w (w 1615) l b (sBad w l b) (b * w 89 * sWorth w l) j := fun j x => by rw [sDelW, hs3.2 j (by omega)]
    generalize hbad : sBad w l b = bad at *
    generalize hval : b * w 89 * sWorth w l = val at *
    generalize hw' : sDelW w l b = w' at *
    have k15 := (k3 1615 (by omega)).trans q1
    have k17 := (k3 1617 (by omega)).trans q2
    have e89 := k1 89 (by omega) (by omega) (by omega)
    have ct : ∀ q, 0 ≤ q → q < w 1614 → sContent w' q = (if q = l then sContent w l - b * w 89 else sContent w q) := fun q x y => by
      obtain ⟨c1, c2, c3⟩ := k2 q x (by have := hn.2.1; omega)
      simp only [sContent]
      rw [c1, c2, e89]
      by_cases e : q = l
      · subst e
        rw [if_pos rfl, if_pos rfl]
        omega
      · rw [if_neg e, if_neg e]
    have eL := sumL_lot (w' := w') hl (k1 1614 (by omega) (by omega) (by omega)) (fun q x y z => by rw [ct q x y, if_neg z])
    rw [ct l hl.1 hl.2, if_pos rfl] at eL
    have eO : sumO w' = sumO w + b := by
      simp only [sumO]
      rw [k15, sSum_snocI (g := fun d => w (1450 + d)) d1 (fun j x y => by
        rw [k3 _ (by omega)]
        obtain ⟨-, -, c, -, -⟩ := q3 j x (by omega)
        rw [c, if_neg (by omega)])]
      rw [k3 _ (by omega)]
      obtain ⟨-, -, c, -, -⟩ := q3 (w 1615) d1 hd
      rw [c, if_pos rfl]
    have eV : sumV w' = sumV w + val := by
      simp only [sumV]
      rw [k15, sSum_snocI (g := fun d => w (1530 + d)) d1 (fun j x y => by
        rw [k3 _ (by omega)]
        obtain ⟨-, -, -, -, c⟩ := q3 j x (by omega)
        rw [c, if_neg (by omega)])]
      rw [k3 _ (by omega)]
      obtain ⟨-, -, -, -, c⟩ := q3 (w 1615) d1 hd
      rw [c, if_pos rfl]
    have hcm : w 89 * (sumO w + b) = w 89 * sumO w + b * w 89 := by rw [Int.mul_add, Int.mul_comm (w 89) b]
    refine h.mk (fun j x => k1 j (by omega) (by omega) (by omega)) (fun j x => k1 j (by omega) (by omega) (by omega)) (fun q x y => ?_) ⟨by omega, by omega, fun d x y => ?_⟩ (by rw [k1 1612 (by omega) (by omega) (by omega)]; omega) (by rw [eL, eO, k1 1612 (by omega) (by omega) (by omega), hcm]; omega) (by rw [eV, k17]; omega) ?_
    · obtain ⟨c1, c2, c3⟩ := k2 q x (by have := hn.2.1; omega)
      rw [ct q x y, c1, c2, c3]
      have := h.lot x y
      by_cases e : q = l
      · rw [if_pos e, if_pos e, if_pos e]
        subst e
        omega
      · rw [if_neg e, if_neg e, if_neg e]
        omega
    · rw [k15] at y
      have hdd : d < 40 := by omega
      obtain ⟨c1, c2, c3, c4, c5⟩ := q3 d x hdd
      rw [k3 (1370 + d) (by omega), k3 (1410 + d) (by omega), k3 (1450 + d) (by omega), k3 (1490 + d) (by omega), k3 (1530 + d) (by omega), c1, c2, c3, c4, c5, k1 1614 (by omega) (by omega) (by omega)]
      by_cases e : d = w 1615
      · rw [if_pos e, if_pos e, if_pos e, if_pos e, if_pos e]
        omega
      · rw [if_neg e, if_neg e, if_neg e, if_neg e, if_neg e]
        exact d3 d x (by omega)
    · simp only [iE]
      rw [k1 1616 (by omega) (by omega) (by omega)]
      exact h.2.2.2.2.2.2.2
  · have : mT (sDelD w (w 1615) l b (sBad w l b) (b * w 89 * sWorth w l)) := ((((((hm.put (by omega)).put (by have := hn.2.1; omega)).put (by omega)).put (by omega)).put (by omega)).put (by omega)).put (by omega)
    exact this.lot3 (by omega) (by omega) (by omega)
  · have : iZ (sDelD w (w 1615) l b (sBad w l b) (b * w 89 * sWorth w l)) := hz.of hn.1 (fun j x y => q4 j (by omega) (by omega) (by omega)) (q4 _ (by omega) (by omega) (by omega))
    exact this.lot3 (by rw [q4 1614 (by omega) (by omega) (by omega)]; exact hl) (by rw [q4 1614 (by omega) (by omega) (by omega)]; exact hn.2.1)
-- take back
def sTakeW (w : Int → Int) (d b lost : Int) : Int → Int := sU (sU w (1450 + d) (w (1450 + d) - b)) (890 + w (1370 + d)) (w (890 + w (1370 + d)) + (b * w 89 - lost))
def sTake (w : Int → Int) (d b lost : Int) : Int → Int := sBrk (sTakeW w d b lost) lost
theorem sTake_pre {w : Int → Int} {d b lost : Int} (h : iN w) (hd : 0 ≤ d ∧ d < w 1615) (hb : 1 ≤ b ∧ b ≤ w (1450 + d)) (ho : 0 ≤ lost ∧ lost ≤ b * w 89) : iN (sU (sTakeW w d b lost) 1612 (sTakeW w d b lost 1612 + lost)) ∧ (mT w → mT (sTakeW w d b lost) ∧ mT (sBrk (sTakeW w d b lost) lost)) ∧ (iZ w → iZ (sBrk (sTakeW w d b lost) lost)) ∧ iE (sTakeW w d b lost) ∧ (sTakeW w d b lost) (1450 + d) = w (1450 + d) - b ∧ sBrk (sTakeW w d b lost) lost (1450 + d) = w (1450 + d) - b ∧ b * w 89 ≤ 1600000 := by
  have hn := h.2.2.2.2.1
  obtain ⟨d1, d2, d3⟩ := h.2.2.2.2.2.1
  have hdd := d3 d hd.1 hd.2
  have hl : 0 ≤ w (1370 + d) ∧ w (1370 + d) < w 1614 := by omega
  have hout := h.out hd.1 hd.2
  generalize hll : w (1370 + d) = l at *
  obtain ⟨a1, a2, a3, a4, a5, a6, a7⟩ := h.lot hl.1 hl.2
  obtain ⟨s1, s2, s3, s4, s5, s6, s7, s8, s9, s10⟩ := h.2.2.2.2.2.2.1
  have hsum := h.sums
  have h3 : b * w 89 ≤ w (1450 + d) * w 89 := Int.mul_le_mul_of_nonneg_right hb.2 (by omega)
  have hn2 := hn.2.1
  have eW : sTakeW w d b lost = sU (sU w (1450 + d) (w (1450 + d) - b)) (890 + l) (w (890 + l) + (b * w 89 - lost)) := by rw [sTakeW, hll]
  have k1 : ∀ j, j ≠ 890 + l → j ≠ 1450 + d → sTakeW w d b lost j = w j := fun j x y => by rw [eW, sU_ne _ _ x, sU_ne _ _ y]
  have k2 : sTakeW w d b lost (890 + l) = w (890 + l) + (b * w 89 - lost) := by rw [eW, sU_eq]
  have k3 : sTakeW w d b lost (1450 + d) = w (1450 + d) - b := by rw [eW, sU_ne _ _ (by omega), sU_eq]
  have hmT : mT w → mT (sTakeW w d b lost) := fun hm => by
    rw [eW]
    exact (hm.put (by omega)).put (by omega)
  generalize hw1 : sTakeW w d b lost = w1 at *
  have hE : iE w1 := by
    simp only [iE]
    rw [k1 1616 (by omega) (by omega)]
    exact h.2.2.2.2.2.2.2
  have k12 := k1 1612 (by omega) (by omega)
  refine ⟨?_, fun hm => ⟨hmT hm, (mT.brk (hmT hm) hE ⟨ho.1, by omega⟩ (by omega)).2⟩, fun hz => ?_, hE, k3, ?_, by omega⟩
  · have f1 : ∀ j, j ≠ 890 + l → j ≠ 1450 + d → j ≠ 1612 → sU w1 1612 (w1 1612 + lost) j = w j := fun j x y z => by rw [sU_ne _ _ z, k1 j x y]
    have f2 : sU w1 1612 (w1 1612 + lost) (890 + l) = w (890 + l) + (b * w 89 - lost) := by rw [sU_ne _ _ (by omega), k2]
    have f3 : sU w1 1612 (w1 1612 + lost) (1450 + d) = w (1450 + d) - b := by rw [sU_ne _ _ (by omega), k3]
    have f4 : sU w1 1612 (w1 1612 + lost) 1612 = w 1612 + lost := by rw [sU_eq, k12]
    generalize sU w1 1612 (w1 1612 + lost) = w' at *
    have e89 := f1 89 (by omega) (by omega) (by omega)
    have ct : ∀ q, 0 ≤ q → q < w 1614 → sContent w' q = (if q = l then sContent w l + (b * w 89 - lost) else sContent w q) := fun q x y => by
      simp only [sContent]
      rw [e89, f1 (1050 + q) (by omega) (by omega) (by omega)]
      by_cases e : q = l
      · subst e
        rw [if_pos rfl, f2]
        omega
      · rw [if_neg e, f1 (890 + q) (by omega) (by omega) (by omega)]
    have eL := sumL_lot (w' := w') hl (f1 1614 (by omega) (by omega) (by omega)) (fun q x y z => by rw [ct q x y, if_neg z])
    rw [ct l hl.1 hl.2, if_pos rfl] at eL
    have e15 := f1 1615 (by omega) (by omega) (by omega)
    have eO : sumO w' = sumO w - b := by
      simp only [sumO]
      rw [e15, sSum_setI (f := fun d => w' (1450 + d)) (g := fun d => w (1450 + d)) hd.1 hd.2 (fun j x y z => f1 _ (by omega) (by omega) (by omega)), f3]
      omega
    have eV : sumV w' = sumV w := by
      simp only [sumV]
      rw [e15]
      exact sSum_congrI (fun j x y => f1 _ (by omega) (by omega) (by omega))
    have hcm : w 89 * (sumO w - b) = w 89 * sumO w - b * w 89 := by rw [Int.mul_sub, Int.mul_comm (w 89) b]
    refine h.mk (fun j x => f1 j (by omega) (by omega) (by omega)) (fun j x => f1 j (by omega) (by omega) (by omega)) (fun q x y => ?_) ⟨by omega, by omega, fun q x y => ?_⟩ (by omega) (by rw [eL, eO, f4, hcm]; omega) (by rw [eV, f1 1617 (by omega) (by omega) (by omega)]; exact s10) ?_
    · rw [ct q x y, f1 (1050 + q) (by omega) (by omega) (by omega), f1 (1210 + q) (by omega) (by omega) (by omega)]
      have := h.lot x y
      by_cases e : q = l
      · subst e
        rw [if_pos rfl, f2]
        omega
      · rw [if_neg e, f1 (890 + q) (by omega) (by omega) (by omega)]
        omega
    · rw [e15] at y
      have := d3 q x y
      rw [f1 (1370 + q) (by omega) (by omega) (by omega), f1 (1410 + q) (by omega) (by omega) (by omega), f1 (1490 + q) (by omega) (by omega) (by omega), f1 (1530 + q) (by omega) (by omega) (by omega), f1 1614 (by omega) (by omega) (by omega)]
      by_cases e : q = d
      · subst e
        rw [f3]
        omega
      · rw [f1 (1450 + q) (by omega) (by omega) (by omega)]
        omega
    · simp only [iE]
      rw [f1 1616 (by omega) (by omega) (by omega)]
      exact h.2.2.2.2.2.2.2
  · have g : ∀ j, j < 1570 ∨ 1610 ≤ j → j ≠ 1616 → j ≠ 1612 → sBrk w1 lost j = w1 j := fun j x y z => sBrk_same hE x y z
    intro q x y
    rw [g 1614 (by omega) (by omega) (by omega), k1 1614 (by omega) (by omega)] at x
    rw [g (890 + q) (by omega) (by omega) (by omega), g (1050 + q) (by omega) (by omega) (by omega), g (1210 + q) (by omega) (by omega) (by omega), k1 (890 + q) (by omega) (by omega), k1 (1050 + q) (by omega) (by omega), k1 (1210 + q) (by omega) (by omega)]
    exact hz q x y
  · rw [sBrk_same hE (by omega) (by omega) (by omega), k3]
-- replace
def sReplW (w : Int → Int) (d : Int) : Int → Int := sLot3 (sU w (1490 + d) 0) (w (1370 + d)) (w (890 + w (1370 + d)) - w (1490 + d)) (w (1050 + w (1370 + d))) (sMin (w (1210 + w (1370 + d))) (w (890 + w (1370 + d)) - w (1490 + d) + w (1050 + w (1370 + d)) * w 89))
def sRepl (w : Int → Int) (d : Int) : Int → Int := sBrk (sReplW w d) (w (1490 + d))
theorem sRepl_pre {w : Int → Int} {d : Int} (h : iN w) (hd : 0 ≤ d ∧ d < w 1615) (ho : w (1490 + d) ≤ w (890 + w (1370 + d))) : iN (sU (sReplW w d) 1612 (sReplW w d 1612 + w (1490 + d))) ∧ (mT w → mT (sReplW w d) ∧ mT (sBrk (sReplW w d) (w (1490 + d)))) ∧ (iZ w → iZ (sBrk (sReplW w d) (w (1490 + d)))) ∧ iE (sReplW w d) := by
  have hn := h.2.2.2.2.1
  obtain ⟨d1, d2, d3⟩ := h.2.2.2.2.2.1
  have hdd := d3 d hd.1 hd.2
  have hl : 0 ≤ w (1370 + d) ∧ w (1370 + d) < w 1614 := by omega
  generalize hll : w (1370 + d) = l at *
  generalize htt : w (1490 + d) = t at *
  obtain ⟨a1, a2, a3, a4, a5, a6, a7⟩ := h.lot hl.1 hl.2
  obtain ⟨s1, s2, s3, s4, s5, s6, s7, s8, s9, s10⟩ := h.2.2.2.2.2.2.1
  have hsum := h.sums
  have hn2 := hn.2.1
  have eW : sReplW w d = sLot3 (sU w (1490 + d) 0) l (w (890 + l) - t) (w (1050 + l)) (sMin (w (1210 + l)) (w (890 + l) - t + w (1050 + l) * w 89)) := by rw [sReplW, hll, htt]
  have hmin := sMin_le (w (1210 + l)) (w (890 + l) - t + w (1050 + l) * w 89)
  have hs3 := sLot3_at (w := sU w (1490 + d) 0) (l := l) (a := w (890 + l) - t) (b := w (1050 + l)) (c := sMin (w (1210 + l)) (w (890 + l) - t + w (1050 + l) * w 89)) ⟨hl.1, by omega⟩
  rw [← eW] at hs3
  have k1 : ∀ j, j < 890 ∨ 1370 ≤ j → j ≠ 1490 + d → sReplW w d j = w j := fun j x y => by rw [hs3.2 j x, sU_ne _ _ y]
  have k2 : ∀ q, 0 ≤ q → q < 160 → sReplW w d (890 + q) = (if q = l then w (890 + l) - t else w (890 + q)) ∧ sReplW w d (1050 + q) = w (1050 + q) ∧ sReplW w d (1210 + q) = (if q = l then sMin (w (1210 + l)) (w (890 + l) - t + w (1050 + l) * w 89) else w (1210 + q)) := fun q x y => by
    obtain ⟨c1, c2, c3⟩ := hs3.1 q x y
    rw [sU_ne _ _ (by omega)] at c1 c2 c3
    refine ⟨c1, ?_, c3⟩
    rw [c2]
    split
    · subst_vars; rfl
    · rfl
  have k3 : sReplW w d (1490 + d) = 0 := by rw [hs3.2 _ (by omega), sU_eq]
  have hmT : mT w → mT (sReplW w d) := fun hm => by
    rw [eW]
    exact (hm.put (by omega)).lot3 (by omega) (by omega) (by omega)
  generalize hw1 : sReplW w d = w1 at *
  have hE : iE w1 := by
    simp only [iE]
    rw [k1 1616 (by omega) (by omega)]
    exact h.2.2.2.2.2.2.2
  have k12 := k1 1612 (by omega) (by omega)
  refine ⟨?_, fun hm => ⟨hmT hm, (mT.brk (hmT hm) hE ⟨by omega, by omega⟩ (by omega)).2⟩, fun hz => ?_, hE⟩
  · have f1 : ∀ j, j < 890 ∨ 1370 ≤ j → j ≠ 1490 + d → j ≠ 1612 → sU w1 1612 (w1 1612 + t) j = w j := fun j x y z => by rw [sU_ne _ _ z, k1 j x y]
    have f2 : ∀ q, 0 ≤ q → q < 160 → sU w1 1612 (w1 1612 + t) (890 + q) = (if q = l then w (890 + l) - t else w (890 + q)) ∧ sU w1 1612 (w1 1612 + t) (1050 + q) = w (1050 + q) ∧ sU w1 1612 (w1 1612 + t) (1210 + q) = (if q = l then sMin (w (1210 + l)) (w (890 + l) - t + w (1050 + l) * w 89) else w (1210 + q)) := fun q x y => by
      rw [sU_ne _ _ (by omega), sU_ne _ _ (by omega), sU_ne _ _ (by omega)]
      exact k2 q x y
    have f3 : sU w1 1612 (w1 1612 + t) (1490 + d) = 0 := by rw [sU_ne _ _ (by omega), k3]
    have f4 : sU w1 1612 (w1 1612 + t) 1612 = w 1612 + t := by rw [sU_eq, k12]
    generalize sU w1 1612 (w1 1612 + t) = w' at *
    have e89 := f1 89 (by omega) (by omega) (by omega)
    have ct : ∀ q, 0 ≤ q → q < w 1614 → sContent w' q = (if q = l then sContent w l - t else sContent w q) := fun q x y => by
      obtain ⟨c1, c2, c3⟩ := f2 q x (by omega)
      simp only [sContent]
      rw [e89, c1, c2]
      by_cases e : q = l
      · subst e
        rw [if_pos rfl, if_pos rfl]
        omega
      · rw [if_neg e, if_neg e]
    have eL := sumL_lot (w' := w') hl (f1 1614 (by omega) (by omega) (by omega)) (fun q x y z => by rw [ct q x y, if_neg z])
    rw [ct l hl.1 hl.2, if_pos rfl] at eL
    have e15 := f1 1615 (by omega) (by omega) (by omega)
    have eO : sumO w' = sumO w := by
      simp only [sumO]
      rw [e15]
      exact sSum_congrI (fun j x y => f1 _ (by omega) (by omega) (by omega))
    have eV : sumV w' = sumV w := by
      simp only [sumV]
      rw [e15]
      exact sSum_congrI (fun j x y => f1 _ (by omega) (by omega) (by omega))
    refine h.mk (fun j x => f1 j (by omega) (by omega) (by omega)) (fun j x => f1 j (by omega) (by omega) (by omega)) (fun q x y => ?_) ⟨by omega, by omega, fun q x y => ?_⟩ (by omega) (by rw [eL, eO, f4]; omega) (by rw [eV, f1 1617 (by omega) (by omega) (by omega)]; exact s10) ?_
    · obtain ⟨c1, c2, c3⟩ := f2 q x (by omega)
      rw [ct q x y, c1, c2, c3]
      have := h.lot x y
      by_cases e : q = l
      · subst e
        rw [if_pos rfl, if_pos rfl, if_pos rfl]
        omega
      · rw [if_neg e, if_neg e, if_neg e]
        omega
    · rw [e15] at y
      have := d3 q x y
      rw [f1 (1370 + q) (by omega) (by omega) (by omega), f1 (1410 + q) (by omega) (by omega) (by omega), f1 (1450 + q) (by omega) (by omega) (by omega), f1 (1530 + q) (by omega) (by omega) (by omega), f1 1614 (by omega) (by omega) (by omega)]
      by_cases e : q = d
      · subst e
        rw [f3]
        omega
      · rw [f1 (1490 + q) (by omega) (by omega) (by omega)]
        omega
    · simp only [iE]
      rw [f1 1616 (by omega) (by omega) (by omega)]
      exact h.2.2.2.2.2.2.2
  · have g : ∀ j, j < 1570 ∨ 1610 ≤ j → j ≠ 1616 → j ≠ 1612 → sBrk w1 t j = w1 j := fun j x y z => sBrk_same hE x y z
    intro q x y
    rw [g 1614 (by omega) (by omega) (by omega), k1 1614 (by omega) (by omega)] at x
    obtain ⟨c1, c2, c3⟩ := k2 q (by omega) y
    rw [g (890 + q) (by omega) (by omega) (by omega), g (1050 + q) (by omega) (by omega) (by omega), g (1210 + q) (by omega) (by omega) (by omega), c1, c2, c3, if_neg (by omega), if_neg (by omega)]
    exact hz q x y
-- setting
theorem iN.set {w w' : Int → Int} (h : iN w) (e : ∀ j, 64 ≤ j → j ≠ 88 → w' j = w j) (hg : iG w') (ho : iO w') (hs : 0 ≤ w' 88 ∧ w' 88 ≤ 100) : iN w' := by
  obtain ⟨hG, hO, hB, hP, hL, hD, hS, hE⟩ := h
  obtain ⟨s1, s2, s3, s4, s5, s6, s7, s8, s9, s10⟩ := hS
  have e13 := e 1613 (by omega) (by omega)
  have e14 := e 1614 (by omega) (by omega)
  have e89 := e 89 (by omega) (by omega)
  have c0 : ∀ l, 0 ≤ l → l < w 1614 → sContent w' l = sContent w l := fun l a b => by
    have := hL.2.1
    simp only [sContent]
    rw [e (890 + l) (by omega) (by omega), e (1050 + l) (by omega) (by omega), e89]
  have eP : sumP w' = sumP w := by
    simp only [sumP]
    rw [e13]
    exact sSum_congrI (fun j a b => e _ (by omega) (by omega))
  have eL : sumL w' = sumL w := by
    simp only [sumL]
    rw [e14]
    exact sSum_congrI c0
  obtain ⟨eO, eV⟩ := sumO_of (w' := w') hD (fun j a b => e j (by omega) (by omega)) (e _ (by omega) (by omega))
  refine ⟨hg, ho, fun i a b => ?_, hP.of (fun j a b => e j (by omega) (by omega)) e13, ?_, hD.of (fun j a b => e j (by omega) (by omega)) e14 (e _ (by omega) (by omega)), ?_, ?_⟩
  · rw [e (64 + i) (by omega) (by omega), e 1610 (by omega) (by omega)]
    exact hB i a b
  · obtain ⟨h1, h2, h3, h4⟩ := hL
    refine ⟨by omega, by omega, fun l a b => ?_, fun l m a b c => ?_⟩
    · rw [c0 l a (by omega), e (410 + l) (by omega) (by omega), e (570 + l) (by omega) (by omega), e (730 + l) (by omega) (by omega), e (890 + l) (by omega) (by omega), e (1050 + l) (by omega) (by omega), e (1210 + l) (by omega) (by omega)]
      exact h3 l a (by omega)
    · rw [e (410 + l) (by omega) (by omega), e (570 + l) (by omega) (by omega), e (730 + l) (by omega) (by omega), e (410 + m) (by omega) (by omega), e (570 + m) (by omega) (by omega), e (730 + m) (by omega) (by omega)]
      exact h4 l m a b (by omega)
  · simp only [iS]
    rw [eP, eL, eO, eV, e89, e 1610 (by omega) (by omega), e 1611 (by omega) (by omega), e 1612 (by omega) (by omega), e 1617 (by omega) (by omega)]
    exact ⟨by omega, by omega, by omega, by omega, by omega, by omega, by omega, by omega, by omega, by omega⟩
  · simp only [iE]
    rw [e 1616 (by omega) (by omega)]
    exact hE
theorem iN.setGlaze {w : Int → Int} {g a b : Int} (h : iN w) (hg : 0 ≤ g ∧ g ≤ 3) (ha : 0 ≤ a ∧ a ≤ 19) (hb : 0 ≤ b ∧ b ≤ 20) : iN (sU (sU w g a) (4 + g) b) := by
  have hs := h.2.2.2.2.2.2.1
  refine h.set (fun j x y => by rw [sU_ne _ _ (by omega), sU_ne _ _ (by omega)]) (fun q x y => ?_) (h.2.1.of (fun j x y => by rw [sU_ne _ _ (by omega), sU_ne _ _ (by omega)])) ?_
  · have := h.1 q x y
    simp only [sU]
    rw [if_neg (show ¬ q = 4 + g by omega), if_neg (show ¬ 4 + q = g by omega), if_neg (show ¬ 8 + q = 4 + g by omega), if_neg (show ¬ 8 + q = g by omega), if_neg (show ¬ 12 + q = 4 + g by omega), if_neg (show ¬ 12 + q = g by omega)]
    by_cases e : q = g
    · rw [if_pos e, if_pos (by omega)]; omega
    · rw [if_neg e, if_neg (by omega)]; omega
  · rw [sU_ne _ _ (by omega), sU_ne _ _ (by omega)]
    exact ⟨hs.1, hs.2.1⟩
theorem iN.setQuality {w : Int → Int} {g a b : Int} (h : iN w) (hg : 0 ≤ g ∧ g ≤ 3) (ha : 0 ≤ a ∧ a ≤ 100) (hb : 0 ≤ b ∧ b ≤ 9999) : iN (sU (sU w (8 + g) a) (12 + g) b) := by
  have hs := h.2.2.2.2.2.2.1
  refine h.set (fun j x y => by rw [sU_ne _ _ (by omega), sU_ne _ _ (by omega)]) (fun q x y => ?_) (h.2.1.of (fun j x y => by rw [sU_ne _ _ (by omega), sU_ne _ _ (by omega)])) ?_
  · have := h.1 q x y
    simp only [sU]
    rw [if_neg (show ¬ q = 12 + g by omega), if_neg (show ¬ q = 8 + g by omega), if_neg (show ¬ 4 + q = 12 + g by omega), if_neg (show ¬ 4 + q = 8 + g by omega), if_neg (show ¬ 8 + q = 12 + g by omega), if_neg (show ¬ 12 + q = 8 + g by omega)]
    by_cases e : q = g
    · rw [if_pos (show 8 + q = 8 + g by omega), if_pos (by omega)]; omega
    · rw [if_neg (show ¬ 8 + q = 8 + g by omega), if_neg (by omega)]; omega
  · rw [sU_ne _ _ (by omega), sU_ne _ _ (by omega)]
    exact ⟨hs.1, hs.2.1⟩
theorem iN.setPosition {w : Int → Int} {i a b : Int} (h : iN w) (hi : 0 ≤ i ∧ i < 24) (ha : -40 ≤ a ∧ a ≤ 40) (hb : 0 ≤ b ∧ b ≤ 100) : iN (sU (sU w (16 + i) a) (40 + i) b) := by
  have hs := h.2.2.2.2.2.2.1
  refine h.set (fun j x y => by rw [sU_ne _ _ (by omega), sU_ne _ _ (by omega)]) (h.1.of (fun j x y => by rw [sU_ne _ _ (by omega), sU_ne _ _ (by omega)])) (fun q x y => ?_) ?_
  · have := h.2.1 q x y
    simp only [sU]
    rw [if_neg (show ¬ 16 + q = 40 + i by omega), if_neg (show ¬ 40 + q = 16 + i by omega)]
    by_cases e : q = i
    · rw [if_pos (show 16 + q = 16 + i by omega), if_pos (by omega)]; omega
    · rw [if_neg (show ¬ 16 + q = 16 + i by omega), if_neg (by omega)]; omega
  · rw [sU_ne _ _ (by omega), sU_ne _ _ (by omega)]
    exact ⟨hs.1, hs.2.1⟩
theorem iN.setSharp {w : Int → Int} {a : Int} (h : iN w) (ha : 0 ≤ a ∧ a ≤ 100) : iN (sU w 88 a) :=
  h.set (fun j x y => sU_ne _ _ y) (h.1.of (fun j x y => sU_ne _ _ (by omega))) (h.2.1.of (fun j x y => sU_ne _ _ (by omega))) (by rw [sU_eq]; exact ha)
theorem iN.setBox {w : Int → Int} {a : Int} (h : iN w) (ha : 1 ≤ a ∧ a ≤ 50) (h1 : sSum (fun l => w (1050 + l)) (w 1614).toNat 0 ≤ 0) (h2 : sumO w ≤ 0) : iN (sU w 89 a) := by
  have hb : ∀ l, 0 ≤ l → l < w 1614 → w (1050 + l) = 0 := fun l x y => by
    have := sSum_leI (f := fun l => w (1050 + l)) x y (fun j c d => (h.lot c d).2.1)
    have := (h.lot x y).2.1
    omega
  have hsum := h.sums
  have hO0 : sumO w = 0 := by omega
  obtain ⟨hG, hO, hB, hP, hL, hD, hS, hE⟩ := h
  obtain ⟨s1, s2, s3, s4, s5, s6, s7, s8, s9, s10⟩ := hS
  have e : ∀ j, j ≠ 89 → sU w 89 a j = w j := fun j x => sU_ne _ _ x
  have e89 : sU w 89 a 89 = a := sU_eq _ _ _
  generalize sU w 89 a = w' at *
  have c0 : ∀ l, 0 ≤ l → l < w 1614 → sContent w' l = sContent w l := fun l x y => by
    simp only [sContent]
    rw [e (890 + l) (by omega), e (1050 + l) (by omega), hb l x y, Int.zero_mul, Int.zero_mul]
  have e13 := e 1613 (by omega)
  have e14 := e 1614 (by omega)
  have eP : sumP w' = sumP w := by
    simp only [sumP]
    rw [e13]
    exact sSum_congrI (fun j a b => e _ (by omega))
  have eL : sumL w' = sumL w := by
    simp only [sumL]
    rw [e14]
    exact sSum_congrI c0
  obtain ⟨eO, eV⟩ := sumO_of (w' := w') hD (fun j a b => e j (by omega)) (e _ (by omega))
  refine ⟨hG.of (fun j x y => e j (by omega)), hO.of (fun j x y => e j (by omega)), fun i a b => ?_, hP.of (fun j a b => e j (by omega)) e13, ?_, hD.of (fun j a b => e j (by omega)) e14 (e _ (by omega)), ?_, ?_⟩
  · rw [e (64 + i) (by omega), e 1610 (by omega)]
    exact hB i a b
  · obtain ⟨h1, h2, h3, h4⟩ := hL
    refine ⟨by omega, by omega, fun l a b => ?_, fun l m a b c => ?_⟩
    · rw [c0 l a (by omega), e (410 + l) (by omega), e (570 + l) (by omega), e (730 + l) (by omega), e (890 + l) (by omega), e (1050 + l) (by omega), e (1210 + l) (by omega)]
      exact h3 l a (by omega)
    · rw [e (410 + l) (by omega), e (570 + l) (by omega), e (730 + l) (by omega), e (410 + m) (by omega), e (570 + m) (by omega), e (730 + m) (by omega)]
      exact h4 l m a b (by omega)
  · rw [hO0, Int.mul_zero] at s9
    simp only [iS]
    rw [eP, eL, eO, eV, hO0, Int.mul_zero, e89, e 88 (by omega), e 1610 (by omega), e 1611 (by omega), e 1612 (by omega), e 1617 (by omega)]
    exact ⟨by omega, by omega, by omega, by omega, by omega, by omega, by omega, by omega, by omega, by omega⟩
  · simp only [iE]
    rw [e 1616 (by omega)]
    exact hE
/-- what an undoable call of the reference leaves: its answer, or its refusal -/
def sCnt (m : Int) : Int := (if m = 6 then 5 else m) + 1
