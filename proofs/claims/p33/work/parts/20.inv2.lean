/-! ===== the whole invariant; a firing ===== -/
def sumP (w : Int → Int) : Int := sSum (fun p => w (250 + p)) (w 1613).toNat 0
def sumL (w : Int → Int) : Int := sSum (fun l => sContent w l) (w 1614).toNat 0
def sumO (w : Int → Int) : Int := sSum (fun d => w (1450 + d)) (w 1615).toNat 0
def sumV (w : Int → Int) : Int := sSum (fun d => w (1530 + d)) (w 1615).toNat 0
def iL (w : Int → Int) : Prop := 0 ≤ w 1614 ∧ w 1614 ≤ 160 ∧ (∀ l, 0 ≤ l → l < w 1614 → 0 ≤ w (410 + l) ∧ w (410 + l) ≤ 3 ∧ 0 ≤ w (570 + l) ∧ w (570 + l) ≤ 19 ∧ 1 ≤ w (730 + l) ∧ w (730 + l) ≤ 2 ∧ 0 ≤ w (890 + l) ∧ 0 ≤ w (1050 + l) ∧ 0 ≤ w (1210 + l) ∧ w (1210 + l) ≤ sContent w l) ∧ (∀ l m, 0 ≤ l → l < m → m < w 1614 → ¬ (w (410 + l) = w (410 + m) ∧ w (570 + l) = w (570 + m) ∧ w (730 + l) = w (730 + m)))
def iD (w : Int → Int) : Prop := 0 ≤ w 1615 ∧ w 1615 ≤ 40 ∧ ∀ d, 0 ≤ d → d < w 1615 → 0 ≤ w (1370 + d) ∧ w (1370 + d) < w 1614 ∧ 0 ≤ w (1410 + d) ∧ w (1410 + d) ≤ 100000 ∧ 0 ≤ w (1450 + d) ∧ 0 ≤ w (1490 + d) ∧ w (1490 + d) ≤ 1600000 ∧ 0 ≤ w (1530 + d) ∧ w (1530 + d) ≤ 20000000000
def iS (w : Int → Int) : Prop := 0 ≤ w 88 ∧ w 88 ≤ 100 ∧ 1 ≤ w 89 ∧ w 89 ≤ 50 ∧ 0 ≤ w 1610 ∧ w 1610 ≤ 2000 ∧ 0 ≤ w 1612 ∧ w 1611 ≤ 800 * w 1610 ∧ w 1611 = sumP w + sumL w + w 89 * sumO w + w 1612 ∧ w 1617 = sumV w
def iB (w : Int → Int) : Prop := ∀ i, 0 ≤ i → i < 24 → 0 ≤ w (64 + i) ∧ w (64 + i) ≤ 100 * w 1610
def iE (w : Int → Int) : Prop := 0 ≤ w 1616 ∧ w 1616 ≤ 20
def iN (w : Int → Int) : Prop := iG w ∧ iO w ∧ iB w ∧ iPi w ∧ iL w ∧ iD w ∧ iS w ∧ iE w
theorem iN.sums {w : Int → Int} (h : iN w) : 0 ≤ sumP w ∧ 0 ≤ sumL w ∧ 0 ≤ sumO w ∧ sumO w ≤ w 89 * sumO w ∧ sumP w + sumL w + w 89 * sumO w + w 1612 ≤ 1600000 := by
  obtain ⟨-, -, -, hP, hL, hD, hS, -⟩ := h
  obtain ⟨s1, s2, s3, s4, s5, s6, s7, s8, s9, s10⟩ := hS
  have h1 : 0 ≤ sumP w := sSum_nnI (fun j a b => by have := hP.2.2.1 j a b; omega)
  have h2 : 0 ≤ sumL w := sSum_nnI (fun j a b => by have := hL.2.2.1 j a b; omega)
  have h3 : 0 ≤ sumO w := sSum_nnI (fun j a b => by have := hD.2.2 j a b; omega)
  have h4 : sumO w * 1 ≤ sumO w * w 89 := Int.mul_le_mul_of_nonneg_left s3 h3
  rw [Int.mul_comm (sumO w) (w 89)] at h4
  exact ⟨h1, h2, h3, by omega, by omega⟩
theorem iN.pile {w : Int → Int} (h : iN w) {p : Int} (h1 : 0 ≤ p) (h2 : p < w 1613) : 0 ≤ w (330 + p) ∧ w (330 + p) ≤ w (250 + p) ∧ w (250 + p) ≤ 1600000 := by
  have hs := h.sums
  have hP := h.2.2.2.1
  have a := hP.2.2.1 p h1 h2
  have b : w (250 + p) ≤ sumP w := sSum_leI (f := fun p => w (250 + p)) h1 h2 (fun j a b => by have := hP.2.2.1 j a b; omega)
  have c := h.2.2.2.2.2.2.1
  obtain ⟨s1, s2, s3, s4, s5, s6, s7, s8, s9, s10⟩ := c
  omega
theorem iN.lot {w : Int → Int} (h : iN w) {l : Int} (h1 : 0 ≤ l) (h2 : l < w 1614) : 0 ≤ w (890 + l) ∧ 0 ≤ w (1050 + l) ∧ w (1050 + l) ≤ w (1050 + l) * w 89 ∧ 0 ≤ w (1210 + l) ∧ w (1210 + l) ≤ sContent w l ∧ sContent w l ≤ 1600000 ∧ sContent w l = w (890 + l) + w (1050 + l) * w 89 := by
  have hs := h.sums
  have hL := h.2.2.2.2.1
  have a := hL.2.2.1 l h1 h2
  have b : sContent w l ≤ sumL w := sSum_leI (f := fun l => sContent w l) h1 h2 (fun j a b => by have := hL.2.2.1 j a b; omega)
  have c := h.2.2.2.2.2.2.1
  obtain ⟨s1, s2, s3, s4, s5, s6, s7, s8, s9, s10⟩ := c
  have d : w (1050 + l) * 1 ≤ w (1050 + l) * w 89 := Int.mul_le_mul_of_nonneg_left s3 (by omega)
  refine ⟨by omega, by omega, by omega, by omega, by omega, by omega, rfl⟩
theorem iN.out {w : Int → Int} (h : iN w) {d : Int} (h1 : 0 ≤ d) (h2 : d < w 1615) : 0 ≤ w (1450 + d) ∧ w (1450 + d) ≤ w (1450 + d) * w 89 ∧ w (1450 + d) * w 89 ≤ 1600000 := by
  have hs := h.sums
  have hD := h.2.2.2.2.2.1
  have a := hD.2.2 d h1 h2
  have b : w (1450 + d) ≤ sumO w := sSum_leI (f := fun d => w (1450 + d)) h1 h2 (fun j a b => by have := hD.2.2 j a b; omega)
  have c := h.2.2.2.2.2.2.1
  obtain ⟨s1, s2, s3, s4, s5, s6, s7, s8, s9, s10⟩ := c
  have e : w (1450 + d) * 1 ≤ w (1450 + d) * w 89 := Int.mul_le_mul_of_nonneg_left s3 (by omega)
  have f : w (1450 + d) * w 89 ≤ sumO w * w 89 := Int.mul_le_mul_of_nonneg_right b (by omega)
  rw [Int.mul_comm (sumO w) (w 89)] at f
  omega
/-- only the events may differ -/
theorem iN.of {w w' : Int → Int} (h : iN w) (e : ∀ j, j < 1570 ∨ 1610 ≤ j → j ≠ 1616 → w' j = w j) (he : iE w') : iN w' := by
  obtain ⟨hG, hO, hB, hP, hL, hD, hS, -⟩ := h
  have c0 : ∀ l, 0 ≤ l → l < w 1614 → sContent w' l = sContent w l := fun l a b => by
    have := hL.2.1
    simp only [sContent]
    rw [e (890 + l) (by omega) (by omega), e (1050 + l) (by omega) (by omega), e 89 (by omega) (by omega)]
  have e13 := e 1613 (by omega) (by omega)
  have e14 := e 1614 (by omega) (by omega)
  have e15 := e 1615 (by omega) (by omega)
  have eP : sumP w' = sumP w := by
    simp only [sumP]
    rw [e13]
    exact sSum_congrI (fun j a b => e _ (by have := hP.2.1; omega) (by have := hP.2.1; omega))
  have eL : sumL w' = sumL w := by
    simp only [sumL]
    rw [e14]
    exact sSum_congrI c0
  have eO : sumO w' = sumO w := by
    simp only [sumO]
    rw [e15]
    exact sSum_congrI (fun j a b => e _ (by have := hD.2.1; omega) (by have := hD.2.1; omega))
  have eV : sumV w' = sumV w := by
    simp only [sumV]
    rw [e15]
    exact sSum_congrI (fun j a b => e _ (by have := hD.2.1; omega) (by have := hD.2.1; omega))
  refine ⟨hG.of (fun j a b => e j (by omega) (by omega)), hO.of (fun j a b => e j (by omega) (by omega)), fun i a b => ?_, hP.of (fun j a b => e j (by omega) (by omega)) e13, ?_, ?_, ?_, he⟩
  · rw [e (64 + i) (by omega) (by omega), e 1610 (by omega) (by omega)]
    exact hB i a b
  · obtain ⟨h1, h2, h3, h4⟩ := hL
    refine ⟨by omega, by omega, fun l a b => ?_, fun l m a b c => ?_⟩
    · rw [c0 l a (by omega), e (410 + l) (by omega) (by omega), e (570 + l) (by omega) (by omega), e (730 + l) (by omega) (by omega), e (890 + l) (by omega) (by omega), e (1050 + l) (by omega) (by omega), e (1210 + l) (by omega) (by omega)]
      exact h3 l a (by omega)
    · rw [e (410 + l) (by omega) (by omega), e (570 + l) (by omega) (by omega), e (730 + l) (by omega) (by omega), e (410 + m) (by omega) (by omega), e (570 + m) (by omega) (by omega), e (730 + m) (by omega) (by omega)]
      exact h4 l m a b (by omega)
  · obtain ⟨h1, h2, h3⟩ := hD
    refine ⟨by omega, by omega, fun d a b => ?_⟩
    rw [e (1370 + d) (by omega) (by omega), e (1410 + d) (by omega) (by omega), e (1450 + d) (by omega) (by omega), e (1490 + d) (by omega) (by omega), e (1530 + d) (by omega) (by omega), e14]
    exact h3 d a (by omega)
  · simp only [iS]
    rw [eP, eL, eO, eV, e 88 (by omega) (by omega), e 89 (by omega) (by omega), e 1610 (by omega) (by omega), e 1611 (by omega) (by omega), e 1612 (by omega) (by omega), e 1617 (by omega) (by omega)]
    exact hS
theorem sHap_same {w : Int → Int} {k n j : Int} (he : iE w) (h : j < 1570 ∨ 1610 ≤ j) (h2 : j ≠ 1616) : sHap w k n j = w j := by
  have e1 : sHap1 w j = w j := by
    simp only [sHap1]
    split
    · rw [sU_ne _ _ h2, sShift, if_neg (by omega), if_neg (by omega)]
    · rfl
  have e2 : 0 ≤ sHap1 w 1616 ∧ sHap1 w 1616 ≤ 19 := by
    obtain ⟨a, b⟩ := he
    simp only [sHap1]
    split
    · rw [sU_eq, sShift, if_neg (by omega), if_neg (by omega)]
      omega
    · omega
  have e3 : (sU (sHap1 w) (1570 + sHap1 w 1616) k) 1616 = sHap1 w 1616 := sU_ne _ _ (by omega)
  rw [sHap, sPut3, sU_ne _ _ h2, e3, sU_ne _ _ (by omega), sU_ne _ _ (by omega), e1]
theorem sHap_iE {w : Int → Int} {k n : Int} (he : iE w) : iE (sHap w k n) := by
  have e2 : 0 ≤ sHap1 w 1616 ∧ sHap1 w 1616 ≤ 19 := by
    obtain ⟨a, b⟩ := he
    simp only [sHap1]
    split
    · rw [sU_eq, sShift, if_neg (by omega), if_neg (by omega)]
      omega
    · omega
  have e3 : (sU (sHap1 w) (1570 + sHap1 w 1616) k) 1616 = sHap1 w 1616 := sU_ne _ _ (by omega)
  have e4 : (sU (sU (sHap1 w) (1570 + sHap1 w 1616) k) (1590 + sHap1 w 1616) n) 1616 = sHap1 w 1616 := by rw [sU_ne _ _ (by omega), e3]
  simp only [iE]
  rw [sHap, sPut3, e3, e4, sU_eq]
  omega
theorem iN.hap {w : Int → Int} (h : iN w) (k n : Int) : iN (sHap w k n) := h.of (fun j a b => sHap_same h.2.2.2.2.2.2.2 a b) (sHap_iE h.2.2.2.2.2.2.2)
def mT (w : Int → Int) : Prop := mBB 1000000000000 w
theorem mT.put {w : Int → Int} (h : mT w) {i v : Int} (hv : -1000000000000 ≤ v ∧ v ≤ 1000000000000) : mT (sU w i v) := mBB.put h hv
theorem mT.shift {w : Int → Int} (h : mT w) (k : Int) : mT (sShift w k) := fun j => by
  simp only [sShift]
  split
  · exact h _
  · split
    · exact h _
    · exact h _
theorem mT.hap {w : Int → Int} (h : mT w) (he : iE w) {k n : Int} (hk : -1000000000000 ≤ k ∧ k ≤ 1000000000000) (hn : -1000000000000 ≤ n ∧ n ≤ 1000000000000) : mT (sHap w k n) := by
  obtain ⟨a, b⟩ := he
  have e2 : 0 ≤ sHap1 w 1616 ∧ sHap1 w 1616 ≤ 19 := by
    simp only [sHap1]
    split
    · rw [sU_eq, sShift, if_neg (by omega), if_neg (by omega)]
      omega
    · omega
  have e1 : mT (sHap1 w) := by
    simp only [sHap1]
    split
    · have := h.shift 19
      exact this.put (by have := this 1616; rw [sShift, if_neg (by omega), if_neg (by omega)] at this ⊢; omega)
    · exact h
  have e3 : (sU (sHap1 w) (1570 + sHap1 w 1616) k) 1616 = sHap1 w 1616 := sU_ne _ _ (by omega)
  have e4 : (sU (sU (sHap1 w) (1570 + sHap1 w 1616) k) (1590 + sHap1 w 1616) n) 1616 = sHap1 w 1616 := by rw [sU_ne _ _ (by omega), e3]
  rw [sHap, sPut3, e3, e4]
  exact ((e1.put hk).put hn).put (by omega)
/-- dead lots are empty -/
def iZ (w : Int → Int) : Prop := ∀ l, w 1614 ≤ l → l < 160 → w (890 + l) = 0 ∧ w (1050 + l) = 0 ∧ w (1210 + l) = 0
theorem iZ.of {w w' : Int → Int} (h : iZ w) (h0 : 0 ≤ w 1614) (e : ∀ j, 890 ≤ j → j < 1370 → w' j = w j) (e2 : w' 1614 = w 1614) : iZ w' := fun l a b => by
  rw [e (890 + l) (by omega) (by omega), e (1050 + l) (by omega) (by omega), e (1210 + l) (by omega) (by omega)]
  exact h l (by omega) b
