theorem ifd (p : Prop) [Decidable p] : ((if p then (1 : Int) else 0) = 1 ∧ p) ∨ ((if p then (1 : Int) else 0) = 0 ∧ ¬ p) := by
  by_cases h : p
  · exact Or.inl ⟨if_pos h, h⟩
  · exact Or.inr ⟨if_neg h, h⟩
theorem sFireT_range (w : Int → Int) (a b c d : Int) : 0 ≤ sFireT w a b c d ∧ sFireT w a b c d ≤ 3 ∧ (sFireT w a b c d = 0 → 0 ≤ a ∧ a ≤ 2 ∧ 0 ≤ b ∧ b ≤ 3 ∧ 800 ≤ c ∧ c ≤ 1200 ∧ 1 ≤ d ∧ d ≤ 100 ∧ w 1610 ≠ 2000) := by
  simp only [sFireT]
  split
  · omega
  · split
    · omega
    · split <;> omega
theorem sGradeT_range (w : Int → Int) (a : Int) : 0 ≤ sGradeT w a ∧ sGradeT w a ≤ 3 ∧ (sGradeT w a = 0 → 1 ≤ a ∧ a ≤ 10 ∧ w 1613 ≠ 0) := by
  simp only [sGradeT]
  split
  · omega
  · split <;> omega
theorem sDeliverT_range (w : Int → Int) (a b c : Int) : 0 ≤ sDeliverT w a b c ∧ sDeliverT w a b c ≤ 3 ∧ (sDeliverT w a b c = 0 → 0 ≤ a ∧ a ≤ 3 ∧ 1 ≤ b ∧ b ≤ 2 ∧ 1 ≤ c ∧ c ≤ 100000 ∧ w 1615 ≠ 40 ∧ sLotFor w a b c ≠ -1) := by
  simp only [sDeliverT]
  split
  · omega
  · split
    · omega
    · split <;> omega
theorem sDropT_range (w : Int → Int) (a b c d : Int) : 0 ≤ sDropT w a b c d ∧ sDropT w a b c d ≤ 3 ∧ (sDropT w a b c d = 0 → sFind w a b c ≠ -1 ∧ 0 ≤ d ∧ d ≤ w 89 ∧ w (1050 + sFind w a b c) ≠ 0) := by
  simp only [sDropT]
  split
  · omega
  · split
    · omega
    · split <;> omega
def sBack (s : Int → Int) (w : Int → Int) (m k : Int) : Int → Int := fun j => if 0 ≤ j ∧ j < k then s (m * 1618 + j) else w j
