theorem sU_comm {w : Int → Int} {i j a b : Int} (h : i ≠ j) : sU (sU w i a) j b = sU (sU w j b) i a := by
  funext z
  simp only [sU]
  by_cases h1 : z = i
  · rw [if_neg (by omega), if_pos h1, if_pos h1]
  · rw [if_neg h1, if_neg h1]
theorem sU_id (w : Int → Int) (i : Int) : sU w i (w i) = w := by
  funext z
  simp only [sU]
  split
  · subst_vars; rfl
  · rfl
