theorem sWord_0 {T : Int → Int} {S : sSt} {f t : Int} (h : S.2.1 = 0) : sWord T S f t = (sVerb T f t, 1, S.2.2.1, S.2.2.2) := by simp only [sWord]; rw [if_pos h]
theorem sWord_n {T : Int → Int} {S : sSt} {f t : Int} (h : S.2.1 ≠ 0) : sWord T S f t = (S.1, S.2.1 + 1, (if sNum T f t = -1 then 0 else S.2.2.1), sU S.2.2.2 (S.2.1 - 1) (sNum T f t)) := by simp only [sWord]; rw [if_neg h]
theorem sWord_cnt {T : Int → Int} {S : sSt} {f t : Int} : (sWord T S f t).2.1 = S.2.1 + 1 := by
  by_cases h : S.2.1 = 0
  · rw [sWord_0 h, h]; rfl
  · rw [sWord_n h]
theorem mPr.up {I I1 : Nat → Nat → Int} {A : Nat → Int → Int} {x ag : Nat} (h1 : I1 207 x = 0) (h2 : I1 208 x = 0) (h3 : I1 209 x = 1) : mPr I1 A x ag sS0 := ⟨h1, h2, h3, fun j a b => absurd b (by show ¬ j < 0 - 1; omega), Or.inr rfl, Int.le_refl _⟩
