theorem sVerb_range (T : Int → Int) (f t : Int) : 0 ≤ sVerb T f t ∧ sVerb T f t ≤ 5 := by
  unfold sVerb
  repeat (first | omega | split)
theorem sNum_range (T : Int → Int) (f t : Int) : -1 ≤ sNum T f t ∧ sNum T f t ≤ 9999 := by
  unfold sNum
  split
  · omega
  · have h : (t - f).toNat = 1 ∨ (t - f).toNat = 2 ∨ (t - f).toNat = 3 ∨ (t - f).toNat = 4 := by omega
    rcases h with h | h | h | h <;> rw [h] <;> simp only [sNumL] <;> repeat (first | omega | split)
/-- what is true of any state of a reading -/
def sInv (S : sSt) : Prop := 0 ≤ S.1 ∧ S.1 ≤ 5 ∧ 0 ≤ S.2.1 ∧ (S.2.1 = 0 → S.1 = 0) ∧ (S.2.2.1 = 0 ∨ S.2.2.1 = 1) ∧ (S.2.2.1 = 1 → ∀ j, 0 ≤ j → j < S.2.1 - 1 → 0 ≤ S.2.2.2 j ∧ S.2.2.2 j ≤ 9999)
theorem sInv.s0 : sInv sS0 := ⟨Int.le_refl _, by show (0 : Int) ≤ 5; omega, Int.le_refl _, fun _ => rfl, Or.inr rfl, fun _ j a b => absurd b (by show ¬ j < 0 - 1; omega)⟩
theorem sInv.word {T : Int → Int} {S : sSt} {f t : Int} (h : sInv S) : sInv (sWord T S f t) := by
  obtain ⟨h1, h2, h3, h4, h5, h6⟩ := h
  by_cases e : S.2.1 = 0
  · rw [sWord_0 e]
    have := sVerb_range T f t
    refine ⟨this.1, this.2, by show (0 : Int) ≤ 1; omega, fun a => absurd a (by show ¬ (1 : Int) = 0; omega), h5, fun _ j a b => absurd b (by show ¬ j < 1 - 1; omega)⟩
  · rw [sWord_n e]
    have hr := sNum_range T f t
    refine ⟨h1, h2, by show 0 ≤ S.2.1 + 1; omega, fun a => absurd a (by show ¬ S.2.1 + 1 = 0; omega), ?_, fun a j b c => ?_⟩
    · show (if sNum T f t = -1 then 0 else S.2.2.1) = 0 ∨ (if sNum T f t = -1 then 0 else S.2.2.1) = 1
      split <;> omega
    · have a1 : (if sNum T f t = -1 then 0 else S.2.2.1) = 1 := a
      have c1 : j < S.2.1 + 1 - 1 := c
      show 0 ≤ sU S.2.2.2 (S.2.1 - 1) (sNum T f t) j ∧ sU S.2.2.2 (S.2.1 - 1) (sNum T f t) j ≤ 9999
      have hne : sNum T f t ≠ -1 := fun q => by rw [if_pos q] at a1; omega
      rw [if_neg hne] at a1
      by_cases q : j = S.2.1 - 1
      · rw [q, sU_eq]; omega
      · rw [sU_ne _ _ q]; exact h6 a1 j b (by omega)
theorem sInv.scan {T : Int → Int} : ∀ (n : Nat) (i st : Int) (S : sSt), sInv S → sInv (sScan T n i st S) ∧ (sScan T n i st S).2.1 ≤ S.2.1 + n + (if st = -1 then 0 else 1)
  | 0, i, st, S, h => by
    simp only [sScan]
    split
    · exact ⟨h, by omega⟩
    · exact ⟨h.word, by rw [sWord_cnt]; omega⟩
  | n + 1, i, st, S, h => by
    simp only [sScan]
    split
    · split
      · have := sInv.scan (T := T) n (i + 1) (-1) S h
        rw [if_pos rfl] at this
        exact ⟨this.1, by have := this.2; omega⟩
      · have := sInv.scan (T := T) n (i + 1) (-1) _ (h.word (T := T) (f := st) (t := i))
        rw [if_pos rfl, sWord_cnt] at this
        exact ⟨this.1, by have := this.2; omega⟩
    · split
      · have := sInv.scan (T := T) n (i + 1) i S h
        exact ⟨this.1, by have := this.2; split at this <;> omega⟩
      · have := sInv.scan (T := T) n (i + 1) st S h
        rw [if_neg (by assumption)] at this
        exact ⟨this.1, by have := this.2; omega⟩
theorem sCmd_inv {T : Int → Int} {n b : Int} (h : 0 ≤ b ∧ b ≤ n ∧ n ≤ 100) : sInv (sCmd T n b) ∧ (sCmd T n b).2.1 ≤ 100 := by
  have h1 := sInv.scan (T := T) (sEnd T n b - b).toNat b (-1) sS0 sInv.s0
  rw [if_pos rfl] at h1
  have h2 := sEnd_range (T := T) h.2.1
  refine ⟨h1.1, ?_⟩
  have h3 : (sCmd T n b).2.1 ≤ sS0.2.1 + ((sEnd T n b - b).toNat : Int) + 0 := h1.2
  have h4 : sS0.2.1 = 0 := rfl
  omega
theorem sKind_range (S : sSt) : 0 ≤ sKind S ∧ sKind S ≤ 3 := by
  simp only [sKind]
  repeat (first | omega | split)
theorem sErr_out {T : Int → Int} {n k m : Int} {f : Nat} (h : ¬ k ≤ n) : sErr T n f k m = -1 := by
  cases f with
  | zero => rfl
  | succ f => simp only [sErr, if_neg h]
theorem sErr_bad {T : Int → Int} {n k m : Int} {f : Nat} (h0 : 0 < f) (h : k ≤ n) (h2 : 0 < sKind (sCmd T n k)) : sErr T n f k m = 10 * m + sKind (sCmd T n k) := by
  obtain ⟨q, rfl⟩ : ∃ q, f = q + 1 := ⟨f - 1, by omega⟩
  simp only [sErr, if_pos h, if_pos h2]
theorem sErr_step {T : Int → Int} {n k m : Int} {f : Nat} (h0 : 0 < f) (h : k ≤ n) (h2 : ¬ 0 < sKind (sCmd T n k)) : sErr T n f k m = sErr T n (f - 1) (sEnd T n k + 1) (m + 1) := by
  obtain ⟨q, rfl⟩ : ∃ q, f = q + 1 := ⟨f - 1, by omega⟩
  simp only [sErr, if_pos h, if_neg h2, Nat.add_sub_cancel]
