/-! ===== the most deliveries that find room: three fullest lots are enough ===== -/
def oOne (i : Int) : Int := if i = -1 then 0 else 1
def oOk (i b : Int) (f : Int → Int) : Prop := i = -1 ∨ (0 ≤ i ∧ i < 3 ∧ b ≤ f i)
def oFt (f : Int → Int) (i b : Int) : Int → Int := if i = -1 then f else sU f i (f i - b)
theorem sPlL_le {rec : (Int → Int) → Int} {b v : Int} {f : Int → Int} : ∀ (n : Nat) (i m : Int), v ≤ sPlL rec b f n i m ↔ v ≤ m ∨ ∃ j, i ≤ j ∧ j < i + n ∧ b ≤ f j ∧ v ≤ 1 + rec (sU f j (f j - b))
  | 0, i, m => ⟨fun h => Or.inl h, fun h => by
    rcases h with h | ⟨j, h1, h2, -⟩
    · exact h
    · omega⟩
  | n + 1, i, m => by
    simp only [sPlL]
    rw [sPlL_le n (i + 1)]
    constructor
    · rintro (h | ⟨j, h1, h2, h3, h4⟩)
      · by_cases c : b ≤ f i
        · rw [if_pos c] at h
          by_cases d : m < 1 + rec (sU f i (f i - b))
          · rw [if_pos d] at h
            exact Or.inr ⟨i, by omega, by omega, c, h⟩
          · rw [if_neg d] at h
            exact Or.inl h
        · rw [if_neg c] at h
          exact Or.inl h
      · exact Or.inr ⟨j, by omega, by omega, h3, h4⟩
    · rintro (h | ⟨j, h1, h2, h3, h4⟩)
      · left
        by_cases c : b ≤ f i
        · rw [if_pos c]
          split <;> omega
        · rw [if_neg c]; exact h
      · by_cases e : j = i
        · subst e
          left
          rw [if_pos h3]
          split <;> omega
        · exact Or.inr ⟨j, by omega, by omega, h3, h4⟩
theorem sMP_le {w : Int → Int} {v : Int} {f : Int → Int} (r : Nat) : v ≤ sMP w (r + 1) f ↔ ∃ i, oOk i (w (2 - (r : Int))) f ∧ v ≤ oOne i + sMP w r (oFt f i (w (2 - (r : Int)))) := by
  simp only [sMP]
  rw [sPlL_le]
  constructor
  · rintro (h | ⟨j, h1, h2, h3, h4⟩)
    · exact ⟨-1, Or.inl rfl, by unfold oOne oFt; rw [if_pos rfl, if_pos rfl]; omega⟩
    · refine ⟨j, Or.inr ⟨h1, by omega, h3⟩, ?_⟩
      unfold oOne oFt
      rw [if_neg (by omega), if_neg (by omega)]
      exact h4
  · rintro ⟨i, h1 | ⟨h1, h2, h3⟩, h4⟩
    · subst h1
      unfold oOne oFt at h4
      rw [if_pos rfl, if_pos rfl] at h4
      left; omega
    · unfold oOne oFt at h4
      rw [if_neg (by omega), if_neg (by omega)] at h4
      exact Or.inr ⟨i, h1, by omega, h3, h4⟩
theorem oN3 (i j k : Int) : oOne i + (oOne j + (oOne k + 0)) = sN3 i j k := by
  unfold oOne sN3
  split <;> split <;> split <;> omega
theorem sMP3_le {w : Int → Int} {v : Int} {f : Int → Int} : v ≤ sMP w 3 f ↔ ∃ i j k, oOk i (w 0) f ∧ oOk j (w 1) (oFt f i (w 0)) ∧ oOk k (w 2) (oFt (oFt f i (w 0)) j (w 1)) ∧ v ≤ sN3 i j k := by
  rw [sMP_le 2]
  constructor
  · rintro ⟨i, h1, h2⟩
    have h3 : v - oOne i ≤ sMP w 2 (oFt f i (w 0)) := by
      have : v ≤ oOne i + sMP w 2 (oFt f i (w 0)) := h2
      omega
    rw [sMP_le 1] at h3
    obtain ⟨j, h4, h5⟩ := h3
    have h6 : v - oOne i - oOne j ≤ sMP w 1 (oFt (oFt f i (w 0)) j (w 1)) := by
      have : v - oOne i ≤ oOne j + sMP w 1 (oFt (oFt f i (w 0)) j (w 1)) := h5
      omega
    rw [sMP_le 0] at h6
    obtain ⟨k, h7, h8⟩ := h6
    have h9 : v - oOne i - oOne j ≤ oOne k + 0 := h8
    exact ⟨i, j, k, h1, h4, h7, by rw [← oN3]; omega⟩
  · rintro ⟨i, j, k, h1, h2, h3, h4⟩
    rw [← oN3] at h4
    refine ⟨i, h1, ?_⟩
    have a : v - oOne i ≤ sMP w 2 (oFt f i (w 0)) := by
      rw [sMP_le 1]
      refine ⟨j, h2, ?_⟩
      have b : v - oOne i - oOne j ≤ sMP w 1 (oFt (oFt f i (w 0)) j (w 1)) := by
        rw [sMP_le 0]
        exact ⟨k, h3, by show v - oOne i - oOne j ≤ oOne k + 0; omega⟩
      show v - oOne i ≤ oOne j + sMP w 1 (oFt (oFt f i (w 0)) j (w 1))
      omega
    show v ≤ oOne i + sMP w 2 (oFt f i (w 0))
    omega
theorem oFt_at {f : Int → Int} {i b r : Int} (h : 0 ≤ r) : oFt f i b r = f r - (if i = r then b else 0) := by
  unfold oFt
  by_cases c : i = -1
  · rw [if_pos c, if_neg (by omega)]; omega
  · rw [if_neg c]
    by_cases d : r = i
    · subst d; rw [sU_eq, if_pos rfl]
    · rw [sU_ne _ _ d, if_neg (fun e => d e.symm)]; omega
def oRg (i : Int) : Prop := -1 ≤ i ∧ i < 3
theorem oSeq {f : Int → Int} {a b c i j k : Int} (ha : 0 ≤ a) (hb : 0 ≤ b) (hc : 0 ≤ c) (hf : ∀ r, 0 ≤ r → r < 3 → 0 ≤ f r) : (oOk i a f ∧ oOk j b (oFt f i a) ∧ oOk k c (oFt (oFt f i a) j b)) ↔ (oRg i ∧ oRg j ∧ oRg k ∧ ∀ r, 0 ≤ r → r < 3 → sWants i j k a b c r ≤ f r) := by
  have e1 : ∀ r, 0 ≤ r → oFt f i a r = f r - (if i = r then a else 0) := fun r h => oFt_at h
  have e2 : ∀ r, 0 ≤ r → oFt (oFt f i a) j b r = f r - (if i = r then a else 0) - (if j = r then b else 0) := fun r h => by rw [oFt_at h, e1 r h]
  constructor
  · rintro ⟨h1, h2, h3⟩
    refine ⟨?_, ?_, ?_, fun r p q => ?_⟩
    · unfold oRg; rcases h1 with h | h <;> omega
    · unfold oRg; rcases h2 with h | h <;> omega
    · unfold oRg; rcases h3 with h | h <;> omega
    · have g0 := hf r p q
      have g1 : 0 ≤ f r - (if i = r then a else 0) := by
        split
        · rename_i e
          rcases h1 with h | h
          · omega
          · rw [← e]; omega
        · omega
      have g2 : 0 ≤ f r - (if i = r then a else 0) - (if j = r then b else 0) := by
        by_cases e : j = r
        · rw [if_pos e]
          rcases h2 with h | ⟨x1, x2, x3⟩
          · omega
          · rw [e1 j x1, e] at x3; omega
        · rw [if_neg e]; omega
      have g3 : 0 ≤ f r - (if i = r then a else 0) - (if j = r then b else 0) - (if k = r then c else 0) := by
        by_cases e : k = r
        · rw [if_pos e]
          rcases h3 with h | ⟨x1, x2, x3⟩
          · omega
          · rw [e2 k x1, e] at x3; omega
        · rw [if_neg e]; omega
      unfold sWants
      omega
  · rintro ⟨h1, h2, h3, h4⟩
    unfold oRg at h1 h2 h3
    have nn : ∀ (p : Prop) [Decidable p] (z : Int), 0 ≤ z → 0 ≤ (if p then z else 0) := fun p _ z hz => by split <;> omega
    refine ⟨?_, ?_, ?_⟩
    · by_cases e : i = -1
      · exact Or.inl e
      · refine Or.inr ⟨by omega, h1.2, ?_⟩
        have := h4 i (by omega) h1.2
        unfold sWants at this
        rw [if_pos rfl] at this
        have q1 := nn (j = i) b hb
        have q2 := nn (k = i) c hc
        omega
    · by_cases e : j = -1
      · exact Or.inl e
      · refine Or.inr ⟨by omega, h2.2, ?_⟩
        have := h4 j (by omega) h2.2
        unfold sWants at this
        rw [if_pos (show j = j from rfl)] at this
        rw [e1 j (by omega)]
        have q2 := nn (k = j) c hc
        omega
    · by_cases e : k = -1
      · exact Or.inl e
      · refine Or.inr ⟨by omega, h3.2, ?_⟩
        have := h4 k (by omega) h3.2
        unfold sWants at this
        rw [if_pos (show k = k from rfl)] at this
        rw [e2 k (by omega)]
        omega
/-- the reference's search -/
theorem sMadeL_eq {w : Int → Int} {x y z a b c : Int} : ∀ (n : Nat) (l t : Int), ((t ≠ 0 ∧ ∀ j, l ≤ j → j < l + n → sWants x y z a b c j ≤ w (1050 + j)) → sMadeL w x y z a b c n l t = sN3 x y z) ∧ (¬ (t ≠ 0 ∧ ∀ j, l ≤ j → j < l + n → sWants x y z a b c j ≤ w (1050 + j)) → sMadeL w x y z a b c n l t = 0)
  | 0, l, t => ⟨fun h => by simp only [sMadeL]; rw [if_neg h.1], fun h => by
    simp only [sMadeL]
    rw [if_pos (Decidable.byContradiction (fun e => h ⟨e, fun j p q => by omega⟩))]⟩
  | n + 1, l, t => by
    have ih := sMadeL_eq (w := w) (x := x) (y := y) (z := z) (a := a) (b := b) (c := c) n (l + 1)
    simp only [sMadeL]
    by_cases e : t ≠ 0 ∧ sWants x y z a b c l ≤ w (1050 + l)
    · rw [if_pos e]
      refine ⟨fun h => (ih 1).1 ⟨by omega, fun j p q => h.2 j (by omega) (by omega)⟩, fun h => (ih 1).2 (fun g => h ⟨e.1, fun j p q => ?_⟩)⟩
      by_cases d : j = l
      · rw [d]; exact e.2
      · exact g.2 j (by omega) (by omega)
    · rw [if_neg e]
      exact ⟨fun h => absurd ⟨h.1, h.2 l (by omega) (by omega)⟩ e, fun h => (ih 0).2 (fun g => g.1 rfl)⟩
def oFit (w : Int → Int) (g r x y z a b c : Int) : Prop := sIs w g r z = true ∧ ∀ l, 0 ≤ l → l < w 1614 → sWants x y z a b c l ≤ w (1050 + l)
theorem sM1_le {w : Int → Int} {g r x y z a b c v : Int} (hv : 1 ≤ v) : v ≤ sM1 w g r x y z a b c ↔ oFit w g r x y z a b c ∧ v ≤ sN3 x y z := by
  have h := sMadeL_eq (w := w) (x := x) (y := y) (z := z) (a := a) (b := b) (c := c) (w 1614).toNat 0 1
  unfold sM1 oFit
  by_cases e : sIs w g r z = true
  · rw [if_pos e]
    by_cases d : ∀ l, 0 ≤ l → l < w 1614 → sWants x y z a b c l ≤ w (1050 + l)
    · have h2 : sMade w x y z a b c = sN3 x y z := h.1 ⟨by omega, fun j p q => d j p (by omega)⟩
      rw [h2]
      exact ⟨fun q => ⟨⟨e, d⟩, q⟩, fun q => q.2⟩
    · have h2 : sMade w x y z a b c = 0 := h.2 (fun q => d (fun l p r => q.2 l p (by omega)))
      rw [h2]
      exact ⟨fun q => by omega, fun q => absurd q.1.2 d⟩
  · rw [if_neg e]
    exact ⟨fun q => by omega, fun q => absurd q.1.1 e⟩
theorem sMz_le {w : Int → Int} {g r x y a b c v : Int} (hv : v ≤ 3) : ∀ (n : Nat) (z m : Int), v ≤ sMz w g r x y a b c n z m ↔ v ≤ m ∨ (sIs w g r y = true ∧ ∃ z', z ≤ z' ∧ z' < z + n ∧ v ≤ sM1 w g r x y z' a b c)
  | 0, z, m => ⟨fun h => Or.inl h, fun h => by
    rcases h with h | ⟨-, z', h1, h2, -⟩
    · exact h
    · omega⟩
  | n + 1, z, m => by
    by_cases e : sIs w g r y = true ∧ m < 3
    · rw [sMz_step (by omega) e, Nat.add_sub_cancel, sMz_le hv n (z + 1)]
      constructor
      · rintro (h | ⟨h1, z', h2, h3, h4⟩)
        · by_cases d : m < sM1 w g r x y z a b c
          · rw [if_pos d] at h
            exact Or.inr ⟨e.1, z, by omega, by omega, h⟩
          · rw [if_neg d] at h
            exact Or.inl h
        · exact Or.inr ⟨h1, z', by omega, by omega, h4⟩
      · rintro (h | ⟨h1, z', h2, h3, h4⟩)
        · left; split <;> omega
        · by_cases d : z' = z
          · left
            rw [d] at h4
            split <;> omega
          · exact Or.inr ⟨h1, z', by omega, by omega, h4⟩
    · rw [sMz_out e]
      constructor
      · exact fun h => Or.inl h
      · rintro (h | ⟨h1, -⟩)
        · exact h
        · have : ¬ m < 3 := fun q => e ⟨h1, q⟩
          omega
theorem sMy_le {w : Int → Int} {g r x a b c v : Int} {N : Nat} (hv : v ≤ 3) : ∀ (n : Nat) (y m : Int), v ≤ sMy w g r x a b c N n y m ↔ v ≤ m ∨ (sIs w g r x = true ∧ ∃ y', y ≤ y' ∧ y' < y + n ∧ sIs w g r y' = true ∧ ∃ z' : Int, -1 ≤ z' ∧ z' < -1 + N ∧ v ≤ sM1 w g r x y' z' a b c)
  | 0, y, m => ⟨fun h => Or.inl h, fun h => by
    rcases h with h | ⟨-, z', h1, h2, -⟩
    · exact h
    · omega⟩
  | n + 1, y, m => by
    by_cases e : sIs w g r x = true
    · rw [sMy_step (by omega) e, Nat.add_sub_cancel, sMy_le hv n (y + 1), sMz_le hv]
      constructor
      · rintro ((h | ⟨h1, h2⟩) | ⟨h1, y', h2, h3, h4⟩)
        · exact Or.inl h
        · exact Or.inr ⟨e, y, by omega, by omega, h1, h2⟩
        · exact Or.inr ⟨h1, y', by omega, by omega, h4⟩
      · rintro (h | ⟨h1, y', h2, h3, h4⟩)
        · exact Or.inl (Or.inl h)
        · by_cases d : y' = y
          · rw [d] at h4
            exact Or.inl (Or.inr h4)
          · exact Or.inr ⟨h1, y', by omega, by omega, h4⟩
    · rw [sMy_out e]
      exact ⟨fun h => Or.inl h, fun h => h.elim (fun q => q) (fun q => absurd q.1 e)⟩
theorem sMx_le {w : Int → Int} {g r a b c v : Int} {N : Nat} (hv : v ≤ 3) : ∀ (n : Nat) (x m : Int), v ≤ sMx w g r a b c N n x m ↔ v ≤ m ∨ ∃ x', x ≤ x' ∧ x' < x + n ∧ sIs w g r x' = true ∧ ∃ y' : Int, -1 ≤ y' ∧ y' < -1 + N ∧ sIs w g r y' = true ∧ ∃ z' : Int, -1 ≤ z' ∧ z' < -1 + N ∧ v ≤ sM1 w g r x' y' z' a b c
  | 0, x, m => ⟨fun h => Or.inl h, fun h => by
    rcases h with h | ⟨z', h1, h2, -⟩
    · exact h
    · omega⟩
  | n + 1, x, m => by
    rw [sMx_step (by omega), Nat.add_sub_cancel, sMx_le hv n (x + 1), sMy_le hv]
    constructor
    · rintro ((h | ⟨h1, h2⟩) | ⟨x', h2, h3, h4⟩)
      · exact Or.inl h
      · exact Or.inr ⟨x, by omega, by omega, h1, h2⟩
      · exact Or.inr ⟨x', by omega, by omega, h4⟩
    · rintro (h | ⟨x', h2, h3, h4⟩)
      · exact Or.inl (Or.inl h)
      · by_cases d : x' = x
        · rw [d] at h4
          exact Or.inl (Or.inr h4)
        · exact Or.inr ⟨x', by omega, by omega, h4⟩
/-- the three fullest -/
def oL (W : Int → Int) (g r p l : Int) : Prop := 0 ≤ l ∧ l < p ∧ W (410 + l) = g ∧ W (730 + l) = r
def oTop (W : Int → Int) (g r p : Int) (f : Int → Int) : Prop := (0 ≤ f 2 ∧ f 2 ≤ f 1 ∧ f 1 ≤ f 0) ∧ (∀ l, oL W g r p l → W (1050 + l) ≤ f 0) ∧ (∀ l m, oL W g r p l → oL W g r p m → l ≠ m → W (1050 + l) ≤ f 1 ∨ W (1050 + m) ≤ f 1) ∧ (∀ l m k, oL W g r p l → oL W g r p m → oL W g r p k → l ≠ m → l ≠ k → m ≠ k → W (1050 + l) ≤ f 2 ∨ W (1050 + m) ≤ f 2 ∨ W (1050 + k) ≤ f 2) ∧ ∃ t0 t1 t2 : Int, (0 < f 0 → oL W g r p t0 ∧ W (1050 + t0) = f 0) ∧ (0 < f 1 → oL W g r p t1 ∧ W (1050 + t1) = f 1) ∧ (0 < f 2 → oL W g r p t2 ∧ W (1050 + t2) = f 2) ∧ (0 < f 1 → t0 ≠ t1) ∧ (0 < f 2 → t0 ≠ t2 ∧ t1 ≠ t2)
theorem sInsL_vals {h : Int} {f : Int → Int} (o : f 2 ≤ f 1 ∧ f 1 ≤ f 0) : (h ≤ f 2 → sInsL 3 0 h f 0 = f 0 ∧ sInsL 3 0 h f 1 = f 1 ∧ sInsL 3 0 h f 2 = f 2) ∧ (f 2 < h ∧ h ≤ f 1 → sInsL 3 0 h f 0 = f 0 ∧ sInsL 3 0 h f 1 = f 1 ∧ sInsL 3 0 h f 2 = h) ∧ (f 1 < h ∧ h ≤ f 0 → sInsL 3 0 h f 0 = f 0 ∧ sInsL 3 0 h f 1 = h ∧ sInsL 3 0 h f 2 = f 1) ∧ (f 0 < h → sInsL 3 0 h f 0 = h ∧ sInsL 3 0 h f 1 = f 0 ∧ sInsL 3 0 h f 2 = f 1) := by
  have s01 : ∀ (g : Int → Int) (z : Int), sU g 0 z 1 = g 1 := fun g z => sU_ne _ _ (by decide)
  have s02 : ∀ (g : Int → Int) (z : Int), sU g 0 z 2 = g 2 := fun g z => sU_ne _ _ (by decide)
  have s12 : ∀ (g : Int → Int) (z : Int), sU g 1 z 2 = g 2 := fun g z => sU_ne _ _ (by decide)
  have s10 : ∀ (g : Int → Int) (z : Int), sU g 1 z 0 = g 0 := fun g z => sU_ne _ _ (by decide)
  have s20 : ∀ (g : Int → Int) (z : Int), sU g 2 z 0 = g 0 := fun g z => sU_ne _ _ (by decide)
  have s21 : ∀ (g : Int → Int) (z : Int), sU g 2 z 1 = g 1 := fun g z => sU_ne _ _ (by decide)
  have e : ∀ k : Int, k = 0 ∨ k = 1 ∨ k = 2 → True := fun _ _ => trivial
  simp only [sInsL, show (0 : Int) + 1 = 1 from rfl, show (1 : Int) + 1 = 2 from rfl]
  by_cases c0 : f 0 < h
  · rw [if_pos c0]
    simp only [s01]
    by_cases c1 : f 1 < f 0
    · rw [if_pos c1]
      simp only [s12, s02]
      by_cases c2 : f 2 < f 1
      · rw [if_pos c2]
        simp only [s20, s10, s21, sU_eq]
        (refine ⟨fun q => ?_, fun q => ?_, fun q => ?_, fun q => ?_⟩ <;> first | omega | exact ⟨rfl, rfl, rfl⟩ | simp only [and_self] | (refine ⟨?_, ?_, ?_⟩ <;> first | omega | rfl | trivial))
      · rw [if_neg c2]
        simp only [s10, s12, s02, sU_eq]
        (refine ⟨fun q => ?_, fun q => ?_, fun q => ?_, fun q => ?_⟩ <;> first | omega | exact ⟨rfl, rfl, rfl⟩ | simp only [and_self] | (refine ⟨?_, ?_, ?_⟩ <;> first | omega | rfl | trivial))
    · rw [if_neg c1]
      simp only [s02]
      by_cases c2 : f 2 < f 0
      · rw [if_pos c2]
        simp only [s20, s21, s01, sU_eq]
        (refine ⟨fun q => ?_, fun q => ?_, fun q => ?_, fun q => ?_⟩ <;> first | omega | exact ⟨rfl, rfl, rfl⟩ | simp only [and_self] | (refine ⟨?_, ?_, ?_⟩ <;> first | omega | rfl | trivial))
      · rw [if_neg c2]
        simp only [s01, s02, sU_eq]
        (refine ⟨fun q => ?_, fun q => ?_, fun q => ?_, fun q => ?_⟩ <;> first | omega | exact ⟨rfl, rfl, rfl⟩ | simp only [and_self] | (refine ⟨?_, ?_, ?_⟩ <;> first | omega | rfl | trivial))
  · rw [if_neg c0]
    by_cases c1 : f 1 < h
    · rw [if_pos c1]
      simp only [s12]
      by_cases c2 : f 2 < f 1
      · rw [if_pos c2]
        simp only [s20, s10, s21, sU_eq]
        (refine ⟨fun q => ?_, fun q => ?_, fun q => ?_, fun q => ?_⟩ <;> first | omega | exact ⟨rfl, rfl, rfl⟩ | simp only [and_self] | (refine ⟨?_, ?_, ?_⟩ <;> first | omega | rfl | trivial))
      · rw [if_neg c2]
        simp only [s10, s12, sU_eq]
        (refine ⟨fun q => ?_, fun q => ?_, fun q => ?_, fun q => ?_⟩ <;> first | omega | exact ⟨rfl, rfl, rfl⟩ | simp only [and_self] | (refine ⟨?_, ?_, ?_⟩ <;> first | omega | rfl | trivial))
    · rw [if_neg c1]
      by_cases c2 : f 2 < h
      · rw [if_pos c2]
        simp only [s20, s21, sU_eq]
        (refine ⟨fun q => ?_, fun q => ?_, fun q => ?_, fun q => ?_⟩ <;> first | omega | exact ⟨rfl, rfl, rfl⟩ | simp only [and_self] | (refine ⟨?_, ?_, ?_⟩ <;> first | omega | rfl | trivial))
      · rw [if_neg c2]
        (refine ⟨fun q => ?_, fun q => ?_, fun q => ?_, fun q => ?_⟩ <;> first | omega | exact ⟨rfl, rfl, rfl⟩ | simp only [and_self] | (refine ⟨?_, ?_, ?_⟩ <;> first | omega | rfl | trivial))
