/-! ===== sums ===== -/
theorem sSum_congr {f g : Int → Int} : ∀ (n : Nat) (l : Int), (∀ j, l ≤ j → j < l + n → f j = g j) → sSum f n l = sSum g n l
  | 0, l, _ => rfl
  | n + 1, l, h => by
    rw [sSum, sSum, h l (by omega) (by omega), sSum_congr n (l + 1) (fun j a b => h j (by omega) (by omega))]
theorem sSum_nn {f : Int → Int} : ∀ (n : Nat) (l : Int), (∀ j, l ≤ j → j < l + n → 0 ≤ f j) → 0 ≤ sSum f n l
  | 0, l, _ => Int.le_refl _
  | n + 1, l, h => by
    rw [sSum]
    have := h l (by omega) (by omega)
    have := sSum_nn n (l + 1) (fun j a b => h j (by omega) (by omega))
    omega
theorem sSum_le {f : Int → Int} : ∀ (n : Nat) (l : Int), (∀ j, l ≤ j → j < l + n → 0 ≤ f j) → ∀ i, l ≤ i → i < l + n → f i ≤ sSum f n l
  | 0, l, _, i, h1, h2 => by omega
  | n + 1, l, h, i, h1, h2 => by
    rw [sSum]
    have h0 := h l (by omega) (by omega)
    have hr : ∀ j, l + 1 ≤ j → j < l + 1 + n → 0 ≤ f j := fun j a b => h j (by omega) (by omega)
    by_cases e : i = l
    · subst e
      have := sSum_nn n (i + 1) hr
      omega
    · have := sSum_le n (l + 1) hr i (by omega) (by omega)
      omega
theorem sSum_set {f g : Int → Int} {i : Int} : ∀ (n : Nat) (l : Int), l ≤ i → i < l + n → (∀ j, l ≤ j → j < l + n → j ≠ i → f j = g j) → sSum f n l = sSum g n l + (f i - g i)
  | 0, l, h1, h2, _ => by omega
  | n + 1, l, h1, h2, h => by
    rw [sSum, sSum]
    by_cases e : i = l
    · subst e
      rw [sSum_congr (f := f) (g := g) n (i + 1) (fun j a b => h j (by omega) (by omega) (by omega))]
      omega
    · rw [h l (by omega) (by omega) (by omega), sSum_set n (l + 1) (by omega) (by omega) (fun j a b c => h j (by omega) (by omega) c)]
      omega
theorem sSum_snoc {f : Int → Int} : ∀ (n : Nat) (l : Int), sSum f (n + 1) l = sSum f n l + f (l + n)
  | 0, l => by simp [sSum]
  | n + 1, l => by
    rw [sSum, sSum_snoc n (l + 1), sSum, show l + 1 + (n : Int) = l + ((n + 1 : Nat) : Int) by omega]
    omega
theorem sSum_leq {f g : Int → Int} : ∀ (n : Nat) (l : Int), (∀ j, l ≤ j → j < l + n → f j ≤ g j) → sSum f n l ≤ sSum g n l
  | 0, l, _ => Int.le_refl _
  | n + 1, l, h => by
    rw [sSum, sSum]
    have := h l (by omega) (by omega)
    have := sSum_leq n (l + 1) (fun j a b => h j (by omega) (by omega))
    omega
theorem sSum_const {c : Int} : ∀ (n : Nat) (l : Int), sSum (fun _ => c) n l = n * c
  | 0, l => by simp [sSum]
  | n + 1, l => by
    rw [sSum, sSum_const n (l + 1), show ((n + 1 : Nat) : Int) = (n : Int) + 1 by omega, Int.add_mul, Int.one_mul]
    omega
/-- a count that is an Int -/
theorem sSum_setI {f g : Int → Int} {n i : Int} (h1 : 0 ≤ i) (h2 : i < n) (h : ∀ j, 0 ≤ j → j < n → j ≠ i → f j = g j) : sSum f n.toNat 0 = sSum g n.toNat 0 + (f i - g i) := sSum_set _ _ h1 (by omega) (fun j a b c => h j a (by omega) c)
theorem sSum_congrI {f g : Int → Int} {n : Int} (h : ∀ j, 0 ≤ j → j < n → f j = g j) : sSum f n.toNat 0 = sSum g n.toNat 0 := by
  by_cases e : 0 ≤ n
  · exact sSum_congr _ _ (fun j a b => h j a (by omega))
  · rw [show n.toNat = 0 by omega]; rfl
theorem sSum_snocI {f g : Int → Int} {n : Int} (hn : 0 ≤ n) (h : ∀ j, 0 ≤ j → j < n → f j = g j) : sSum f (n + 1).toNat 0 = sSum g n.toNat 0 + f n := by
  rw [show (n + 1).toNat = n.toNat + 1 by omega, sSum_snoc, sSum_congrI h, show (0 : Int) + ((n.toNat : Nat) : Int) = n by omega]
theorem sSum_leI {f : Int → Int} {n i : Int} (h1 : 0 ≤ i) (h2 : i < n) (h : ∀ j, 0 ≤ j → j < n → 0 ≤ f j) : f i ≤ sSum f n.toNat 0 := sSum_le _ _ (fun j a b => h j a (by omega)) i h1 (by omega)
theorem sSum_nnI {f : Int → Int} {n : Int} (h : ∀ j, 0 ≤ j → j < n → 0 ≤ f j) : 0 ≤ sSum f n.toNat 0 := sSum_nn _ _ (fun j a b => h j a (by omega))
