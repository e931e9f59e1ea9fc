theorem sMx_rng {w : Int → Int} {g r a b c : Int} {N : Nat} : ∀ (n : Nat) (x m : Int), 0 ≤ m ∧ m ≤ 3 → 0 ≤ sMx w g r a b c N n x m ∧ sMx w g r a b c N n x m ≤ 3
  | 0, x, m, h => h
  | n + 1, x, m, h => by
    rw [sMx_step (by omega), Nat.add_sub_cancel]
    exact sMx_rng n (x + 1) _ (sMy_range _ _ _ h)
theorem oTop.ins {W : Int → Int} {g r p : Int} {f : Int → Int} (h : oTop W g r p f) (hp : W (410 + p) = g ∧ W (730 + p) = r) (hB : 0 ≤ W (1050 + p)) (hp0 : 0 ≤ p) : oTop W g r (p + 1) (sInsL 3 0 (W (1050 + p)) f) := by
  obtain ⟨⟨o1, o2, o3⟩, q1, q2, q3, t0, t1, t2, w0, w1, w2, d1, d2⟩ := h
  have old : ∀ l, oL W g r (p + 1) l → l = p ∨ oL W g r p l := fun l hl => by
    by_cases e : l = p
    · exact Or.inl e
    · exact Or.inr ⟨hl.1, by have := hl.2.1; omega, hl.2.2⟩
  have up : ∀ l, oL W g r p l → oL W g r (p + 1) l := fun l hl => ⟨hl.1, by have := hl.2.1; omega, hl.2.2⟩
  have self : oL W g r (p + 1) p := ⟨hp0, by omega, hp⟩
  have ne : ∀ l, oL W g r p l → l ≠ p := fun l hl => by have := hl.2.1; omega
  obtain ⟨v1, v2, v3, v4⟩ := sInsL_vals (h := W (1050 + p)) (f := f) ⟨o2, o3⟩
  by_cases c1 : W (1050 + p) ≤ f 2
  · obtain ⟨e0, e1, e2⟩ := v1 c1
    refine ⟨by rw [e0, e1, e2]; exact ⟨o1, o2, o3⟩, fun l hl => ?_, fun l m hl hm hne => ?_, fun l m k hl hm hk a b c => ?_, t0, t1, t2, ?_, ?_, ?_, ?_, ?_⟩
    · rw [e0]
      rcases old l hl with rfl | u
      · omega
      · exact q1 l u
    · rw [e1]
      rcases old l hl with rfl | u
      · omega
      · rcases old m hm with rfl | u2
        · omega
        · exact q2 l m u u2 hne
    · rw [e2]
      rcases old l hl with rfl | u
      · omega
      · rcases old m hm with rfl | u2
        · omega
        · rcases old k hk with rfl | u3
          · omega
          · exact q3 l m k u u2 u3 a b c
    · rw [e0]; exact fun z => ⟨up _ (w0 z).1, (w0 z).2⟩
    · rw [e1]; exact fun z => ⟨up _ (w1 z).1, (w1 z).2⟩
    · rw [e2]; exact fun z => ⟨up _ (w2 z).1, (w2 z).2⟩
    · rw [e1]; exact d1
    · rw [e2]; exact d2
  by_cases c2 : W (1050 + p) ≤ f 1
  · obtain ⟨e0, e1, e2⟩ := v2 ⟨by omega, c2⟩
    refine ⟨by rw [e0, e1, e2]; exact ⟨hB, c2, o3⟩, fun l hl => ?_, fun l m hl hm hne => ?_, fun l m k hl hm hk a b c => ?_, t0, t1, p, ?_, ?_, ?_, ?_, ?_⟩
    · rw [e0]
      rcases old l hl with rfl | u
      · omega
      · exact q1 l u
    · rw [e1]
      rcases old l hl with rfl | u
      · omega
      · rcases old m hm with rfl | u2
        · omega
        · exact q2 l m u u2 hne
    · rw [e2]
      rcases old l hl with rfl | u
      · omega
      · rcases old m hm with rfl | u2
        · omega
        · rcases old k hk with rfl | u3
          · omega
          · have := q3 l m k u u2 u3 a b c
            omega
    · rw [e0]; exact fun z => ⟨up _ (w0 z).1, (w0 z).2⟩
    · rw [e1]; exact fun z => ⟨up _ (w1 z).1, (w1 z).2⟩
    · rw [e2]; exact fun z => ⟨self, rfl⟩
    · rw [e1]; exact d1
    · rw [e2]; exact fun z => ⟨ne _ (w0 (by omega)).1, ne _ (w1 (by omega)).1⟩
  by_cases c3 : W (1050 + p) ≤ f 0
  · obtain ⟨e0, e1, e2⟩ := v3 ⟨by omega, c3⟩
    refine ⟨by rw [e0, e1, e2]; omega, fun l hl => ?_, fun l m hl hm hne => ?_, fun l m k hl hm hk a b c => ?_, t0, p, t1, ?_, ?_, ?_, ?_, ?_⟩
    · rw [e0]
      rcases old l hl with rfl | u
      · omega
      · exact q1 l u
    · rw [e1]
      rcases old l hl with rfl | u
      · omega
      · rcases old m hm with rfl | u2
        · omega
        · have := q2 l m u u2 hne
          omega
    · rw [e2]
      rcases old l hl with rfl | u
      · rcases old m hm with rfl | u2
        · omega
        · rcases old k hk with rfl | u3
          · omega
          · have := q2 m k u2 u3 c
            omega
      · rcases old m hm with rfl | u2
        · rcases old k hk with rfl | u3
          · omega
          · have := q2 l k u u3 b
            omega
        · have := q2 l m u u2 a
          omega
    · rw [e0]; exact fun z => ⟨up _ (w0 z).1, (w0 z).2⟩
    · rw [e1]; exact fun z => ⟨self, rfl⟩
    · rw [e2]; exact fun z => ⟨up _ (w1 z).1, (w1 z).2⟩
    · rw [e1]; exact fun z => ne _ (w0 (by omega)).1
    · rw [e2]; exact fun z => ⟨d1 z, fun q => ne _ (w1 z).1 q.symm⟩
  · obtain ⟨e0, e1, e2⟩ := v4 (by omega)
    refine ⟨by rw [e0, e1, e2]; omega, fun l hl => ?_, fun l m hl hm hne => ?_, fun l m k hl hm hk a b c => ?_, p, t0, t1, ?_, ?_, ?_, ?_, ?_⟩
    · rw [e0]
      rcases old l hl with rfl | u
      · omega
      · have := q1 l u
        omega
    · rw [e1]
      rcases old l hl with rfl | u
      · rcases old m hm with rfl | u2
        · omega
        · have := q1 m u2
          omega
      · have := q1 l u
        omega
    · rw [e2]
      rcases old l hl with rfl | u
      · rcases old m hm with rfl | u2
        · omega
        · rcases old k hk with rfl | u3
          · omega
          · have := q2 m k u2 u3 c
            omega
      · rcases old m hm with rfl | u2
        · rcases old k hk with rfl | u3
          · omega
          · have := q2 l k u u3 b
            omega
        · have := q2 l m u u2 a
          omega
    · rw [e0]; exact fun z => ⟨self, rfl⟩
    · rw [e1]; exact fun z => ⟨up _ (w0 z).1, (w0 z).2⟩
    · rw [e2]; exact fun z => ⟨up _ (w1 z).1, (w1 z).2⟩
    · rw [e1]; exact fun z q => ne _ (w0 z).1 q.symm
    · rw [e2]; exact fun z => ⟨fun q => ne _ (w1 z).1 q.symm, d1 z⟩
theorem oTop.skip {W : Int → Int} {g r p : Int} {f : Int → Int} (h : oTop W g r p f) (hp : ¬ (W (410 + p) = g ∧ W (730 + p) = r)) : oTop W g r (p + 1) f := by
  obtain ⟨o, q1, q2, q3, t0, t1, t2, w0, w1, w2, d1, d2⟩ := h
  have old : ∀ l, oL W g r (p + 1) l → oL W g r p l := fun l hl => by
    by_cases e : l = p
    · subst e; exact absurd hl.2.2 hp
    · exact ⟨hl.1, by have := hl.2.1; omega, hl.2.2⟩
  have up : ∀ l, oL W g r p l → oL W g r (p + 1) l := fun l hl => ⟨hl.1, by have := hl.2.1; omega, hl.2.2⟩
  exact ⟨o, fun l hl => q1 l (old l hl), fun l m hl hm => q2 l m (old l hl) (old m hm), fun l m k hl hm hk => q3 l m k (old l hl) (old m hm) (old k hk), t0, t1, t2, fun z => ⟨up _ (w0 z).1, (w0 z).2⟩, fun z => ⟨up _ (w1 z).1, (w1 z).2⟩, fun z => ⟨up _ (w2 z).1, (w2 z).2⟩, d1, d2⟩
theorem oTop.full {W : Int → Int} {g r : Int} : ∀ (n : Nat) (p : Int) (f : Int → Int), oTop W g r p f → 0 ≤ p → (∀ j, p ≤ j → j < p + n → 0 ≤ W (1050 + j)) → oTop W g r (p + n) (sFulL W g r n p f)
  | 0, p, f, h, _, _ => by
    have e : p + ((0 : Nat) : Int) = p := by omega
    rw [e]; exact h
  | n + 1, p, f, h, hp, hB => by
    rw [sFulL_step (by omega), Nat.add_sub_cancel, show p + ((n + 1 : Nat) : Int) = p + 1 + (n : Int) by omega]
    refine oTop.full n (p + 1) _ ?_ (by omega) (fun j a b => hB j (by omega) (by omega))
    by_cases c : W (410 + p) = g ∧ W (730 + p) = r
    · rw [if_pos c]; exact h.ins c (hB p (by omega) (by omega)) hp
    · rw [if_neg c]; exact h.skip c
theorem oTop.zero {W : Int → Int} {g r : Int} : oTop W g r 0 (fun _ => 0) := ⟨⟨Int.le_refl _, Int.le_refl _, Int.le_refl _⟩, fun l h => absurd h.2.1 (by have := h.1; omega), fun l _ h _ _ => absurd h.2.1 (by have := h.1; omega), fun l _ _ h _ _ _ _ _ => absurd h.2.1 (by have := h.1; omega), 0, 0, 0, fun z => absurd z (by decide), fun z => absurd z (by decide), fun z => absurd z (by decide), fun z => absurd z (by decide), fun z => absurd z (by decide)⟩
/-- rooms for the lots of a placement -/
def oAs (W f : Int → Int) (x y z i j k : Int) : Prop := (oRg i ∧ oRg j ∧ oRg k) ∧ ((x = -1 ↔ i = -1) ∧ (y = -1 ↔ j = -1) ∧ (z = -1 ↔ k = -1)) ∧ ((x ≠ -1 → (y = x ↔ j = i)) ∧ (x ≠ -1 → (z = x ↔ k = i)) ∧ (y ≠ -1 → (z = y ↔ k = j))) ∧ (x ≠ -1 → W (1050 + x) ≤ f i) ∧ (y ≠ -1 → W (1050 + y) ≤ f j) ∧ (z ≠ -1 → W (1050 + z) ≤ f k)
theorem oTop.two {W : Int → Int} {g r p : Int} {f : Int → Int} (h : oTop W g r p f) {u v : Int} (hu : oL W g r p u) (hv : oL W g r p v) (hne : u ≠ v) : ∃ i j : Int, ((i = 0 ∧ j = 1) ∨ (i = 1 ∧ j = 0)) ∧ W (1050 + u) ≤ f i ∧ W (1050 + v) ≤ f j := by
  obtain ⟨⟨o1, o2, o3⟩, q1, q2, q3, -⟩ := h
  rcases q2 u v hu hv hne with e | e
  · exact ⟨1, 0, Or.inr ⟨rfl, rfl⟩, e, q1 v hv⟩
  · exact ⟨0, 1, Or.inl ⟨rfl, rfl⟩, q1 u hu, e⟩
theorem oTop.three {W : Int → Int} {g r p : Int} {f : Int → Int} (h : oTop W g r p f) {u v w : Int} (hu : oL W g r p u) (hv : oL W g r p v) (hw : oL W g r p w) (h1 : u ≠ v) (h2 : u ≠ w) (h3 : v ≠ w) : ∃ i j k : Int, (0 ≤ i ∧ i < 3) ∧ (0 ≤ j ∧ j < 3) ∧ (0 ≤ k ∧ k < 3) ∧ i ≠ j ∧ i ≠ k ∧ j ≠ k ∧ W (1050 + u) ≤ f i ∧ W (1050 + v) ≤ f j ∧ W (1050 + w) ≤ f k := by
  rcases h.2.2.2.1 u v w hu hv hw h1 h2 h3 with e | e | e
  · obtain ⟨j, k, c, a, b⟩ := h.two hv hw h3
    exact ⟨2, j, k, by omega, by omega, by omega, by omega, by omega, by omega, e, a, b⟩
  · obtain ⟨i, k, c, a, b⟩ := h.two hu hw h2
    exact ⟨i, 2, k, by omega, by omega, by omega, by omega, by omega, by omega, a, e, b⟩
  · obtain ⟨i, j, c, a, b⟩ := h.two hu hv h1
    exact ⟨i, j, 2, by omega, by omega, by omega, by omega, by omega, by omega, a, b, e⟩
theorem oTop.rooms {W : Int → Int} {g r p : Int} {f : Int → Int} (h : oTop W g r p f) {x y z : Int} (hx : x = -1 ∨ oL W g r p x) (hy : y = -1 ∨ oL W g r p y) (hz : z = -1 ∨ oL W g r p z) : ∃ i j k, oAs W f x y z i j k := by
  have q1 := h.2.1
  have ps : ∀ l, oL W g r p l → 0 ≤ l := fun l hl => hl.1
  rcases hx with rfl | hx
  · rcases hy with rfl | hy
    · rcases hz with rfl | hz
      · exact ⟨-1, -1, -1, by unfold oAs oRg; omega⟩
      · have := ps z hz
        have := q1 z hz
        exact ⟨-1, -1, 0, by unfold oAs oRg; omega⟩
    · have := ps y hy
      rcases hz with rfl | hz
      · have := q1 y hy
        exact ⟨-1, 0, -1, by unfold oAs oRg; omega⟩
      · have := ps z hz
        by_cases e : z = y
        · subst e
          have := q1 z hz
          exact ⟨-1, 0, 0, by unfold oAs oRg; omega⟩
        · obtain ⟨j, k, c, a, b⟩ := h.two hy hz (fun q => e q.symm)
          exact ⟨-1, j, k, by unfold oAs oRg; omega⟩
  · have := ps x hx
    rcases hy with rfl | hy
    · rcases hz with rfl | hz
      · have := q1 x hx
        exact ⟨0, -1, -1, by unfold oAs oRg; omega⟩
      · have := ps z hz
        by_cases e : z = x
        · subst e
          have := q1 z hz
          exact ⟨0, -1, 0, by unfold oAs oRg; omega⟩
        · obtain ⟨i, k, c, a, b⟩ := h.two hx hz (fun q => e q.symm)
          exact ⟨i, -1, k, by unfold oAs oRg; omega⟩
    · have := ps y hy
      rcases hz with rfl | hz
      · by_cases e : y = x
        · subst e
          have := q1 y hy
          exact ⟨0, 0, -1, by unfold oAs oRg; omega⟩
        · obtain ⟨i, j, c, a, b⟩ := h.two hx hy (fun q => e q.symm)
          exact ⟨i, j, -1, by unfold oAs oRg; omega⟩
      · have := ps z hz
        by_cases e1 : y = x
        · subst e1
          by_cases e2 : z = y
          · subst e2
            have := q1 z hz
            exact ⟨0, 0, 0, by unfold oAs oRg; omega⟩
          · obtain ⟨i, k, c, a, b⟩ := h.two hx hz (fun q => e2 q.symm)
            exact ⟨i, i, k, by unfold oAs oRg; omega⟩
        · by_cases e2 : z = x
          · subst e2
            obtain ⟨i, j, c, a, b⟩ := h.two hx hy (fun q => e1 q.symm)
            exact ⟨i, j, i, by unfold oAs oRg; omega⟩
          · by_cases e3 : z = y
            · subst e3
              obtain ⟨i, j, c, a, b⟩ := h.two hx hy (fun q => e1 q.symm)
              exact ⟨i, j, j, by unfold oAs oRg; omega⟩
            · obtain ⟨i, j, k, c1, c2, c3, c4, c5, c6, a1, a2, a3⟩ := h.three hx hy hz (fun q => e1 q.symm) (fun q => e2 q.symm) (fun q => e3 q.symm)
              exact ⟨i, j, k, by unfold oAs oRg; omega⟩
theorem sIs_iff {W : Int → Int} {g r l : Int} (h : -1 ≤ l ∧ l < W 1614) : sIs W g r l = true ↔ (l = -1 ∨ oL W g r (W 1614) l) := by
  unfold sIs oL
  simp only [Bool.or_eq_true, Bool.and_eq_true, decide_eq_true_eq]
  constructor
  · rintro (e | e)
    · exact Or.inl e
    · by_cases q : l = -1
      · exact Or.inl q
      · exact Or.inr ⟨by omega, h.2, e⟩
  · rintro (e | e)
    · exact Or.inl e
    · exact Or.inr e.2.2
theorem sMost_eq {W : Int → Int} {g r a b c : Int} {w : Int → Int} (h0 : iN W) (ha : 1 ≤ a) (hb : 1 ≤ b) (hc : 1 ≤ c) (w0 : w 0 = a) (w1 : w 1 = b) (w2 : w 2 = c) : sMP w 3 (sFulL W g r (W 1614).toNat 0 (fun _ => 0)) = sMost W g r a b c := by
  have hL := h0.2.2.2.2.1
  have hB : ∀ l, 0 ≤ l → l < W 1614 → 0 ≤ W (1050 + l) := fun l p q => by
    obtain ⟨z1, z2, z3, z4, z5, z6, z7, z8, -⟩ := hL.2.2.1 l p q
    exact z8
  have ht := oTop.full (W := W) (g := g) (r := r) (W 1614).toNat 0 (fun _ => 0) oTop.zero (by omega) (fun j p q => hB j p (by omega))
  have hn := hL.1
  rw [show (0 : Int) + ((W 1614).toNat : Int) = W 1614 by omega] at ht
  generalize hfe : sFulL W g r (W 1614).toNat 0 (fun _ => 0) = f at ht ⊢
  have hf : ∀ i, 0 ≤ i → i < 3 → 0 ≤ f i := fun i p q => by
    have o := ht.1
    have hc : i = 0 ∨ i = 1 ∨ i = 2 := by omega
    rcases hc with e | e | e <;> subst e <;> omega
  have key : ∀ v, 1 ≤ v → v ≤ 3 → (v ≤ sMP w 3 f ↔ v ≤ sMost W g r a b c) := fun v hv1 hv3 => by
    rw [sMP3_le, w0, w1, w2]
    unfold sMost
    rw [sMx_le hv3]
    have hN : (-1 : Int) + ((W 1614 + 1).toNat : Int) = W 1614 := by omega
    rw [hN]
    constructor
    · rintro ⟨i, j, k, hi, hj, hk, hv⟩
      obtain ⟨g1, g2, g3, g4⟩ := (oSeq (by omega) (by omega) (by omega) hf).mp ⟨hi, hj, hk⟩
      obtain ⟨-, -, -, -, t0, t1, t2, u0, u1, u2, d1, d2⟩ := ht
      right
      obtain ⟨m, hm⟩ : ∃ m : Int → Int, m = fun i => if i = 0 then t0 else if i = 1 then t1 else if i = 2 then t2 else -1 := ⟨_, rfl⟩
      have m0 : m 0 = t0 := by rw [hm]; rfl
      have m1 : m 1 = t1 := by rw [hm]; rfl
      have m2 : m 2 = t2 := by rw [hm]; rfl
      have mn : m (-1) = -1 := by rw [hm]; rfl
      have U : ∀ q, 0 ≤ q → q < 3 → 0 < f q → oL W g r (W 1614) (m q) ∧ W (1050 + m q) = f q := fun q p1 p2 p3 => by
        have hc : q = 0 ∨ q = 1 ∨ q = 2 := by omega
        rcases hc with e | e | e <;> subst e
        · rw [m0]; exact u0 p3
        · rw [m1]; exact u1 p3
        · rw [m2]; exact u2 p3
      have Dd : ∀ q q', 0 ≤ q → q < 3 → 0 ≤ q' → q' < 3 → 0 < f q → 0 < f q' → m q = m q' → q = q' := fun q q' p1 p2 p3 p4 p5 p6 e => by
        have hc : q = 0 ∨ q = 1 ∨ q = 2 := by omega
        have hc' : q' = 0 ∨ q' = 1 ∨ q' = 2 := by omega
        rcases hc with e1 | e1 | e1 <;> subst e1 <;> rcases hc' with e2 | e2 | e2 <;> subst e2 <;> first | rfl | (simp only [m0, m1, m2] at e; have := d1; have := d2; omega)
      have nn : ∀ (p : Prop) [Decidable p] (z : Int), 0 ≤ z → 0 ≤ (if p then z else 0) := fun p _ z hz => by split <;> omega
      unfold oRg at g1 g2 g3
      have use : ∀ q, (q = i ∨ q = j ∨ q = k) → q ≠ -1 → 0 < f q := fun q e hq => by
        have h1 := g4 q (by omega) (by omega)
        unfold sWants at h1
        have x1 := nn (i = q) a (by omega)
        have x2 := nn (j = q) b (by omega)
        have x3 := nn (k = q) c (by omega)
        rcases e with e | e | e
        · rw [if_pos e.symm] at h1; omega
        · rw [if_pos e.symm] at h1; omega
        · rw [if_pos e.symm] at h1; omega
      have lot : ∀ q, (q = i ∨ q = j ∨ q = k) → (-1 ≤ m q ∧ m q < W 1614) ∧ sIs W g r (m q) = true ∧ (m q = -1 ↔ q = -1) := fun q e => by
        by_cases hq : q = -1
        · subst hq
          rw [mn]
          exact ⟨by omega, by simp [sIs], by simp⟩
        · have u := (U q (by omega) (by omega) (use q e hq)).1
          have hr : -1 ≤ m q ∧ m q < W 1614 := ⟨by have := u.1; omega, u.2.1⟩
          exact ⟨hr, (sIs_iff hr).mpr (Or.inr u), ⟨fun z => by have := u.1; omega, fun z => absurd z hq⟩⟩
      have li := lot i (Or.inl rfl)
      have lj := lot j (Or.inr (Or.inl rfl))
      have lk := lot k (Or.inr (Or.inr rfl))
      have same : ∀ q q', (q = i ∨ q = j ∨ q = k) → (q' = i ∨ q' = j ∨ q' = k) → q ≠ -1 → (m q' = m q ↔ q' = q) := fun q q' e e' hq => by
        constructor
        · intro z
          by_cases hq' : q' = -1
          · rw [hq', mn] at z
            have := (lot q e).2.2
            omega
          · exact Dd q' q (by omega) (by omega) (by omega) (by omega) (use q' e' hq') (use q e hq) z
        · intro z; rw [z]
      refine ⟨m i, li.1.1, li.1.2, li.2.1, m j, lj.1.1, lj.1.2, lj.2.1, m k, lk.1.1, lk.1.2, ?_⟩
      rw [sM1_le hv1]
      refine ⟨⟨lk.2.1, fun l p1 p2 => ?_⟩, ?_⟩
      · have done : ∀ q, (q = i ∨ q = j ∨ q = k) → q ≠ -1 → m q = l → sWants (m i) (m j) (m k) a b c l ≤ W (1050 + l) := fun q e hq hl => by
          have u := (U q (by omega) (by omega) (use q e hq)).2
          have s1 := same q i e (Or.inl rfl) hq
          have s2 := same q j e (Or.inr (Or.inl rfl)) hq
          have s3 := same q k e (Or.inr (Or.inr rfl)) hq
          rw [← hl, u]
          have h1 := g4 q (by omega) (by omega)
          unfold sWants at h1 ⊢
          simp only [s1, s2, s3]
          exact h1
        by_cases z1 : m i = l
        · exact done i (Or.inl rfl) (by omega) z1
        by_cases z2 : m j = l
        · exact done j (Or.inr (Or.inl rfl)) (by omega) z2
        by_cases z3 : m k = l
        · exact done k (Or.inr (Or.inr rfl)) (by omega) z3
        · have := hB l p1 p2
          unfold sWants
          rw [if_neg z1, if_neg z2, if_neg z3]
          omega
      · have e : sN3 (m i) (m j) (m k) = sN3 i j k := by
          unfold sN3
          simp only [li.2.2, lj.2.2, lk.2.2]
        rw [e]; exact hv
    · rintro (q | ⟨x, x1, x2, x3, y, y1, y2, y3, z, z1, z2, z3⟩)
      · omega
      · rw [sM1_le hv1] at z3
        obtain ⟨⟨z3, z4⟩, z5⟩ := z3
        obtain ⟨i, j, k, ⟨r1, r2, r3⟩, ⟨n1, n2, n3⟩, ⟨s1, s2, s3⟩, b1, b2, b3⟩ := ht.rooms ((sIs_iff ⟨x1, x2⟩).mp x3) ((sIs_iff ⟨y1, y2⟩).mp y3) ((sIs_iff ⟨z1, z2⟩).mp z3)
        have tot : oRg i ∧ oRg j ∧ oRg k ∧ ∀ q, 0 ≤ q → q < 3 → sWants i j k a b c q ≤ f q := by
          refine ⟨r1, r2, r3, fun q p1 p2 => ?_⟩
          by_cases c1 : i = q
          · have hx : x ≠ -1 := by omega
            have e1 := s1 hx
            have e2 := s2 hx
            have h1 := z4 x (by omega) x2
            have h2 := b1 hx
            subst c1
            unfold sWants at h1 ⊢
            simp only [e1, e2] at h1
            simp only [if_true] at h1 ⊢
            omega
          by_cases c2 : j = q
          · have hy : y ≠ -1 := by omega
            have e2 := s3 hy
            have h1 := z4 y (by omega) y2
            have h2 := b2 hy
            subst c2
            have e1 : ¬ x = y := fun e => by
              have hx : x ≠ -1 := by omega
              have := s1 hx
              omega
            unfold sWants at h1 ⊢
            rw [if_neg e1] at h1
            rw [if_neg c1]
            simp only [e2] at h1
            simp only [if_true] at h1 ⊢
            omega
          by_cases c3 : k = q
          · have hz : z ≠ -1 := by omega
            have h1 := z4 z (by omega) z2
            have h2 := b3 hz
            subst c3
            have e1 : ¬ x = z := fun e => by
              have hx : x ≠ -1 := by omega
              have := s2 hx
              omega
            have e2 : ¬ y = z := fun e => by
              have hy : y ≠ -1 := by omega
              have := s3 hy
              omega
            unfold sWants at h1 ⊢
            rw [if_neg e1, if_neg e2] at h1
            rw [if_neg c1, if_neg c2]
            simp only [if_true] at h1 ⊢
            omega
          · unfold sWants
            rw [if_neg c1, if_neg c2, if_neg c3]
            have := hf q p1 p2
            omega
        obtain ⟨o1, o2, o3⟩ := (oSeq (by omega) (by omega) (by omega) hf).mpr tot
        refine ⟨i, j, k, o1, o2, o3, ?_⟩
        have e : sN3 x y z = sN3 i j k := by
          unfold sN3
          simp only [n1, n2, n3]
        rw [← e]; exact z5
  have r1 := sMP_range (w := w) 3 f
  have r2 : 0 ≤ sMost W g r a b c ∧ sMost W g r a b c ≤ 3 := sMx_rng _ _ _ (by omega)
  have k1 := key 1 (by omega) (by omega)
  have k2 := key 2 (by omega) (by omega)
  have k3 := key 3 (by omega) (by omega)
  have r3 : sMP w 3 f ≤ 3 := r1.2
  omega
