/-! ===== what each call makes of a factory that is in order ===== -/
theorem rg_fire (W : Int → Int) (a b c d : Int) : 0 ≤ sFireT W a b c d ∧ sFireT W a b c d ≤ 3 := ⟨(sFireT_range W a b c d).1, (sFireT_range W a b c d).2.1⟩
theorem rg_grade (W : Int → Int) (a : Int) : 0 ≤ sGradeT W a ∧ sGradeT W a ≤ 2 := ⟨(cGradeT_range W a).1, (cGradeT_range W a).2.1⟩
theorem rg_deliver (W : Int → Int) (a b c : Int) : 0 ≤ sDeliverT W a b c ∧ sDeliverT W a b c ≤ 3 := ⟨(sDeliverT_range W a b c).1, (sDeliverT_range W a b c).2.1⟩
theorem rg_drop (W : Int → Int) (a b c d : Int) : 0 ≤ sDropT W a b c d ∧ sDropT W a b c d ≤ 3 := ⟨(sDropT_range W a b c d).1, (sDropT_range W a b c d).2.1⟩
theorem rg_takeBack (W : Int → Int) (a b c : Int) : 0 ≤ sTakeT W a b c ∧ sTakeT W a b c ≤ 3 := ⟨(cTakeT_range W a b c).1, (cTakeT_range W a b c).2.1⟩
theorem rg_replace (W : Int → Int) (a : Int) : 0 ≤ sReplT W a ∧ sReplT W a ≤ 2 := ⟨(cReplT_range W a).1, (cReplT_range W a).2.1⟩
set_option maxHeartbeats 4000000 in
set_option maxRecDepth 100000 in
theorem o_setGlaze {W SV T : Int → Int} {n len : Int} (hok : lOk W n SV T len) (hj : jOk W n SV) (hN : iN W) (hn : 0 ≤ n ∧ n ≤ 6) (g a b : Int) (hg : (-2147483648 ≤ g ∧ g ≤ 2147483647)) (ha : (-2147483648 ≤ a ∧ a ≤ 2147483647)) (hb : (-2147483648 ≤ b ∧ b ≤ 2147483647)) : ∃ (r' : Int) (W' : Int → Int) (n' : Int) (SV' : Int → Int), (lOk W' n' SV' T len ∧ jOk W' n' SV') ∧ ∀ (Y : gEnv) (K N : Nat → Nat) (I : Nat → Nat → Int) (A : Nat → Int → Int) (R : Nat → Nat → Option Nat) (Q : Nat → Int → Option Nat) (G : Nat → Nat × Int) (M : Nat → Prop) (x s h hq sc sg ar : Nat), cI K N I A R Q G M x s h hq sc sg ar W n SV T len → gCH Y yL_setGlaze cL_setGlaze 5 (some .int) [(0, 7, 8, 15), (0, 7, 13, 18)] ({ frames := 8, cells := 319, slots := 1969, locals := 209 } : Room) [.ref x, vi g, vi a, vi b] K N I A R Q (lqP K N I A R Q M x s h hq sc sg ar (vi r') W' n' SV' T len) := by
  refine ⟨lqI (if ¬ (0 ≤ g ∧ g ≤ 3) then 1 else if ¬ ((0 ≤ a ∧ a ≤ 19) ∧ (0 ≤ b ∧ b ≤ 20)) then 2 else 0) (W g) [-2000001, -2000002, -2000003], if (if ¬ (0 ≤ g ∧ g ≤ 3) then 1 else if ¬ ((0 ≤ a ∧ a ≤ 19) ∧ (0 ≤ b ∧ b ≤ 20)) then 2 else 0) = (0 : Int) then (sU (sU W g a) (4 + g) b) else W, if (if ¬ (0 ≤ g ∧ g ≤ 3) then 1 else if ¬ ((0 ≤ a ∧ a ≤ 19) ∧ (0 ≤ b ∧ b ≤ 20)) then 2 else 0) = (0 : Int) then (sCnt n) else n, if (if ¬ (0 ≤ g ∧ g ≤ 3) then 1 else if ¬ ((0 ≤ a ∧ a ≤ 19) ∧ (0 ≤ b ∧ b ≤ 20)) then 2 else 0) = (0 : Int) then (sSvd SV W n) else SV, ?_, fun Y K N I A R Q G M x s h hq sc sg ar hI => ?_⟩
  · by_cases hc : (if ¬ (0 ≤ g ∧ g ≤ 3) then 1 else if ¬ ((0 ≤ a ∧ a ≤ 19) ∧ (0 ≤ b ∧ b ≤ 20)) then 2 else 0) = (0 : Int)
    · rw [if_pos hc, if_pos hc, if_pos hc]
      have hk := lk_setGlaze hN hok.1 hok.2.1 hc
      exact ⟨hok.op hN hn hk.2.1 hk.2.2, hj.op hn (jk_low hj.1 (fun j u => by
        have ⟨p, q1, q2⟩ := cd2 hc
        exact (sU_ne _ _ (by omega)).trans (sU_ne _ _ (by omega))))⟩
    · rw [if_neg hc, if_neg hc, if_neg hc]
      exact ⟨hok, hj⟩
  · have hh := k_L_setGlaze Y hI g a b (cd2r _ _) (k_A_setGlaze Y hI g hg a ha b hb (fun hc => (lk_setGlaze hN hok.1 hok.2.1 hc).1))
    rw [ite_self, ite_self] at hh
    exact hh
set_option maxHeartbeats 4000000 in
set_option maxRecDepth 100000 in
theorem o_setQuality {W SV T : Int → Int} {n len : Int} (hok : lOk W n SV T len) (hj : jOk W n SV) (hN : iN W) (hn : 0 ≤ n ∧ n ≤ 6) (g a b : Int) (hg : (-2147483648 ≤ g ∧ g ≤ 2147483647)) (ha : (-2147483648 ≤ a ∧ a ≤ 2147483647)) (hb : (-2147483648 ≤ b ∧ b ≤ 2147483647)) : ∃ (r' : Int) (W' : Int → Int) (n' : Int) (SV' : Int → Int), (lOk W' n' SV' T len ∧ jOk W' n' SV') ∧ ∀ (Y : gEnv) (K N : Nat → Nat) (I : Nat → Nat → Int) (A : Nat → Int → Int) (R : Nat → Nat → Option Nat) (Q : Nat → Int → Option Nat) (G : Nat → Nat × Int) (M : Nat → Prop) (x s h hq sc sg ar : Nat), cI K N I A R Q G M x s h hq sc sg ar W n SV T len → gCH Y yL_setQuality cL_setQuality 5 (some .int) [(0, 7, 8, 15), (0, 7, 13, 18)] ({ frames := 8, cells := 319, slots := 1969, locals := 209 } : Room) [.ref x, vi g, vi a, vi b] K N I A R Q (lqP K N I A R Q M x s h hq sc sg ar (vi r') W' n' SV' T len) := by
  refine ⟨lqI (if ¬ (0 ≤ g ∧ g ≤ 3) then 1 else if ¬ ((0 ≤ a ∧ a ≤ 100) ∧ (0 ≤ b ∧ b ≤ 9999)) then 2 else 0) (W (8 + g)) [-2000001, -2000002, -2000003], if (if ¬ (0 ≤ g ∧ g ≤ 3) then 1 else if ¬ ((0 ≤ a ∧ a ≤ 100) ∧ (0 ≤ b ∧ b ≤ 9999)) then 2 else 0) = (0 : Int) then (sU (sU W (8 + g) a) (12 + g) b) else W, if (if ¬ (0 ≤ g ∧ g ≤ 3) then 1 else if ¬ ((0 ≤ a ∧ a ≤ 100) ∧ (0 ≤ b ∧ b ≤ 9999)) then 2 else 0) = (0 : Int) then (sCnt n) else n, if (if ¬ (0 ≤ g ∧ g ≤ 3) then 1 else if ¬ ((0 ≤ a ∧ a ≤ 100) ∧ (0 ≤ b ∧ b ≤ 9999)) then 2 else 0) = (0 : Int) then (sSvd SV W n) else SV, ?_, fun Y K N I A R Q G M x s h hq sc sg ar hI => ?_⟩
  · by_cases hc : (if ¬ (0 ≤ g ∧ g ≤ 3) then 1 else if ¬ ((0 ≤ a ∧ a ≤ 100) ∧ (0 ≤ b ∧ b ≤ 9999)) then 2 else 0) = (0 : Int)
    · rw [if_pos hc, if_pos hc, if_pos hc]
      have hk := lk_setQuality hN hok.1 hok.2.1 hc
      exact ⟨hok.op hN hn hk.2.1 hk.2.2, hj.op hn (jk_low hj.1 (fun j u => by
        have ⟨p, q1, q2⟩ := cd2 hc
        exact (sU_ne _ _ (by omega)).trans (sU_ne _ _ (by omega))))⟩
    · rw [if_neg hc, if_neg hc, if_neg hc]
      exact ⟨hok, hj⟩
  · have hh := k_L_setQuality Y hI g a b (cd2r _ _) (k_A_setQuality Y hI g hg a ha b hb (fun hc => (lk_setQuality hN hok.1 hok.2.1 hc).1))
    rw [ite_self, ite_self] at hh
    exact hh
set_option maxHeartbeats 4000000 in
set_option maxRecDepth 100000 in
theorem o_setPosition {W SV T : Int → Int} {n len : Int} (hok : lOk W n SV T len) (hj : jOk W n SV) (hN : iN W) (hn : 0 ≤ n ∧ n ≤ 6) (k p a b : Int) (hk : (-2147483648 ≤ k ∧ k ≤ 2147483647)) (hp : (-2147483648 ≤ p ∧ p ≤ 2147483647)) (ha : (-2147483648 ≤ a ∧ a ≤ 2147483647)) (hb : (-2147483648 ≤ b ∧ b ≤ 2147483647)) : ∃ (r' : Int) (W' : Int → Int) (n' : Int) (SV' : Int → Int), (lOk W' n' SV' T len ∧ jOk W' n' SV') ∧ ∀ (Y : gEnv) (K N : Nat → Nat) (I : Nat → Nat → Int) (A : Nat → Int → Int) (R : Nat → Nat → Option Nat) (Q : Nat → Int → Option Nat) (G : Nat → Nat × Int) (M : Nat → Prop) (x s h hq sc sg ar : Nat), cI K N I A R Q G M x s h hq sc sg ar W n SV T len → gCH Y yL_setPosition cL_setPosition 6 (some .int) [(0, 9, 10, 15), (0, 9, 15, 18)] ({ frames := 8, cells := 319, slots := 1969, locals := 210 } : Room) [.ref x, vi k, vi p, vi a, vi b] K N I A R Q (lqP K N I A R Q M x s h hq sc sg ar (vi r') W' n' SV' T len) := by
  refine ⟨lqI (if ¬ ((0 ≤ k ∧ k ≤ 2) ∧ (0 ≤ p ∧ p ≤ 7)) then 1 else if ¬ ((-40 ≤ a ∧ a ≤ 40) ∧ (0 ≤ b ∧ b ≤ 100)) then 2 else 0) (W (16 + (8 * k + p))) [-2000001, -2000002, -2000003], if (if ¬ ((0 ≤ k ∧ k ≤ 2) ∧ (0 ≤ p ∧ p ≤ 7)) then 1 else if ¬ ((-40 ≤ a ∧ a ≤ 40) ∧ (0 ≤ b ∧ b ≤ 100)) then 2 else 0) = (0 : Int) then (sU (sU W (16 + (8 * k + p)) a) (40 + (8 * k + p)) b) else W, if (if ¬ ((0 ≤ k ∧ k ≤ 2) ∧ (0 ≤ p ∧ p ≤ 7)) then 1 else if ¬ ((-40 ≤ a ∧ a ≤ 40) ∧ (0 ≤ b ∧ b ≤ 100)) then 2 else 0) = (0 : Int) then (sCnt n) else n, if (if ¬ ((0 ≤ k ∧ k ≤ 2) ∧ (0 ≤ p ∧ p ≤ 7)) then 1 else if ¬ ((-40 ≤ a ∧ a ≤ 40) ∧ (0 ≤ b ∧ b ≤ 100)) then 2 else 0) = (0 : Int) then (sSvd SV W n) else SV, ?_, fun Y K N I A R Q G M x s h hq sc sg ar hI => ?_⟩
  · by_cases hc : (if ¬ ((0 ≤ k ∧ k ≤ 2) ∧ (0 ≤ p ∧ p ≤ 7)) then 1 else if ¬ ((-40 ≤ a ∧ a ≤ 40) ∧ (0 ≤ b ∧ b ≤ 100)) then 2 else 0) = (0 : Int)
    · rw [if_pos hc, if_pos hc, if_pos hc]
      have hk := lk_setPosition hN hok.1 hok.2.1 hc
      exact ⟨hok.op hN hn hk.2.1 hk.2.2, hj.op hn (jk_low hj.1 (fun j u => by
        have ⟨⟨p1, p2⟩, q1, q2⟩ := cd2 hc
        exact (sU_ne _ _ (by omega)).trans (sU_ne _ _ (by omega))))⟩
    · rw [if_neg hc, if_neg hc, if_neg hc]
      exact ⟨hok, hj⟩
  · have hh := k_L_setPosition Y hI k p a b (cd2r _ _) (k_A_setPosition Y hI k hk p hp a ha b hb (fun hc => (lk_setPosition hN hok.1 hok.2.1 hc).1))
    rw [ite_self, ite_self] at hh
    exact hh
set_option maxHeartbeats 4000000 in
set_option maxRecDepth 100000 in
theorem o_setSharpness {W SV T : Int → Int} {n len : Int} (hok : lOk W n SV T len) (hj : jOk W n SV) (hN : iN W) (hn : 0 ≤ n ∧ n ≤ 6) (a : Int) (ha : (-2147483648 ≤ a ∧ a ≤ 2147483647)) : ∃ (r' : Int) (W' : Int → Int) (n' : Int) (SV' : Int → Int), (lOk W' n' SV' T len ∧ jOk W' n' SV') ∧ ∀ (Y : gEnv) (K N : Nat → Nat) (I : Nat → Nat → Int) (A : Nat → Int → Int) (R : Nat → Nat → Option Nat) (Q : Nat → Int → Option Nat) (G : Nat → Nat × Int) (M : Nat → Prop) (x s h hq sc sg ar : Nat), cI K N I A R Q G M x s h hq sc sg ar W n SV T len → gCH Y yL_setSharpness cL_setSharpness 3 (some .int) [(0, 5, 6, 18)] ({ frames := 8, cells := 318, slots := 1963, locals := 206 } : Room) [.ref x, vi a] K N I A R Q (lqP K N I A R Q M x s h hq sc sg ar (vi r') W' n' SV' T len) := by
  refine ⟨lqI (if ¬ (0 ≤ a ∧ a ≤ 100) then 1 else 0) (W 88) [-2000002, -2000003], if (if ¬ (0 ≤ a ∧ a ≤ 100) then 1 else 0) = (0 : Int) then (sU W 88 a) else W, if (if ¬ (0 ≤ a ∧ a ≤ 100) then 1 else 0) = (0 : Int) then (sCnt n) else n, if (if ¬ (0 ≤ a ∧ a ≤ 100) then 1 else 0) = (0 : Int) then (sSvd SV W n) else SV, ?_, fun Y K N I A R Q G M x s h hq sc sg ar hI => ?_⟩
  · by_cases hc : (if ¬ (0 ≤ a ∧ a ≤ 100) then 1 else 0) = (0 : Int)
    · rw [if_pos hc, if_pos hc, if_pos hc]
      have hk := lk_setSharpness hN hok.1 hok.2.1 hc
      exact ⟨hok.op hN hn hk.2.1 hk.2.2, hj.op hn (jk_low hj.1 (fun j u => by
        have p := cd1 hc
        exact sU_ne _ _ (by omega)))⟩
    · rw [if_neg hc, if_neg hc, if_neg hc]
      exact ⟨hok, hj⟩
  · have hh := k_L_setSharpness Y hI a (cd1r _) (k_A_setSharpness Y hI a ha (fun hc => (lk_setSharpness hN hok.1 hok.2.1 hc).1))
    rw [ite_self, ite_self] at hh
    exact hh
set_option maxHeartbeats 4000000 in
set_option maxRecDepth 100000 in
theorem o_setBoxSize {W SV T : Int → Int} {n len : Int} (hok : lOk W n SV T len) (hj : jOk W n SV) (hN : iN W) (hn : 0 ≤ n ∧ n ≤ 6) (a : Int) (ha : (-2147483648 ≤ a ∧ a ≤ 2147483647)) : ∃ (r' : Int) (W' : Int → Int) (n' : Int) (SV' : Int → Int), (lOk W' n' SV' T len ∧ jOk W' n' SV') ∧ ∀ (Y : gEnv) (K N : Nat → Nat) (I : Nat → Nat → Int) (A : Nat → Int → Int) (R : Nat → Nat → Option Nat) (Q : Nat → Int → Option Nat) (G : Nat → Nat × Int) (M : Nat → Prop) (x s h hq sc sg ar : Nat), cI K N I A R Q G M x s h hq sc sg ar W n SV T len → gCH Y yL_setBoxSize cL_setBoxSize 3 (some .int) [(0, 5, 6, 18), (0, 5, 10, 35)] ({ frames := 8, cells := 319, slots := 1969, locals := 206 } : Room) [.ref x, vi a] K N I A R Q (lqP K N I A R Q M x s h hq sc sg ar (vi r') W' n' SV' T len) := by
  refine ⟨lqI (if ¬ (1 ≤ a ∧ a ≤ 50) then 1 else if 0 < sSum (fun l => W (1050 + l)) (W 1614).toNat 0 ∨ 0 < sumO W then 2 else 0) (W 89) [-2000002, -2000003], if (if ¬ (1 ≤ a ∧ a ≤ 50) then 1 else if 0 < sSum (fun l => W (1050 + l)) (W 1614).toNat 0 ∨ 0 < sumO W then 2 else 0) = (0 : Int) then (sU W 89 a) else W, if (if ¬ (1 ≤ a ∧ a ≤ 50) then 1 else if 0 < sSum (fun l => W (1050 + l)) (W 1614).toNat 0 ∨ 0 < sumO W then 2 else 0) = (0 : Int) then (sCnt n) else n, if (if ¬ (1 ≤ a ∧ a ≤ 50) then 1 else if 0 < sSum (fun l => W (1050 + l)) (W 1614).toNat 0 ∨ 0 < sumO W then 2 else 0) = (0 : Int) then (sSvd SV W n) else SV, ?_, fun Y K N I A R Q G M x s h hq sc sg ar hI => ?_⟩
  · by_cases hc : (if ¬ (1 ≤ a ∧ a ≤ 50) then 1 else if 0 < sSum (fun l => W (1050 + l)) (W 1614).toNat 0 ∨ 0 < sumO W then 2 else 0) = (0 : Int)
    · rw [if_pos hc, if_pos hc, if_pos hc]
      have hk := lk_setBoxSize hN hok.1 hok.2.1 hc
      exact ⟨hok.op hN hn hk.2.1 hk.2.2, hj.op hn (jk_low hj.1 (fun j u => sU_ne _ _ (by omega)))⟩
    · rw [if_neg hc, if_neg hc, if_neg hc]
      exact ⟨hok, hj⟩
  · have hh := k_L_setBoxSize Y hI a (cd2p _ _) (k_A_setBoxSize Y hI a ha (fun hc => (lk_setBoxSize hN hok.1 hok.2.1 hc).1))
    rw [ite_self, ite_self] at hh
    exact hh
set_option maxHeartbeats 4000000 in
set_option maxRecDepth 100000 in
theorem o_fire {W SV T : Int → Int} {n len : Int} (hok : lOk W n SV T len) (hj : jOk W n SV) (hN : iN W) (hn : 0 ≤ n ∧ n ≤ 6) (a b c d : Int) (ha : (-2147483648 ≤ a ∧ a ≤ 2147483647)) (hb : (-2147483648 ≤ b ∧ b ≤ 2147483647)) (hc : (-2147483648 ≤ c ∧ c ≤ 2147483647)) (hd : (-2147483648 ≤ d ∧ d ≤ 2147483647)) : ∃ (r' : Int) (W' : Int → Int) (n' : Int) (SV' : Int → Int), (lOk W' n' SV' T len ∧ jOk W' n' SV') ∧ ∀ (Y : gEnv) (K N : Nat → Nat) (I : Nat → Nat → Int) (A : Nat → Int → Int) (R : Nat → Nat → Option Nat) (Q : Nat → Int → Option Nat) (G : Nat → Nat × Int) (M : Nat → Prop) (x s h hq sc sg ar : Nat), cI K N I A R Q G M x s h hq sc sg ar W n SV T len → gCH Y yL_fire cL_fire 6 (some .int) [(0, 9, 10, 15), (0, 9, 15, 18), (0, 9, 20, 35)] ({ frames := 9, cells := 320, slots := 1975, locals := 208 } : Room) [.ref x, vi a, vi b, vi c, vi d] K N I A R Q (lqP K N I A R Q M x s h hq sc sg ar (vi r') W' n' SV' T len) := by
  refine ⟨lqI (sFireT W a b c d) (sFireV W a d 8 0) [-2000001, -2000002, -2000003], if (sFireT W a b c d) = (0 : Int) then (sFire W a b c d) else W, if (sFireT W a b c d) = (0 : Int) then (sCnt n) else n, if (sFireT W a b c d) = (0 : Int) then (sSvd SV W n) else SV, ?_, fun Y K N I A R Q G M x s h hq sc sg ar hI => ?_⟩
  · by_cases hc : (sFireT W a b c d) = (0 : Int)
    · rw [if_pos hc, if_pos hc, if_pos hc]
      have hk := lk_fire hN hok.1 hok.2.1 hc
      exact ⟨hok.op hN hn hk.2.1 hk.2.2, hj.op hn (jk_fire hj.1 hN hc)⟩
    · rw [if_neg hc, if_neg hc, if_neg hc]
      exact ⟨hok, hj⟩
  · have hh := k_L_fire Y hI a b c d (rg_fire _ _ _ _ _) (k_A_fire Y hI a ha b hb c hc d hd (fun hc => (lk_fire hN hok.1 hok.2.1 hc).1))
    rw [ite_self, ite_self] at hh
    exact hh
set_option maxHeartbeats 4000000 in
set_option maxRecDepth 100000 in
theorem o_grade {W SV T : Int → Int} {n len : Int} (hok : lOk W n SV T len) (hj : jOk W n SV) (hN : iN W) (hn : 0 ≤ n ∧ n ≤ 6) (a : Int) (ha : (-2147483648 ≤ a ∧ a ≤ 2147483647)) : ∃ (r' : Int) (W' : Int → Int) (n' : Int) (SV' : Int → Int), (lOk W' n' SV' T len ∧ jOk W' n' SV') ∧ ∀ (Y : gEnv) (K N : Nat → Nat) (I : Nat → Nat → Int) (A : Nat → Int → Int) (R : Nat → Nat → Option Nat) (Q : Nat → Int → Option Nat) (G : Nat → Nat × Int) (M : Nat → Prop) (x s h hq sc sg ar : Nat), cI K N I A R Q G M x s h hq sc sg ar W n SV T len → gCH Y yL_grade cL_grade 3 (some .int) [(0, 5, 6, 18), (0, 5, 10, 35)] ({ frames := 9, cells := 320, slots := 1975, locals := 205 } : Room) [.ref x, vi a] K N I A R Q (lqP K N I A R Q M x s h hq sc sg ar (vi r') W' n' SV' T len) := by
  refine ⟨lqI (sGradeT W a) (sGrV W a (W 1613).toNat 0) [-2000002, -2000003], if (sGradeT W a) = (0 : Int) then (sGrade W a) else W, if (sGradeT W a) = (0 : Int) then (sCnt n) else n, if (sGradeT W a) = (0 : Int) then (sSvd SV W n) else SV, ?_, fun Y K N I A R Q G M x s h hq sc sg ar hI => ?_⟩
  · by_cases hc : (sGradeT W a) = (0 : Int)
    · rw [if_pos hc, if_pos hc, if_pos hc]
      have hk := lk_grade (a := a) hN hok.1 hok.2.1
      exact ⟨hok.op hN hn hk.2.1 hk.2.2, hj.op hn (hj.1.grade hN hok.1)⟩
    · rw [if_neg hc, if_neg hc, if_neg hc]
      exact ⟨hok, hj⟩
  · have hh := k_L_grade Y hI a (rg_grade _ _) (k_A_grade Y hI a ha hok.1 (fun hc => (lk_grade (a := a) hN hok.1 hok.2.1).1))
    rw [ite_self, ite_self] at hh
    exact hh
set_option maxHeartbeats 4000000 in
set_option maxRecDepth 100000 in
theorem o_deliver {W SV T : Int → Int} {n len : Int} (hok : lOk W n SV T len) (hj : jOk W n SV) (hN : iN W) (hn : 0 ≤ n ∧ n ≤ 6) (a b c : Int) (ha : (-2147483648 ≤ a ∧ a ≤ 2147483647)) (hb : (-2147483648 ≤ b ∧ b ≤ 2147483647)) (hc : (-2147483648 ≤ c ∧ c ≤ 2147483647)) : ∃ (r' : Int) (W' : Int → Int) (n' : Int) (SV' : Int → Int), (lOk W' n' SV' T len ∧ jOk W' n' SV') ∧ ∀ (Y : gEnv) (K N : Nat → Nat) (I : Nat → Nat → Int) (A : Nat → Int → Int) (R : Nat → Nat → Option Nat) (Q : Nat → Int → Option Nat) (G : Nat → Nat × Int) (M : Nat → Prop) (x s h hq sc sg ar : Nat), cI K N I A R Q G M x s h hq sc sg ar W n SV T len → gCH Y yL_deliver cL_deliver 5 (some .int) [(0, 7, 8, 15), (0, 7, 13, 18), (0, 7, 18, 35)] ({ frames := 9, cells := 320, slots := 1975, locals := 207 } : Room) [.ref x, vi a, vi b, vi c] K N I A R Q (lqP K N I A R Q M x s h hq sc sg ar (vi r') W' n' SV' T len) := by
  refine ⟨lqI (sDeliverT W a b c) (W 1615) [-2000001, -2000002, -2000003], if (sDeliverT W a b c) = (0 : Int) then (sDel W a b c) else W, if (sDeliverT W a b c) = (0 : Int) then (sCnt n) else n, if (sDeliverT W a b c) = (0 : Int) then (sSvd SV W n) else SV, ?_, fun Y K N I A R Q G M x s h hq sc sg ar hI => ?_⟩
  · by_cases hc : (sDeliverT W a b c) = (0 : Int)
    · rw [if_pos hc, if_pos hc, if_pos hc]
      have hk := lk_deliver hN hok.1 hok.2.1 hc
      exact ⟨hok.op hN hn hk.2.1 hk.2.2, hj.op hn (jk_deliver hj.1 hN hc)⟩
    · rw [if_neg hc, if_neg hc, if_neg hc]
      exact ⟨hok, hj⟩
  · have hh := k_L_deliver Y hI a b c (rg_deliver _ _ _ _) (k_A_deliver Y hI a ha b hb c hc (fun hc => (lk_deliver hN hok.1 hok.2.1 hc).1))
    rw [ite_self, ite_self] at hh
    exact hh
set_option maxHeartbeats 4000000 in
set_option maxRecDepth 100000 in
theorem o_drop {W SV T : Int → Int} {n len : Int} (hok : lOk W n SV T len) (hj : jOk W n SV) (hN : iN W) (hn : 0 ≤ n ∧ n ≤ 6) (a b c d : Int) (ha : (-2147483648 ≤ a ∧ a ≤ 2147483647)) (hb : (-2147483648 ≤ b ∧ b ≤ 2147483647)) (hc : (-2147483648 ≤ c ∧ c ≤ 2147483647)) (hd : (-2147483648 ≤ d ∧ d ≤ 2147483647)) : ∃ (r' : Int) (W' : Int → Int) (n' : Int) (SV' : Int → Int), (lOk W' n' SV' T len ∧ jOk W' n' SV') ∧ ∀ (Y : gEnv) (K N : Nat → Nat) (I : Nat → Nat → Int) (A : Nat → Int → Int) (R : Nat → Nat → Option Nat) (Q : Nat → Int → Option Nat) (G : Nat → Nat × Int) (M : Nat → Prop) (x s h hq sc sg ar : Nat), cI K N I A R Q G M x s h hq sc sg ar W n SV T len → gCH Y yL_drop cL_drop 6 (some .int) [(0, 9, 10, 15), (0, 9, 15, 18), (0, 9, 20, 35)] ({ frames := 9, cells := 320, slots := 1975, locals := 213 } : Room) [.ref x, vi a, vi b, vi c, vi d] K N I A R Q (lqP K N I A R Q M x s h hq sc sg ar (vi r') W' n' SV' T len) := by
  refine ⟨lqI (sDropT W a b c d) (W (1050 + sFind W a b c) - 1) [-2000001, -2000002, -2000003], if (sDropT W a b c d) = (0 : Int) then (sDrop W a b c d) else W, if (sDropT W a b c d) = (0 : Int) then (sCnt n) else n, if (sDropT W a b c d) = (0 : Int) then (sSvd SV W n) else SV, ?_, fun Y K N I A R Q G M x s h hq sc sg ar hI => ?_⟩
  · by_cases hc : (sDropT W a b c d) = (0 : Int)
    · rw [if_pos hc, if_pos hc, if_pos hc]
      have hk := lk_drop hN hok.1 hok.2.1 hc
      exact ⟨hok.op hN hn hk.2.1 hk.2.2, hj.op hn (jk_drop hj.1 hN hc)⟩
    · rw [if_neg hc, if_neg hc, if_neg hc]
      exact ⟨hok, hj⟩
  · have hh := k_L_drop Y hI a b c d (rg_drop _ _ _ _ _) (k_A_drop Y hI a ha b hb c hc d hd (fun hc => (lk_drop hN hok.1 hok.2.1 hc).1))
    rw [ite_self, ite_self] at hh
    exact hh
set_option maxHeartbeats 4000000 in
set_option maxRecDepth 100000 in
theorem o_takeBack {W SV T : Int → Int} {n len : Int} (hok : lOk W n SV T len) (hj : jOk W n SV) (hN : iN W) (hn : 0 ≤ n ∧ n ≤ 6) (a b c : Int) (ha : (-2147483648 ≤ a ∧ a ≤ 2147483647)) (hb : (-2147483648 ≤ b ∧ b ≤ 2147483647)) (hc : (-2147483648 ≤ c ∧ c ≤ 2147483647)) : ∃ (r' : Int) (W' : Int → Int) (n' : Int) (SV' : Int → Int), (lOk W' n' SV' T len ∧ jOk W' n' SV') ∧ ∀ (Y : gEnv) (K N : Nat → Nat) (I : Nat → Nat → Int) (A : Nat → Int → Int) (R : Nat → Nat → Option Nat) (Q : Nat → Int → Option Nat) (G : Nat → Nat × Int) (M : Nat → Prop) (x s h hq sc sg ar : Nat), cI K N I A R Q G M x s h hq sc sg ar W n SV T len → gCH Y yL_takeBack cL_takeBack 5 (some .int) [(0, 7, 8, 15), (0, 7, 13, 18), (0, 7, 18, 35)] ({ frames := 9, cells := 320, slots := 1975, locals := 210 } : Room) [.ref x, vi a, vi b, vi c] K N I A R Q (lqP K N I A R Q M x s h hq sc sg ar (vi r') W' n' SV' T len) := by
  refine ⟨lqI (sTakeT W a b c) (W (1450 + a) - b) [-2000001, -2000002, -2000003], if (sTakeT W a b c) = (0 : Int) then (sTake W a b c) else W, if (sTakeT W a b c) = (0 : Int) then (sCnt n) else n, if (sTakeT W a b c) = (0 : Int) then (sSvd SV W n) else SV, ?_, fun Y K N I A R Q G M x s h hq sc sg ar hI => ?_⟩
  · by_cases hc : (sTakeT W a b c) = (0 : Int)
    · rw [if_pos hc, if_pos hc, if_pos hc]
      have hk := lk_takeBack hN hok.1 hok.2.1 hc
      exact ⟨hok.op hN hn hk.2.1 hk.2.2, hj.op hn (jk_takeBack hj.1 hN hc)⟩
    · rw [if_neg hc, if_neg hc, if_neg hc]
      exact ⟨hok, hj⟩
  · have hh := k_L_takeBack Y hI a b c (rg_takeBack _ _ _ _) (k_A_takeBack Y hI a ha b hb c hc (fun hc => (lk_takeBack hN hok.1 hok.2.1 hc).1))
    rw [ite_self, ite_self] at hh
    exact hh
set_option maxHeartbeats 4000000 in
set_option maxRecDepth 100000 in
theorem o_replace {W SV T : Int → Int} {n len : Int} (hok : lOk W n SV T len) (hj : jOk W n SV) (hN : iN W) (hn : 0 ≤ n ∧ n ≤ 6) (a : Int) (ha : (-2147483648 ≤ a ∧ a ≤ 2147483647)) : ∃ (r' : Int) (W' : Int → Int) (n' : Int) (SV' : Int → Int), (lOk W' n' SV' T len ∧ jOk W' n' SV') ∧ ∀ (Y : gEnv) (K N : Nat → Nat) (I : Nat → Nat → Int) (A : Nat → Int → Int) (R : Nat → Nat → Option Nat) (Q : Nat → Int → Option Nat) (G : Nat → Nat × Int) (M : Nat → Prop) (x s h hq sc sg ar : Nat), cI K N I A R Q G M x s h hq sc sg ar W n SV T len → gCH Y yL_replace cL_replace 3 (some .int) [(0, 5, 6, 15), (0, 5, 10, 35)] ({ frames := 9, cells := 320, slots := 1975, locals := 208 } : Room) [.ref x, vi a] K N I A R Q (lqP K N I A R Q M x s h hq sc sg ar (vi r') W' n' SV' T len) := by
  refine ⟨lqI (sReplT W a) (W (1490 + a)) [-2000001, -2000003], if (sReplT W a) = (0 : Int) then (sRepl W a) else W, if (sReplT W a) = (0 : Int) then (sCnt n) else n, if (sReplT W a) = (0 : Int) then (sSvd SV W n) else SV, ?_, fun Y K N I A R Q G M x s h hq sc sg ar hI => ?_⟩
  · by_cases hc : (sReplT W a) = (0 : Int)
    · rw [if_pos hc, if_pos hc, if_pos hc]
      have hk := lk_replace hN hok.1 hok.2.1 hc
      exact ⟨hok.op hN hn hk.2.1 hk.2.2, hj.op hn (jk_replace hj.1 hN hc)⟩
    · rw [if_neg hc, if_neg hc, if_neg hc]
      exact ⟨hok, hj⟩
  · have hh := k_L_replace Y hI a (rg_replace _ _) (k_A_replace Y hI a ha (fun hc => (lk_replace hN hok.1 hok.2.1 hc).1))
    rw [ite_self, ite_self] at hh
    exact hh
set_option maxHeartbeats 4000000 in
set_option maxRecDepth 100000 in
theorem o_undo {W SV T : Int → Int} {n len : Int} (hok : lOk W n SV T len) (hj : jOk W n SV) (hN : iN W) (hn : 0 ≤ n ∧ n ≤ 6)  : ∃ (r' : Int) (W' : Int → Int) (n' : Int) (SV' : Int → Int), (lOk W' n' SV' T len ∧ jOk W' n' SV') ∧ ∀ (Y : gEnv) (K N : Nat → Nat) (I : Nat → Nat → Int) (A : Nat → Int → Int) (R : Nat → Nat → Option Nat) (Q : Nat → Int → Option Nat) (G : Nat → Nat × Int) (M : Nat → Prop) (x s h hq sc sg ar : Nat), cI K N I A R Q G M x s h hq sc sg ar W n SV T len → gCH Y yL_undo cL_undo 2 (some .int) [(0, 4, 5, 35)] ({ frames := 8, cells := 1, slots := 6, locals := 204 } : Room) [.ref x] K N I A R Q (lqP K N I A R Q M x s h hq sc sg ar (vi r') W' n' SV' T len) := by
  refine ⟨lqI (if n = 0 then 1 else 0) (n - 1) [-2000003], if (if n = 0 then 1 else 0) = (0 : Int) then (sBack SV W (n - 1) 1618) else W, if (if n = 0 then 1 else 0) = (0 : Int) then (n - 1) else n, if (if n = 0 then 1 else 0) = (0 : Int) then (SV) else SV, ?_, fun Y K N I A R Q G M x s h hq sc sg ar hI => ?_⟩
  · by_cases hc : (if n = 0 then 1 else 0) = (0 : Int)
    · rw [if_pos hc, if_pos hc, if_pos hc]
      have h0 : 0 < n := by
        by_cases z : n = 0
        · rw [if_pos z] at hc; cases hc
        · omega
      exact ⟨hok.undo h0, hj.undo h0⟩
    · rw [if_neg hc, if_neg hc, if_neg hc]
      exact ⟨hok, hj⟩
  · have hh := k_L_undo Y hI  (cd1p _) (k_A_undo Y hI )
    rw [ite_self, ite_self, ite_self] at hh
    rw [ite_self]
    exact hh
/-! ===== small methods of the law ===== -/
theorem i32_and7f (x : Int32) : 0 ≤ (x &&& (2147483647 : Int32)).toInt ∧ (x &&& (2147483647 : Int32)).toInt ≤ 2147483647 := by
  have h : (x &&& (2147483647 : Int32)).toBitVec.toNat ≤ 2147483647 := by
    rw [Int32.toBitVec_and, BitVec.toNat_and]
    exact Nat.and_le_right
  have e : (x &&& (2147483647 : Int32)).toInt = ((x &&& (2147483647 : Int32)).toBitVec.toNat : Int) := by
    rw [← Int32.toInt_toBitVec, BitVec.toInt_eq_toNat_of_lt (by omega)]
  omega
def sAnd (v : Int) : Int := (Int32.ofInt v &&& (2147483647 : Int32)).toInt
def sLow (v m : Int) : Int := (sAnd v).tmod m
theorem sLow_range (v : Int) {m : Int} (hm : 0 < m) : 0 ≤ sLow v m ∧ sLow v m < m := ⟨Int.tmod_nonneg m (i32_and7f _).1, Int.tmod_lt_of_pos _ hm⟩
section LW
variable {Y : gEnv} {X : gCtx} {y : MethodName} {cc : ByteArray} {nL : Nat} {ret : Option FieldType} {rm : Room} {po : gPo} {px : gPx} {k n pc : Nat} {L : List (Nat × Value)} {st : List Value} {K N : Nat → Nat} {I : Nat → Nat → Int} {A : Nat → Int → Int} {R : Nat → Nat → Option Nat} {Q : Nat → Int → Option Nat}
theorem g_and7f {a : Int} (hd : decode cc pc = .ok (.iand, 1)) (kk : gJ Y X y cc nL ret rm po px k n (pc + 1) L (vi (sAnd a) :: st) K N I A R Q) : gJ Y X y cc nL ret rm po px k n pc L (vi 2147483647 :: vi a :: st) K N I A R Q := by
  intro hx H locs ls hW hS hl
  refine lv_iand hx.1 hx.2.1 hd ?_
  rw [show vi (sAnd a) = Value.int (Int32.ofInt a &&& (2147483647 : Int32)) from congrArg Value.int (Int32.ofInt_toInt _)] at kk
  exact kk hx H locs ls hW hS hl
end LW
theorem u_L_low : gUS yL_low cL_low 2 (some .int) 2 := ⟨⟨mw_319, mw_318, mw_19⟩, by decide, by decide, by decide +kernel⟩
set_option maxHeartbeats 4000000 in
set_option maxRecDepth 100000 in
theorem k_low (Y : gEnv) {K N : Nat → Nat} {I : Nat → Nat → Int} {A : Nat → Int → Int} {R : Nat → Nat → Option Nat} {Q : Nat → Int → Option Nat} (v m : Int) (hm : 0 < m ∧ m ≤ 2147483647) : gC Y yL_low cL_low 2 (some .int) ({ frames := 0, cells := 0, slots := 0, locals := 0 } : Room) [vi v, vi m] K N I A R Q (g_pu (some (vi (sLow v m))) K N I A R Q) gno := by
  have hb := i32_and7f (Int32.ofInt v)
  have hb2 : 0 ≤ sAnd v ∧ sAnd v ≤ 2147483647 := hb
  refine gC_of (by decide) (Nat.le_of_ble_eq_true rfl) (fun X => ?_)
  refine g_iload_n dL_low_0 rfl rfl ?_
  refine g_ldc (c := 2147483647) dL_low_1 mw_320 (by decide) ?_
  refine g_and7f dL_low_3 ?_
  refine g_iload_n dL_low_4 rfl rfl ?_
  refine g_irem dL_low_5 (by omega) (by omega) (by omega) ?_
  exact g_iret dL_low_6 rfl (by decide) (by decide) ⟨rfl, rfl, rfl, rfl, rfl, rfl, rfl⟩
/-! ===== cell: it reads the script ===== -/
def gInS (Y : gEnv) (b Ln : Nat) (xs : Nat → Int32) (K N : Nat → Nat) (I : Nat → Nat → Int) (A : Nat → Int → Int) (R : Nat → Nat → Option Nat) (Q : Nat → Int → Option Nat) (U : State) : Prop := gIn Y K N I A R Q U ∧ va_X b Ln xs U U.heap ∧ b < U.heap.size
def gCS (Y : gEnv) (b Ln : Nat) (xs : Nat → Int32) (y : MethodName) (cc : ByteArray) (nL : Nat) (ret : Option FieldType) (rm : Room) (av : List Value) (K N : Nat → Nat) (I : Nat → Nat → Int) (A : Nat → Int → Int) (R : Nat → Nat → Option Nat) (Q : Nat → Int → Option Nat) (po : gPo) : Prop :=
  vx_Met Y.1 y (lw_ws y cc nL ret) rm (va_Pc av (gInS Y b Ln xs K N I A R Q)) (gQc Y po) (gXC Y gno) rm.cells rm.slots (fun q => Y.2.2.2 ≤ q)
theorem gCS_of {Y : gEnv} {b Ln : Nat} {xs : Nat → Int32} {y : MethodName} {cc : ByteArray} {nL : Nat} {ret : Option FieldType} {rm : Room} {av : List Value} {K N : Nat → Nat} {I : Nat → Nat → Int} {A : Nat → Int → Int} {R : Nat → Nat → Option Nat} {Q : Nat → Int → Option Nat} {po : gPo} (hy : plainName y.cls = true) (hn : (lg_sl av).length ≤ nL) (hbo : ¬ Y.2.2.2 ≤ b) (hLn : Ln ≤ 3072)
    (h : ∀ X : gCtx, lScr X Y b Ln xs → gJ Y X y cc nL ret rm po gno 0 0 0 (lv_args 0 av) [] K N I A R Q) : gCS Y b Ln xs y cc nL ret rm av K N I A R Q po := by
  refine vx_ofW (cc := cc) (maxL := nL) (ret := ret) hy rfl ?_
  intro p e s m args below meth c s₁ B hml hex hv
  obtain ⟨rfl, ⟨hK, hE, hSt, hsz, hW⟩, hX, hbl⟩ := hv
  have hts : ∀ w ∈ lw_good, w.before av.toArray s = true := fun w hw => atoms_spec (ws := lw_ws y cc nL ret) B.pre w (List.mem_cons_of_mem _ hw)
  have hown : s.vm.findClass y.cls = some m.cls := findClass_of_methodNamed B.named
  have hl := lv_entry av (n := nL) hn
  rw [lg_entry_eq]
  exact h (p, e, s, m, av.toArray, below, meth, c) ⟨hX, hbl, hbo, hLn⟩ ⟨B.exec, B.bytes, hml, hown, hts, hK, hE, hSt, hsz, B.returns, B.notSynchronized, fun _ => hex, (name_of_methodNamed B.named B.method).1⟩ s.heap [] _ hW va_S.rf hl
theorem gInS_blind {Y : gEnv} {b Ln : Nat} {xs : Nat → Int32} {K N : Nat → Nat} {I : Nat → Nat → Int} {A : Nat → Int → Int} {R : Nat → Nat → Option Nat} {Q : Nat → Int → Option Nat} (av : List Value) : FrameBlind (va_Pc av (gInS Y b Ln xs K N I A R Q)) := fun a U g mk h => ⟨h.1, (gIn_blind av a U g mk ⟨h.1, h.2.1⟩).2, va_X.moved (u := U) (U := U.calling g mk a) (Vm.Alike.refl U.vm) h.2.2.1, h.2.2.2⟩
theorem gCS_met {Y : gEnv} {b Ln : Nat} {xs : Nat → Int32} {y : MethodName} {cc : ByteArray} {nL : Nat} {ret : Option FieldType} {rm : Room} {av : List Value} {K N : Nat → Nat} {I : Nat → Nat → Int} {A : Nat → Int → Int} {R : Nat → Nat → Option Nat} {Q : Nat → Int → Option Nat} {po : gPo} (h : gCS Y b Ln xs y cc nL ret rm av K N I A R Q po) : Met Y.1 y (lw_ws y cc nL ret) rm (va_Pc av (gInS Y b Ln xs K N I A R Q)) (gQc Y po) rm.cells rm.slots (fun q => Y.2.2.2 ≤ q) := by
  intro p e ha hc hk s m args below hf happ hP hT
  obtain ⟨i, oc, h1, h2, h3, h4⟩ := h p e ha hc hk s m args below hf happ hP hT
  refine ⟨i, oc, h1, h2, h3, ?_⟩
  rcases h4 with h4 | ⟨q, -, E, ce, L, ⟨K', N', I', A', R', Q', hx, -⟩, -⟩
  · exact h4
  · exact hx.elim
section LC
variable {Y : gEnv} {X : gCtx} {y : MethodName} {cc : ByteArray} {nL : Nat} {ret : Option FieldType} {rm : Room} {po : gPo} {px : gPx} {k n pc : Nat} {L : List (Nat × Value)} {st : List Value} {K N : Nat → Nat} {I : Nat → Nat → Int} {A : Nat → Int → Int} {R : Nat → Nat → Option Nat} {Q : Nat → Int → Option Nat}
theorem g_callCS {b Ln : Nat} {xs : Nat → Int32} {yc : MethodName} {c' : ByteArray} {nL' a idx : Nat} {ret' : Option FieldType} {rm' : Room} {po' : gPo} {As : List Value} {st0 : List Value} (hsc : lScr X Y b Ln xs) (hC : gCS Y b Ln xs yc c' nL' ret' rm' As K N I A R Q po') (hu : gUS yc c' nL' ret' a) (hw : Cond.methodLink y.cls idx yc ∈ lw_good) (hown : yc.cls = y.cls) (hd : decode cc pc = .ok (.invokestatic idx, 3)) (hlen : As.length = a) (hst : st0 = As.reverse ++ st) (hroom : rm'.frames + 1 ≤ rm.frames ∧ 8 + (nL' + 11) + rm'.locals ≤ rm.locals) (hfit : k + rm'.cells ≤ rm.cells ∧ n + rm'.slots ≤ rm.slots) (hrest : (st.map fun v => v.category).sum ≤ 8)
    (kk : ∀ (v : Option Value) (K' N' : Nat → Nat) (I' : Nat → Nat → Int) (A' : Nat → Int → Int) (R' : Nat → Nat → Option Nat) (Q' : Nat → Int → Option Nat), po' v K' N' I' A' R' Q' → gJ Y X y cc nL ret rm po px (k + rm'.cells) (n + rm'.slots) (pc + 3) L (v.toList ++ st) K' N' I' A' R' Q') : gJ Y X y cc nL ret rm po px k n pc L st0 K N I A R Q := by
  intro hx H locs ls hW hS hl
  exact g_after hx hl hS (va_runS (As := As) ⟨hx.1, hx.2.1, hx.2.2.1, hx.2.2.2.1, hx.2.2.2.2.1⟩ (gCS_met hC) (cwS a hx.2.2.2.2.1 (lg_wsS hu.1.1 hw hu.1.2.1 (hown ▸ hu.1.2.2)) rfl rfl rfl ⟨hown, hu.2⟩ hroom) ⟨gInS_blind _, fun U hU hM => ⟨rfl, gIn_at hx hW hS hU hM, va_X.kept (va_X.moved hM.alike hsc.1) (by rw [hU]; exact hS.2.1 b hsc.2.1 hsc.2.2.1), by rw [hU]; exact Nat.lt_of_lt_of_le hsc.2.1 hS.1⟩⟩ rfl hlen hl.1 hst (lv_room hrest) hd hfit) kk
end LC
theorem u_L_cell : gUS yL_cell cL_cell 2 (some .int) 2 := ⟨⟨mw_312, mw_311, mw_19⟩, by decide, by decide, by decide +kernel⟩
set_option maxHeartbeats 4000000 in
set_option maxRecDepth 100000 in
theorem k_cell (Y : gEnv) {K N : Nat → Nat} {I : Nat → Nat → Int} {A : Nat → Int → Int} {R : Nat → Nat → Option Nat} {Q : Nat → Int → Option Nat} {b Ln : Nat} {xs : Nat → Int32} (hbo : ¬ Y.2.2.2 ≤ b) (hLn : Ln ≤ 3072) (i : Int) (hi : 0 ≤ i ∧ i ≤ 1000) : gCS Y b Ln xs yL_cell cL_cell 2 (some .int) ({ frames := 0, cells := 0, slots := 0, locals := 0 } : Room) [.ref b, vi i] K N I A R Q (fun v K' N' I' A' R' Q' => (∃ z : Int, (-2147483648 ≤ z ∧ z ≤ 2147483647) ∧ v = some (vi z)) ∧ cSame K N I A R Q K' N' I' A' R' Q') := by
  refine gCS_of (by decide) (Nat.le_of_ble_eq_true rfl) hbo hLn (fun X hsc => ?_)
  refine g_iload_n dL_cell_0 rfl rfl ?_
  refine g_aload_n dL_cell_1 rfl rfl ?_
  refine g_slen hsc dL_cell_2 ?_
  refine g_icmp_ge (tgt := 12) dL_cell_3 (by decide) (by omega) (by omega) (fun c_3 => ?_) (fun c_3 => ?_)
  · refine g_ldc (c := 1371777495) dL_cell_12 mw_313 (by decide) ?_
    refine g_iload_n dL_cell_14 rfl rfl ?_
    refine g_iconst dL_cell_15 ?_
    refine g_iadd dL_cell_16 ?_
    refine g_imul dL_cell_17 ?_
    exact g_iret dL_cell_18 rfl (by decide) (by decide) ⟨⟨_, sI_range _, congrArg some (vi_sI _).symm⟩, cSame.rfl⟩
  · refine g_aload_n dL_cell_6 rfl rfl ?_
    refine g_iload_n dL_cell_7 rfl rfl ?_
    refine g_sld hsc (by omega) dL_cell_8 ?_
    refine g_goto (tgt := 18) dL_cell_9 (by decide) ?_
    exact g_iret dL_cell_18 rfl (by decide) (by decide) ⟨⟨_, xsI_range _ _, rfl⟩, cSame.rfl⟩
