set_option maxHeartbeats 300000 in
set_option maxRecDepth 100000 in
theorem lp_M_read1 {Y : gEnv} {X : gCtx} {K N : Nat → Nat} {I : Nat → Nat → Int} {A : Nat → Int → Int} {R : Nat → Nat → Option Nat} {Q : Nat → Int → Option Nat} {po : gPo} {px : gPx} {x w sv tx ag : Nat} (hM : mS K N R x w sv tx ag) (hT : ∀ j, 0 ≤ j → j < 100 → 0 ≤ A tx j ∧ A tx j ≤ 126) (hn5 : 0 ≤ I 205 x ∧ I 205 x ≤ 100) (f0 ws e : Int) (h0 : 0 ≤ f0) (he : e ≤ I 205 x ∧ (e < I 205 x → A tx e = 59)) (kx : ∀ k : Int, f0 ≤ k → k ≤ e → (∀ j, f0 ≤ j → j < k → A tx j ≠ 32) → (k = e ∨ A tx k = 32) → gJ Y X yX13_read cX13_read 5 (some .int) ({ frames := 2, cells := 0, slots := 0, locals := 50 } : Room) po px 0 0 77 [(0, .ref x), (2, vi k), (3, vi ws), (4, vi f0)] [] K N I A R Q) : ∀ (f m : Nat) (k : Int), m < f → f0 ≤ k → k + m = e → (∀ j, k ≤ j → j < e → A tx j ≠ 59) → (∀ j, f0 ≤ j → j < k → A tx j ≠ 32) → gJ Y X yX13_read cX13_read 5 (some .int) ({ frames := 2, cells := 0, slots := 0, locals := 50 } : Room) po px 0 0 41 [(0, .ref x), (2, vi k), (3, vi ws), (4, vi f0)] [] K N I A R Q := by
  obtain ⟨hKx, hRw, hRs, hRt, hRa, hKw, hNw, hKs, hNs, hKt, hNt, hKa, hNa, hta⟩ := id hM
  intro f
  induction f with
  | zero => intro m k h; omega
  | succ f ih =>
  intro m k hf hk hm hs hb
  refine g_iload_n dX13_read_41 rfl rfl ?_
  refine g_aload_n dX13_read_42 rfl rfl ?_
  refine g_get_Model_length dX13_read_43 mw_1160 (by assumption) ?_
  refine g_icmp_ge (tgt := 77) dX13_read_46 (by decide) (by omega) (by omega) (fun c_46 => ?_) (fun c_46 => ?_)
  · exact g_locs (by exact ⟨rfl, rfl, rfl, rfl, trivial⟩) (kx k hk (by omega) hb (by first | (left; omega) | (right; assumption) | (left; by_cases q : k = e; exact q; exact absurd (by assumption) (hs k (by omega) (by omega)))))
  · refine g_aload_n dX13_read_49 rfl rfl ?_
    refine g_get_Model_text dX13_read_50 mw_1157 (by assumption) (by assumption) ?_
    refine g_iload_n dX13_read_53 rfl rfl ?_
    refine g_iaload dX13_read_54 (by assumption) (by omega) (by omega) ?_
    refine g_bipush dX13_read_55 (by decide) ?_
    refine g_icmp_eq (tgt := 77) dX13_read_57 (by decide) (by have := hT k (by omega) (by omega); omega) (by omega) (fun c_57 => ?_) (fun c_57 => ?_)
    · exact g_locs (by exact ⟨rfl, rfl, rfl, rfl, trivial⟩) (kx k hk (by omega) hb (by first | (left; omega) | (right; assumption) | (left; by_cases q : k = e; exact q; exact absurd (by assumption) (hs k (by omega) (by omega)))))
    · refine g_aload_n dX13_read_60 rfl rfl ?_
      refine g_get_Model_text dX13_read_61 mw_1157 (by assumption) (by assumption) ?_
      refine g_iload_n dX13_read_64 rfl rfl ?_
      refine g_iaload dX13_read_65 (by assumption) (by omega) (by omega) ?_
      refine g_bipush dX13_read_66 (by decide) ?_
      refine g_icmp_eq (tgt := 77) dX13_read_68 (by decide) (by have := hT k (by omega) (by omega); omega) (by omega) (fun c_68 => ?_) (fun c_68 => ?_)
      · exact g_locs (by exact ⟨rfl, rfl, rfl, rfl, trivial⟩) (kx k hk (by omega) hb (by first | (left; omega) | (right; assumption) | (left; by_cases q : k = e; exact q; exact absurd (by assumption) (hs k (by omega) (by omega)))))
      · refine g_iinc dX13_read_71 rfl (by decide) ?_
        refine g_goto (tgt := 41) dX13_read_74 (by decide) ?_
        have hke : k < e := by
          by_cases q : k = e
          · subst q; have := he.2 (by omega); omega
          · omega
        exact g_locs (by exact ⟨rfl, rfl, rfl, rfl, trivial⟩) (ih (m - 1) (k + 1) (by omega) (by omega) (by omega) (fun j a b => hs j (by omega) b) (fun j a b => by
          by_cases q : j = k
          · subst q; assumption
          · exact hb j a (by omega)))
theorem sWord_0 {T : Int → Int} {S : sSt} {f t : Int} (h : S.2.1 = 0) : sWord T S f t = (sVerb T f t, 1, S.2.2.1, S.2.2.2) := by simp only [sWord]; rw [if_pos h]
theorem sWord_n {T : Int → Int} {S : sSt} {f t : Int} (h : S.2.1 ≠ 0) : sWord T S f t = (S.1, S.2.1 + 1, (if sNum T f t = -1 then 0 else S.2.2.1), sU S.2.2.2 (S.2.1 - 1) (sNum T f t)) := by simp only [sWord]; rw [if_neg h]
theorem sWord_cnt {T : Int → Int} {S : sSt} {f t : Int} : (sWord T S f t).2.1 = S.2.1 + 1 := by
  by_cases h : S.2.1 = 0
  · rw [sWord_0 h, h]; rfl
  · rw [sWord_n h]
theorem mPr.word0 {I I1 : Nat → Nat → Int} {A : Nat → Int → Int} {x ag : Nat} {T : Int → Int} {S : sSt} {f t z : Int} (hP : mPr I A x ag S) (h0 : S.2.1 = 0) (hI : I1 = g_up I 207 x z) (hz : z = sVerb T f t) : mPr I1 A x ag (sWord T S f t) := by
  rw [sWord_0 h0]
  refine ⟨by rw [hI, g_up_eq]; exact hz, ?_, ?_, fun j a b => ?_, hP.2.2.2.2.1, by show (0 : Int) ≤ 1; omega⟩
  · rw [hI, g_up_ne1 _ _ (by omega), hP.2.1, if_pos h0]; show (0 : Int) = (if (1 : Int) = 0 then 0 else 1 - 1); rw [if_neg (by omega)]; omega
  · rw [hI, g_up_ne1 _ _ (by omega)]; exact hP.2.2.1
  · have b1 : j < 1 - 1 := b
    omega
theorem mPr.wordn {I I1 : Nat → Nat → Int} {A A1 : Nat → Int → Int} {x ag : Nat} {T : Int → Int} {S : sSt} {f t z : Int} (hP : mPr I A x ag S) (h0 : S.2.1 ≠ 0) (hI : I1 = g_up (g_up I 209 x (if I 209 x ≠ 0 ∧ sNum T f t ≠ -1 then 1 else 0)) 208 x (I 208 x + 1)) (hA : A1 = g_uq A ag (I 208 x) z) (hz : sNum T f t ≠ -1 → z = sNum T f t) : mPr I1 A1 x ag (sWord T S f t) := by
  rw [sWord_n h0]
  have hc : I 208 x = S.2.1 - 1 := by rw [hP.2.1, if_neg h0]
  have h5 := hP.2.2.2.2.1
  have h6 := hP.2.2.2.2.2
  refine ⟨?_, ?_, ?_, fun j a b hne => ?_, ?_, by show 0 ≤ S.2.1 + 1; omega⟩
  · rw [hI, g_up_ne1 _ _ (by omega), g_up_ne1 _ _ (by omega)]; exact hP.1
  · rw [hI, g_up_eq, hc]; show _ = (if S.2.1 + 1 = 0 then 0 else S.2.1 + 1 - 1); rw [if_neg (by omega)]; omega
  · rw [hI, g_up_ne1 _ _ (by omega), g_up_eq, hP.2.2.1]
    show _ = (if sNum T f t = -1 then 0 else S.2.2.1)
    by_cases e1 : sNum T f t = -1
    · rw [if_neg (fun hh => hh.2 e1), if_pos e1]
    · rw [if_neg e1]
      by_cases e2 : S.2.2.1 = 0
      · rw [if_neg (fun hh => hh.1 e2), e2]
      · rw [if_pos ⟨e2, e1⟩]; omega
  · have b1 : j < S.2.1 + 1 - 1 := b
    have hne1 : sU S.2.2.2 (S.2.1 - 1) (sNum T f t) j ≠ -1 := hne
    show A1 ag j = sU S.2.2.2 (S.2.1 - 1) (sNum T f t) j
    rw [hA, hc]
    by_cases e1 : j = S.2.1 - 1
    · subst e1
      rw [sU_eq] at hne1 ⊢
      simp only [g_uq, if_true]
      exact hz hne1
    · rw [sU_ne _ _ e1] at hne1 ⊢
      simp only [g_uq, if_true]
      rw [if_neg e1]
      exact hP.2.2.2.1 j a (by omega) hne1
  · show (if sNum T f t = -1 then 0 else S.2.2.1) = 0 ∨ (if sNum T f t = -1 then 0 else S.2.2.1) = 1
    split <;> omega
theorem mPf.wordn {I I1 : Nat → Nat → Int} {A A1 : Nat → Int → Int} {x ag : Nat} {a b c z : Int} (hI : I1 = g_up (g_up I 209 x a) 208 x b) (hA : A1 = g_uq A ag c z) : mPf I I1 A A1 x ag := ⟨fun f q hg => by
  rw [hI]
  by_cases e1 : f = 208
  · rw [g_up_ne2 _ _ (by omega), g_up_ne2 _ _ (by omega)]
  · rw [g_up_ne1 _ _ e1]
    by_cases e2 : f = 209
    · rw [g_up_ne2 _ _ (by omega)]
    · rw [g_up_ne1 _ _ e2], fun q hq => by rw [hA]; funext j; simp [g_uq, hq]⟩
theorem mPr.up {I I1 : Nat → Nat → Int} {A : Nat → Int → Int} {x ag : Nat} (h1 : I1 207 x = 0) (h2 : I1 208 x = 0) (h3 : I1 209 x = 1) : mPr I1 A x ag sS0 := ⟨h1, h2, h3, fun j a b => absurd b (by show ¬ j < 0 - 1; omega), Or.inr rfl, Int.le_refl _⟩
set_option maxHeartbeats 300000 in
set_option maxRecDepth 100000 in
theorem lp_M_read2 {Y : gEnv} {X : gCtx} {K N : Nat → Nat} {I : Nat → Nat → Int} {A : Nat → Int → Int} {R : Nat → Nat → Option Nat} {Q : Nat → Int → Option Nat} {po : gPo} {px : gPx} {I0 : Nat → Nat → Int} {A0 : Nat → Int → Int} {x w sv tx ag : Nat} (hM : mS K N R x w sv tx ag) (hT : ∀ j, 0 ≤ j → j < 100 → 0 ≤ A0 tx j ∧ A0 tx j ≤ 126) (hn5 : 0 ≤ I0 205 x ∧ I0 205 x ≤ 100) (e : Int) (F : sSt) (he0 : 0 ≤ e) (he : e ≤ I0 205 x ∧ (e < I0 205 x → A0 tx e = 59)) (hF : mPf I0 I A0 A x ag) (kf k1 c : Int) (S1 : sSt) (hk : 0 ≤ kf ∧ kf ≤ k1 ∧ k1 ≤ e) (hend : k1 = e ∨ A0 tx k1 = 32) (hc : S1.2.1 = c + (if kf < k1 then 1 else 0)) (hc0 : 0 ≤ c ∧ c ≤ 100)
    (kx : ∀ k2, ((k2 = k1 + 1 ∧ k1 < e ∧ A0 tx k1 = 32) ∨ (k2 = k1 ∧ k1 = e)) → gJ Y X yX13_read cX13_read 5 (some .int) ({ frames := 2, cells := 0, slots := 0, locals := 50 } : Room) po px 0 0 19 [(0, .ref x), (2, vi k2), (3, vi S1.2.1)] [] K N I A R Q) : gJ Y X yX13_read cX13_read 5 (some .int) ({ frames := 2, cells := 0, slots := 0, locals := 50 } : Room) po px 0 0 114 [(0, .ref x), (2, vi k1), (3, vi c), (4, vi kf)] [] K N I A R Q := by
  obtain ⟨hKx, hRw, hRs, hRt, hRa, hKw, hNw, hKs, hNs, hKt, hNt, hKa, hNa, hta⟩ := id hM
  have hta2 : A tx = A0 tx := hF.2 tx hta
  have hl5 : I 205 x = I0 205 x := hF.1 205 x (by omega)
  have hek : k1 = e → k1 < I0 205 x → A0 tx k1 = 59 := fun a b => by rw [a]; exact he.2 (by omega)
  refine g_iload_n dX13_read_114 rfl rfl ?_
  refine g_iload_n dX13_read_115 rfl rfl ?_
  refine g_iload dX13_read_116 rfl ?_
  refine g_icmp_le (tgt := 125) dX13_read_118 (by decide) (by omega) (by omega) (fun c_118 => ?_) (fun c_118 => ?_)
  · refine g_iconst dX13_read_125 ?_
    refine g_iadd dX13_read_126 ?_
    refine g_istore_n dX13_read_127 rfl (by decide) ?_
    refine g_iload_n dX13_read_128 rfl rfl ?_
    refine g_iload_n dX13_read_129 rfl rfl ?_
    refine g_aload_n dX13_read_130 rfl rfl ?_
    refine g_get_Model_length dX13_read_131 mw_1160 (by assumption) ?_
    rw [hl5]
    refine g_icmp_ge (tgt := 152) dX13_read_134 (by decide) (by omega) (by omega) (fun c_134 => ?_) (fun c_134 => ?_)
    · refine g_iconst dX13_read_152 ?_
      refine g_iadd dX13_read_153 ?_
      refine g_istore_n dX13_read_154 rfl (by decide) ?_
      refine g_goto (tgt := 19) dX13_read_155 (by decide) ?_
      first
      | (rw [if_pos (by omega)] at hc
         first
         | (have kx := kx (k1 + 1) (Or.inl ⟨rfl, by omega, by assumption⟩); rw [hc] at kx; exact g_locs (by exact ⟨rfl, rfl, rfl, trivial⟩) kx)
         | (have kx := kx (k1 + 0) (Or.inr ⟨by omega, by omega⟩); rw [hc] at kx; exact g_locs (by exact ⟨rfl, rfl, rfl, trivial⟩) kx))
      | (rw [if_neg (by omega)] at hc
         first
         | (have kx := kx (k1 + 1) (Or.inl ⟨rfl, by omega, by assumption⟩); rw [hc] at kx; exact g_locs (by exact ⟨rfl, rfl, rfl, trivial⟩) kx)
         | (have kx := kx (k1 + 0) (Or.inr ⟨by omega, by omega⟩); rw [hc] at kx; exact g_locs (by exact ⟨rfl, rfl, rfl, trivial⟩) kx))
    · refine g_aload_n dX13_read_137 rfl rfl ?_
      refine g_get_Model_text dX13_read_138 mw_1157 (by assumption) (by assumption) ?_
      refine g_iload_n dX13_read_141 rfl rfl ?_
      refine g_iaload dX13_read_142 (by assumption) (by omega) (by omega) ?_
      refine g_bipush dX13_read_143 (by decide) ?_
      rw [hta2]
      refine g_icmp_ne (tgt := 152) dX13_read_145 (by decide) (by have := hT k1 (by omega) (by omega); omega) (by omega) (fun c_145 => ?_) (fun c_145 => ?_)
      · refine g_iconst dX13_read_152 ?_
        refine g_iadd dX13_read_153 ?_
        refine g_istore_n dX13_read_154 rfl (by decide) ?_
        refine g_goto (tgt := 19) dX13_read_155 (by decide) ?_
        first
        | (rw [if_pos (by omega)] at hc
           first
           | (have kx := kx (k1 + 1) (Or.inl ⟨rfl, by omega, by assumption⟩); rw [hc] at kx; exact g_locs (by exact ⟨rfl, rfl, rfl, trivial⟩) kx)
           | (have kx := kx (k1 + 0) (Or.inr ⟨by omega, by omega⟩); rw [hc] at kx; exact g_locs (by exact ⟨rfl, rfl, rfl, trivial⟩) kx))
        | (rw [if_neg (by omega)] at hc
           first
           | (have kx := kx (k1 + 1) (Or.inl ⟨rfl, by omega, by assumption⟩); rw [hc] at kx; exact g_locs (by exact ⟨rfl, rfl, rfl, trivial⟩) kx)
           | (have kx := kx (k1 + 0) (Or.inr ⟨by omega, by omega⟩); rw [hc] at kx; exact g_locs (by exact ⟨rfl, rfl, rfl, trivial⟩) kx))
      · refine g_iconst dX13_read_148 ?_
        refine g_goto (tgt := 153) dX13_read_149 (by decide) ?_
        refine g_iadd dX13_read_153 ?_
        refine g_istore_n dX13_read_154 rfl (by decide) ?_
        refine g_goto (tgt := 19) dX13_read_155 (by decide) ?_
        first
        | (rw [if_pos (by omega)] at hc
           first
           | (have kx := kx (k1 + 1) (Or.inl ⟨rfl, by omega, by assumption⟩); rw [hc] at kx; exact g_locs (by exact ⟨rfl, rfl, rfl, trivial⟩) kx)
           | (have kx := kx (k1 + 0) (Or.inr ⟨by omega, by omega⟩); rw [hc] at kx; exact g_locs (by exact ⟨rfl, rfl, rfl, trivial⟩) kx))
        | (rw [if_neg (by omega)] at hc
           first
           | (have kx := kx (k1 + 1) (Or.inl ⟨rfl, by omega, by assumption⟩); rw [hc] at kx; exact g_locs (by exact ⟨rfl, rfl, rfl, trivial⟩) kx)
           | (have kx := kx (k1 + 0) (Or.inr ⟨by omega, by omega⟩); rw [hc] at kx; exact g_locs (by exact ⟨rfl, rfl, rfl, trivial⟩) kx))
  · refine g_iconst dX13_read_121 ?_
    refine g_goto (tgt := 126) dX13_read_122 (by decide) ?_
    refine g_iadd dX13_read_126 ?_
    refine g_istore_n dX13_read_127 rfl (by decide) ?_
    refine g_iload_n dX13_read_128 rfl rfl ?_
    refine g_iload_n dX13_read_129 rfl rfl ?_
    refine g_aload_n dX13_read_130 rfl rfl ?_
    refine g_get_Model_length dX13_read_131 mw_1160 (by assumption) ?_
    rw [hl5]
    refine g_icmp_ge (tgt := 152) dX13_read_134 (by decide) (by omega) (by omega) (fun c_134 => ?_) (fun c_134 => ?_)
    · refine g_iconst dX13_read_152 ?_
      refine g_iadd dX13_read_153 ?_
      refine g_istore_n dX13_read_154 rfl (by decide) ?_
      refine g_goto (tgt := 19) dX13_read_155 (by decide) ?_
      first
      | (rw [if_pos (by omega)] at hc
         first
         | (have kx := kx (k1 + 1) (Or.inl ⟨rfl, by omega, by assumption⟩); rw [hc] at kx; exact g_locs (by exact ⟨rfl, rfl, rfl, trivial⟩) kx)
         | (have kx := kx (k1 + 0) (Or.inr ⟨by omega, by omega⟩); rw [hc] at kx; exact g_locs (by exact ⟨rfl, rfl, rfl, trivial⟩) kx))
      | (rw [if_neg (by omega)] at hc
         first
         | (have kx := kx (k1 + 1) (Or.inl ⟨rfl, by omega, by assumption⟩); rw [hc] at kx; exact g_locs (by exact ⟨rfl, rfl, rfl, trivial⟩) kx)
         | (have kx := kx (k1 + 0) (Or.inr ⟨by omega, by omega⟩); rw [hc] at kx; exact g_locs (by exact ⟨rfl, rfl, rfl, trivial⟩) kx))
    · refine g_aload_n dX13_read_137 rfl rfl ?_
      refine g_get_Model_text dX13_read_138 mw_1157 (by assumption) (by assumption) ?_
      refine g_iload_n dX13_read_141 rfl rfl ?_
      refine g_iaload dX13_read_142 (by assumption) (by omega) (by omega) ?_
      refine g_bipush dX13_read_143 (by decide) ?_
      rw [hta2]
      refine g_icmp_ne (tgt := 152) dX13_read_145 (by decide) (by have := hT k1 (by omega) (by omega); omega) (by omega) (fun c_145 => ?_) (fun c_145 => ?_)
      · refine g_iconst dX13_read_152 ?_
        refine g_iadd dX13_read_153 ?_
        refine g_istore_n dX13_read_154 rfl (by decide) ?_
        refine g_goto (tgt := 19) dX13_read_155 (by decide) ?_
        first
        | (rw [if_pos (by omega)] at hc
           first
           | (have kx := kx (k1 + 1) (Or.inl ⟨rfl, by omega, by assumption⟩); rw [hc] at kx; exact g_locs (by exact ⟨rfl, rfl, rfl, trivial⟩) kx)
           | (have kx := kx (k1 + 0) (Or.inr ⟨by omega, by omega⟩); rw [hc] at kx; exact g_locs (by exact ⟨rfl, rfl, rfl, trivial⟩) kx))
        | (rw [if_neg (by omega)] at hc
           first
           | (have kx := kx (k1 + 1) (Or.inl ⟨rfl, by omega, by assumption⟩); rw [hc] at kx; exact g_locs (by exact ⟨rfl, rfl, rfl, trivial⟩) kx)
           | (have kx := kx (k1 + 0) (Or.inr ⟨by omega, by omega⟩); rw [hc] at kx; exact g_locs (by exact ⟨rfl, rfl, rfl, trivial⟩) kx))
      · refine g_iconst dX13_read_148 ?_
        refine g_goto (tgt := 153) dX13_read_149 (by decide) ?_
        refine g_iadd dX13_read_153 ?_
        refine g_istore_n dX13_read_154 rfl (by decide) ?_
        refine g_goto (tgt := 19) dX13_read_155 (by decide) ?_
        first
        | (rw [if_pos (by omega)] at hc
           first
           | (have kx := kx (k1 + 1) (Or.inl ⟨rfl, by omega, by assumption⟩); rw [hc] at kx; exact g_locs (by exact ⟨rfl, rfl, rfl, trivial⟩) kx)
           | (have kx := kx (k1 + 0) (Or.inr ⟨by omega, by omega⟩); rw [hc] at kx; exact g_locs (by exact ⟨rfl, rfl, rfl, trivial⟩) kx))
        | (rw [if_neg (by omega)] at hc
           first
           | (have kx := kx (k1 + 1) (Or.inl ⟨rfl, by omega, by assumption⟩); rw [hc] at kx; exact g_locs (by exact ⟨rfl, rfl, rfl, trivial⟩) kx)
           | (have kx := kx (k1 + 0) (Or.inr ⟨by omega, by omega⟩); rw [hc] at kx; exact g_locs (by exact ⟨rfl, rfl, rfl, trivial⟩) kx))
set_option maxHeartbeats 300000 in
set_option maxRecDepth 100000 in
theorem lp_M_read {Y : gEnv} {X : gCtx} {K N : Nat → Nat} {I : Nat → Nat → Int} {A : Nat → Int → Int} {R : Nat → Nat → Option Nat} {Q : Nat → Int → Option Nat} {po : gPo} {px : gPx} {I0 : Nat → Nat → Int} {A0 : Nat → Int → Int} {x w sv tx ag : Nat} (hM : mS K N R x w sv tx ag) (hT : ∀ j, 0 ≤ j → j < 100 → 0 ≤ A0 tx j ∧ A0 tx j ≤ 126) (hn5 : 0 ≤ I0 205 x ∧ I0 205 x ≤ 100) (e : Int) (F : sSt) (he0 : 0 ≤ e) (he : e ≤ I0 205 x ∧ (e < I0 205 x → A0 tx e = 59)) (hpo : ∀ I1 A1, mPf I0 I1 A0 A1 x ag → mPr I1 A1 x ag F → po (some (vi e)) K N I1 A1 R Q) : ∀ (f m : Nat) (k : Int) (S : sSt), m < f → 0 ≤ k → k + m = e → (∀ j, k ≤ j → j < e → A0 tx j ≠ 59) → mPf I0 I A0 A x ag → mPr I A x ag S → S.2.1 ≤ k → sScan (A0 tx) m k (-1) S = F → gJ Y X yX13_read cX13_read 5 (some .int) ({ frames := 2, cells := 0, slots := 0, locals := 50 } : Room) po px 0 0 19 [(0, .ref x), (2, vi k), (3, vi S.2.1)] [] K N I A R Q := by
  obtain ⟨hKx, hRw, hRs, hRt, hRa, hKw, hNw, hKs, hNs, hKt, hNt, hKa, hNa, hta⟩ := id hM
  intro f
  induction f generalizing I A with
  | zero => intro m k S h; omega
  | succ f ih =>
  intro m k S hf hk hm hs hF hP hw hsc
  have hta2 : A tx = A0 tx := hF.2 tx hta
  have hl5 : I 205 x = I0 205 x := hF.1 205 x (by omega)
  have hS0 := hP.2.2.2.2.2
  refine g_iload_n dX13_read_19 rfl rfl ?_
  refine g_aload_n dX13_read_20 rfl rfl ?_
  refine g_get_Model_length dX13_read_21 mw_1160 (by assumption) ?_
  rw [hl5]
  refine g_icmp_ge (tgt := 158) dX13_read_24 (by decide) (by omega) (by omega) (fun c_24 => ?_) (fun c_24 => ?_)
  · obtain rfl : k = e := by first | omega | (by_cases q : k = e; exact q; exact absurd (by assumption) (hs k (by omega) (by omega)))
    obtain rfl : m = 0 := by omega
    rw [sScan_stop rfl] at hsc
    subst hsc
    refine g_iload_n dX13_read_158 rfl rfl ?_
    exact g_iret dX13_read_159 rfl (by decide) (by decide) (hpo _ _ hF hP)
  · refine g_aload_n dX13_read_27 rfl rfl ?_
    refine g_get_Model_text dX13_read_28 mw_1157 (by assumption) (by assumption) ?_
    refine g_iload_n dX13_read_31 rfl rfl ?_
    refine g_iaload dX13_read_32 (by assumption) (by omega) (by omega) ?_
    rw [hta2]
    refine g_bipush dX13_read_33 (by decide) ?_
    refine g_icmp_eq (tgt := 158) dX13_read_35 (by decide) (by have := hT k (by omega) (by omega); omega) (by omega) (fun c_35 => ?_) (fun c_35 => ?_)
    · obtain rfl : k = e := by first | omega | (by_cases q : k = e; exact q; exact absurd (by assumption) (hs k (by omega) (by omega)))
      obtain rfl : m = 0 := by omega
      rw [sScan_stop rfl] at hsc
      subst hsc
      refine g_iload_n dX13_read_158 rfl rfl ?_
      exact g_iret dX13_read_159 rfl (by decide) (by decide) (hpo _ _ hF hP)
    · refine g_iload_n dX13_read_38 rfl rfl ?_
      refine g_istore dX13_read_39 (by decide) ?_
      have hke : k < e := by
        by_cases q : k = e
        · subst q; have := he.2 (by omega); omega
        · omega
      refine g_locs (by exact ⟨rfl, rfl, rfl, rfl, trivial⟩) (lp_M_read1 hM (fun j a b => by rw [hta2]; exact hT j a b) (by omega) k S.2.1 e hk (by rw [hta2, hl5]; exact he) (fun k1 g1 g2 g3 g4 => ?_) _ m k (Nat.lt_succ_self _) (by omega) hm (fun j a b => by rw [hta2]; exact hs j a b) (fun j a b => by omega))
      rw [hta2] at g3 g4
      have hnext : ∀ (I1 : Nat → Nat → Int) (A1 : Nat → Int → Int) (S1 : sSt), mPf I0 I1 A0 A1 x ag → mPr I1 A1 x ag S1 → S1.2.1 = S.2.1 + (if k < k1 then 1 else 0) → (k1 < e → sScan (A0 tx) (e - (k1 + 1)).toNat (k1 + 1) (-1) S1 = F) → (k1 = e → S1 = F) → ∀ k2, ((k2 = k1 + 1 ∧ k1 < e ∧ A0 tx k1 = 32) ∨ (k2 = k1 ∧ k1 = e)) → gJ Y X yX13_read cX13_read 5 (some .int) ({ frames := 2, cells := 0, slots := 0, locals := 50 } : Room) po px 0 0 19 [(0, .ref x), (2, vi k2), (3, vi S1.2.1)] [] K N I1 A1 R Q := fun I1 A1 S1 q1 q2 q3 q4 q5 k2 q6 => by
        rcases q6 with ⟨q9, q7, q8⟩ | ⟨q9, q7⟩
        · rw [q9]
          exact ih (e - (k1 + 1)).toNat (k1 + 1) S1 (by omega) (by omega) (by omega) (fun j a b => hs j (by omega) b) q1 q2 (by split at q3 <;> omega) (q4 q7)
        · rw [q9]
          exact ih 0 k1 S1 (by omega) (by omega) (by omega) (fun j a b => by omega) q1 q2 (by rw [if_pos (by omega)] at q3; omega) (by rw [sScan_stop rfl]; exact q5 q7)
      have hrun : k < k1 → sScan (A0 tx) m k (-1) S = sScan (A0 tx) (m - (k1 - k).toNat) k1 k S := fun q => sScan_run0 hk q (by omega) g3
      have hw1 : k < k1 → k1 < e → sScan (A0 tx) (e - (k1 + 1)).toNat (k1 + 1) (-1) (sWord (A0 tx) S k k1) = F := fun q1 q2 => by
        rw [← hsc, hrun q1, sScan_word (by omega) (g4.resolve_left (by omega)) (by omega), show (e - (k1 + 1)).toNat = m - (k1 - k).toNat - 1 by omega]
      have hw2 : k < k1 → k1 = e → sWord (A0 tx) S k k1 = F := fun q1 q2 => by
        rw [← hsc, hrun q1, sScan_last (by omega) (by omega)]
      refine g_iload_n dX13_read_77 rfl rfl ?_
      refine g_iload dX13_read_78 rfl ?_
      refine g_icmp_le (tgt := 101) dX13_read_80 (by decide) (by omega) (by omega) (fun c_80 => ?_) (fun c_80 => ?_)
      · refine g_iload_n dX13_read_101 rfl rfl ?_
        refine g_iload dX13_read_102 rfl ?_
        refine g_icmp_le (tgt := 114) dX13_read_104 (by decide) (by omega) (by omega) (fun c_104 => ?_) (fun c_104 => ?_)
        · first
          | exact g_locs (by exact ⟨rfl, rfl, rfl, rfl, trivial⟩) fin
          | (obtain rfl : k1 = k := by omega
             have fin := lp_M_read2 (Y := Y) (X := X) (K := K) (N := N) (R := R) (Q := Q) (po := po) (px := px) hM hT hn5 e F he0 he hF k1 k1 S.2.1 S (by omega) g4 (by rw [if_neg (by omega), Int.add_zero]) (by omega) (hnext I A S hF hP (by rw [if_neg (by omega), Int.add_zero]) (fun q => by
              rw [← hsc, sScan_skip (by omega) (g4.resolve_left (by omega)), show (e - (k1 + 1)).toNat = m - 1 by omega]) (fun q => by omega))
             exact g_locs (by exact ⟨rfl, rfl, rfl, rfl, trivial⟩) fin)
        · refine g_aload_n dX13_read_107 rfl rfl ?_
          refine g_iload dX13_read_108 rfl ?_
          refine g_iload_n dX13_read_110 rfl rfl ?_
          refine g_callVw (i := 10) rfl (gK0 (by assumption)) (g_at10 (by assumption)) (k_M_takeArgument Y hM (fun j a b => by rw [hta2]; exact hT j a b) k k1 (by omega) (by rw [hP.2.1]; split <;> omega) (by rw [hP.2.2.1]; exact hP.2.2.2.2.1)) u_X13_takeArgument mw_1495 dX13_read_111 rfl rfl ⟨Nat.le_of_ble_eq_true rfl, Nat.le_of_ble_eq_true rfl⟩ ⟨Nat.le_of_ble_eq_true rfl, Nat.le_of_ble_eq_true rfl⟩ (Nat.le_of_ble_eq_true rfl) (fun v111 I111 A111 h111 => ?_)
          obtain ⟨rfl, i111, z111, a111, n111⟩ := h111
          rw [hta2] at i111 n111
          have hF2 := hF.trans (mPf.wordn i111 a111)
          have hP2 := hP.wordn (T := A0 tx) (f := k) (t := k1) (by omega) i111 a111 n111
          have hS2 := sWord_cnt (T := A0 tx) (S := S) (f := k) (t := k1)
          have fin := lp_M_read2 (Y := Y) (X := X) (K := K) (N := N) (R := R) (Q := Q) (po := po) (px := px) hM hT hn5 e F he0 he hF2 k k1 S.2.1 (sWord (A0 tx) S k k1) (by omega) g4 (by rw [if_pos (by omega)]; exact hS2) (by omega) (hnext I111 A111 (sWord (A0 tx) S k k1) hF2 hP2 (by rw [if_pos (by omega)]; exact hS2) (hw1 (by omega)) (hw2 (by omega)))
          first
          | exact g_locs (by exact ⟨rfl, rfl, rfl, rfl, trivial⟩) fin
          | (obtain rfl : k1 = k := by omega
             have fin := lp_M_read2 (Y := Y) (X := X) (K := K) (N := N) (R := R) (Q := Q) (po := po) (px := px) hM hT hn5 e F he0 he hF k1 k1 S.2.1 S (by omega) g4 (by rw [if_neg (by omega), Int.add_zero]) (by omega) (hnext I A S hF hP (by rw [if_neg (by omega), Int.add_zero]) (fun q => by
              rw [← hsc, sScan_skip (by omega) (g4.resolve_left (by omega)), show (e - (k1 + 1)).toNat = m - 1 by omega]) (fun q => by omega))
             exact g_locs (by exact ⟨rfl, rfl, rfl, rfl, trivial⟩) fin)
      · refine g_iload_n dX13_read_83 rfl rfl ?_
        refine g_if_ne (tgt := 101) dX13_read_84 (by decide) (by omega) (fun c_84 => ?_) (fun c_84 => ?_)
        · refine g_iload_n dX13_read_101 rfl rfl ?_
          refine g_iload dX13_read_102 rfl ?_
          refine g_icmp_le (tgt := 114) dX13_read_104 (by decide) (by omega) (by omega) (fun c_104 => ?_) (fun c_104 => ?_)
          · first
            | exact g_locs (by exact ⟨rfl, rfl, rfl, rfl, trivial⟩) fin
            | (obtain rfl : k1 = k := by omega
               have fin := lp_M_read2 (Y := Y) (X := X) (K := K) (N := N) (R := R) (Q := Q) (po := po) (px := px) hM hT hn5 e F he0 he hF k1 k1 S.2.1 S (by omega) g4 (by rw [if_neg (by omega), Int.add_zero]) (by omega) (hnext I A S hF hP (by rw [if_neg (by omega), Int.add_zero]) (fun q => by
                rw [← hsc, sScan_skip (by omega) (g4.resolve_left (by omega)), show (e - (k1 + 1)).toNat = m - 1 by omega]) (fun q => by omega))
               exact g_locs (by exact ⟨rfl, rfl, rfl, rfl, trivial⟩) fin)
          · refine g_aload_n dX13_read_107 rfl rfl ?_
            refine g_iload dX13_read_108 rfl ?_
            refine g_iload_n dX13_read_110 rfl rfl ?_
            refine g_callVw (i := 10) rfl (gK0 (by assumption)) (g_at10 (by assumption)) (k_M_takeArgument Y hM (fun j a b => by rw [hta2]; exact hT j a b) k k1 (by omega) (by rw [hP.2.1]; split <;> omega) (by rw [hP.2.2.1]; exact hP.2.2.2.2.1)) u_X13_takeArgument mw_1495 dX13_read_111 rfl rfl ⟨Nat.le_of_ble_eq_true rfl, Nat.le_of_ble_eq_true rfl⟩ ⟨Nat.le_of_ble_eq_true rfl, Nat.le_of_ble_eq_true rfl⟩ (Nat.le_of_ble_eq_true rfl) (fun v111 I111 A111 h111 => ?_)
            obtain ⟨rfl, i111, z111, a111, n111⟩ := h111
            rw [hta2] at i111 n111
            have hF2 := hF.trans (mPf.wordn i111 a111)
            have hP2 := hP.wordn (T := A0 tx) (f := k) (t := k1) (by omega) i111 a111 n111
            have hS2 := sWord_cnt (T := A0 tx) (S := S) (f := k) (t := k1)
            have fin := lp_M_read2 (Y := Y) (X := X) (K := K) (N := N) (R := R) (Q := Q) (po := po) (px := px) hM hT hn5 e F he0 he hF2 k k1 S.2.1 (sWord (A0 tx) S k k1) (by omega) g4 (by rw [if_pos (by omega)]; exact hS2) (by omega) (hnext I111 A111 (sWord (A0 tx) S k k1) hF2 hP2 (by rw [if_pos (by omega)]; exact hS2) (hw1 (by omega)) (hw2 (by omega)))
            first
            | exact g_locs (by exact ⟨rfl, rfl, rfl, rfl, trivial⟩) fin
            | (obtain rfl : k1 = k := by omega
               have fin := lp_M_read2 (Y := Y) (X := X) (K := K) (N := N) (R := R) (Q := Q) (po := po) (px := px) hM hT hn5 e F he0 he hF k1 k1 S.2.1 S (by omega) g4 (by rw [if_neg (by omega), Int.add_zero]) (by omega) (hnext I A S hF hP (by rw [if_neg (by omega), Int.add_zero]) (fun q => by
                rw [← hsc, sScan_skip (by omega) (g4.resolve_left (by omega)), show (e - (k1 + 1)).toNat = m - 1 by omega]) (fun q => by omega))
               exact g_locs (by exact ⟨rfl, rfl, rfl, rfl, trivial⟩) fin)
        · refine g_aload_n dX13_read_87 rfl rfl ?_
          refine g_aload_n dX13_read_88 rfl rfl ?_
          refine g_iload dX13_read_89 rfl ?_
          refine g_iload_n dX13_read_91 rfl rfl ?_
          refine g_callVp (i := 10) rfl (gK0 (by assumption)) (g_at10 (by assumption)) (k_M_wordOf Y hM (fun j a b => by rw [hta2]; exact hT j a b) k k1 (by omega)) u_X13_wordOf mw_1487 dX13_read_92 rfl rfl ⟨Nat.le_of_ble_eq_true rfl, Nat.le_of_ble_eq_true rfl⟩ ⟨Nat.le_of_ble_eq_true rfl, Nat.le_of_ble_eq_true rfl⟩ (Nat.le_of_ble_eq_true rfl) ?_
          rw [hta2]
          refine g_put_Model_word dX13_read_95 mw_1162 (by assumption) (fun I95 hI95 => ?_)
          have hF2 := hF.trans (mPf.up (A := A) (ag := ag) (by omega) hI95)
          have hP2 := hP.word0 (T := A0 tx) (f := k) (t := k1) (by omega) hI95 rfl
          have hS2 := sWord_cnt (T := A0 tx) (S := S) (f := k) (t := k1)
          have fin := lp_M_read2 (Y := Y) (X := X) (K := K) (N := N) (R := R) (Q := Q) (po := po) (px := px) hM hT hn5 e F he0 he hF2 k k1 S.2.1 (sWord (A0 tx) S k k1) (by omega) g4 (by rw [if_pos (by omega)]; exact hS2) (by omega) (hnext I95 A (sWord (A0 tx) S k k1) hF2 hP2 (by rw [if_pos (by omega)]; exact hS2) (hw1 (by omega)) (hw2 (by omega)))
          refine g_goto (tgt := 114) dX13_read_98 (by decide) ?_
          first
          | exact g_locs (by exact ⟨rfl, rfl, rfl, rfl, trivial⟩) fin
          | (obtain rfl : k1 = k := by omega
             have fin := lp_M_read2 (Y := Y) (X := X) (K := K) (N := N) (R := R) (Q := Q) (po := po) (px := px) hM hT hn5 e F he0 he hF k1 k1 S.2.1 S (by omega) g4 (by rw [if_neg (by omega), Int.add_zero]) (by omega) (hnext I A S hF hP (by rw [if_neg (by omega), Int.add_zero]) (fun q => by
              rw [← hsc, sScan_skip (by omega) (g4.resolve_left (by omega)), show (e - (k1 + 1)).toNat = m - 1 by omega]) (fun q => by omega))
             exact g_locs (by exact ⟨rfl, rfl, rfl, rfl, trivial⟩) fin)
set_option maxHeartbeats 300000 in
set_option maxRecDepth 100000 in
theorem k_M_read (Y : gEnv) {K N : Nat → Nat} {I : Nat → Nat → Int} {A : Nat → Int → Int} {R : Nat → Nat → Option Nat} {Q : Nat → Int → Option Nat} {x w sv tx ag : Nat} (hM : mS K N R x w sv tx ag) (hT : ∀ j, 0 ≤ j → j < 100 → 0 ≤ A tx j ∧ A tx j ≤ 126) (hn5 : 0 ≤ I 205 x ∧ I 205 x ≤ 100) (b : Int) (hb : 0 ≤ b ∧ b ≤ I 205 x) : gC Y yX13_read cX13_read 5 (some .int) ({ frames := 2, cells := 0, slots := 0, locals := 50 } : Room) [.ref x, vi b] K N I A R Q (g_wr K N R Q (fun v I' A' => v = some (vi (sEnd (A tx) (I 205 x) b)) ∧ mPf I I' A A' x ag ∧ mPr I' A' x ag (sCmd (A tx) (I 205 x) b))) gno := by
  refine gC_of (by decide) (Nat.le_of_ble_eq_true rfl) (fun X => ?_)
  obtain ⟨hKx, hRw, hRs, hRt, hRa, hKw, hNw, hKs, hNs, hKt, hNt, hKa, hNa, hta⟩ := id hM
  have hr := sEnd_range (T := A tx) hb.2
  refine g_iload_n dX13_read_0 rfl rfl ?_
  refine g_istore_n dX13_read_1 rfl (by decide) ?_
  refine g_iconst dX13_read_2 ?_
  refine g_istore_n dX13_read_3 rfl (by decide) ?_
  refine g_aload_n dX13_read_4 rfl rfl ?_
  refine g_iconst dX13_read_5 ?_
  refine g_put_Model_word dX13_read_6 mw_1162 (by assumption) (fun I6 hI6 => ?_)
  refine g_aload_n dX13_read_9 rfl rfl ?_
  refine g_iconst dX13_read_10 ?_
  refine g_put_Model_arguments dX13_read_11 mw_1163 (by assumption) (fun I11 hI11 => ?_)
  refine g_aload_n dX13_read_14 rfl rfl ?_
  refine g_iconst dX13_read_15 ?_
  refine g_put_Model_areNumbers  (by omega) dX13_read_16 mw_1164 (by assumption) (fun I16 hI16 => ?_)
  have hF : mPf I I16 A A x ag := ((mPf.up (by omega) hI6).trans (mPf.up (by omega) hI11)).trans (mPf.up (by omega) hI16)
  have q9 : I16 209 x = 1 := by rw [hI16, g_up_eq]
  have q8 : I16 208 x = 0 := by rw [hI16, g_up_ne1 _ _ (by omega), hI11, g_up_eq]
  have q7 : I16 207 x = 0 := by rw [hI16, g_up_ne1 _ _ (by omega), hI11, g_up_ne1 _ _ (by omega), hI6, g_up_eq]
  exact g_locs (by exact ⟨rfl, rfl, rfl, trivial⟩) (lp_M_read (I0 := I) (A0 := A) hM hT hn5 (sEnd (A tx) (I 205 x) b) (sCmd (A tx) (I 205 x) b) (by omega) ⟨hr.2.1, hr.2.2.1⟩ (fun I1 A1 h1 h2 => ⟨rfl, rfl, rfl, rfl, rfl, h1, h2⟩) _ (sEnd (A tx) (I 205 x) b - b).toNat b sS0 (Nat.lt_succ_self _) hb.1 (by omega) hr.2.2.2 hF (mPr.up (I := I) q7 q8 q9) (by show (0 : Int) ≤ b; omega) rfl)
