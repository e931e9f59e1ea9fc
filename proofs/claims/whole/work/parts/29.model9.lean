theorem sVerb_range (T : Int → Int) (f t : Int) : 0 ≤ sVerb T f t ∧ sVerb T f t ≤ 5 := by
  unfold sVerb
  repeat (first | omega | split)
theorem sNum_range (T : Int → Int) (f t : Int) : -1 ≤ sNum T f t ∧ sNum T f t ≤ 9999 := by
  unfold sNum
  split
  · omega
  · have h : (t - f).toNat = 1 ∨ (t - f).toNat = 2 ∨ (t - f).toNat = 3 ∨ (t - f).toNat = 4 := by omega
    rcases h with h | h | h | h <;> rw [h] <;> simp only [sNumL] <;> repeat (first | omega | split)
/-- what is true of any state of a reading -/
def sInv (S : sSt) : Prop := 0 ≤ S.1 ∧ S.1 ≤ 5 ∧ 0 ≤ S.2.1 ∧ (S.2.1 = 0 → S.1 = 0) ∧ (S.2.2.1 = 0 ∨ S.2.2.1 = 1) ∧ (S.2.2.1 = 1 → ∀ j, 0 ≤ j → j < S.2.1 - 1 → 0 ≤ S.2.2.2 j ∧ S.2.2.2 j ≤ 9999)
theorem sInv.s0 : sInv sS0 := ⟨Int.le_refl _, by show (0 : Int) ≤ 5; omega, Int.le_refl _, fun _ => rfl, Or.inr rfl, fun _ j a b => absurd b (by show ¬ j < 0 - 1; omega)⟩
theorem sInv.word {T : Int → Int} {S : sSt} {f t : Int} (h : sInv S) : sInv (sWord T S f t) := by
  obtain ⟨h1, h2, h3, h4, h5, h6⟩ := h
  by_cases e : S.2.1 = 0
  · rw [sWord_0 e]
    have := sVerb_range T f t
    refine ⟨this.1, this.2, by show (0 : Int) ≤ 1; omega, fun a => absurd a (by show ¬ (1 : Int) = 0; omega), h5, fun _ j a b => absurd b (by show ¬ j < 1 - 1; omega)⟩
  · rw [sWord_n e]
    have hr := sNum_range T f t
    refine ⟨h1, h2, by show 0 ≤ S.2.1 + 1; omega, fun a => absurd a (by show ¬ S.2.1 + 1 = 0; omega), ?_, fun a j b c => ?_⟩
    · show (if sNum T f t = -1 then 0 else S.2.2.1) = 0 ∨ (if sNum T f t = -1 then 0 else S.2.2.1) = 1
      split <;> omega
    · have a1 : (if sNum T f t = -1 then 0 else S.2.2.1) = 1 := a
      have c1 : j < S.2.1 + 1 - 1 := c
      show 0 ≤ sU S.2.2.2 (S.2.1 - 1) (sNum T f t) j ∧ sU S.2.2.2 (S.2.1 - 1) (sNum T f t) j ≤ 9999
      have hne : sNum T f t ≠ -1 := fun q => by rw [if_pos q] at a1; omega
      rw [if_neg hne] at a1
      by_cases q : j = S.2.1 - 1
      · rw [q, sU_eq]; omega
      · rw [sU_ne _ _ q]; exact h6 a1 j b (by omega)
theorem sInv.scan {T : Int → Int} : ∀ (n : Nat) (i st : Int) (S : sSt), sInv S → sInv (sScan T n i st S) ∧ (sScan T n i st S).2.1 ≤ S.2.1 + n + (if st = -1 then 0 else 1)
  | 0, i, st, S, h => by
    simp only [sScan]
    split
    · exact ⟨h, by omega⟩
    · exact ⟨h.word, by rw [sWord_cnt]; omega⟩
  | n + 1, i, st, S, h => by
    simp only [sScan]
    split
    · split
      · have := sInv.scan (T := T) n (i + 1) (-1) S h
        rw [if_pos rfl] at this
        exact ⟨this.1, by have := this.2; omega⟩
      · have := sInv.scan (T := T) n (i + 1) (-1) _ (h.word (T := T) (f := st) (t := i))
        rw [if_pos rfl, sWord_cnt] at this
        exact ⟨this.1, by have := this.2; omega⟩
    · split
      · have := sInv.scan (T := T) n (i + 1) i S h
        exact ⟨this.1, by have := this.2; split at this <;> omega⟩
      · have := sInv.scan (T := T) n (i + 1) st S h
        rw [if_neg (by assumption)] at this
        exact ⟨this.1, by have := this.2; omega⟩
theorem sCmd_inv {T : Int → Int} {n b : Int} (h : 0 ≤ b ∧ b ≤ n ∧ n ≤ 100) : sInv (sCmd T n b) ∧ (sCmd T n b).2.1 ≤ 100 := by
  have h1 := sInv.scan (T := T) (sEnd T n b - b).toNat b (-1) sS0 sInv.s0
  rw [if_pos rfl] at h1
  have h2 := sEnd_range (T := T) h.2.1
  refine ⟨h1.1, ?_⟩
  have h3 : (sCmd T n b).2.1 ≤ sS0.2.1 + ((sEnd T n b - b).toNat : Int) + 0 := h1.2
  have h4 : sS0.2.1 = 0 := rfl
  omega
theorem sKind_range (S : sSt) : 0 ≤ sKind S ∧ sKind S ≤ 3 := by
  simp only [sKind]
  repeat (first | omega | split)
set_option maxHeartbeats 1000000 in
set_option maxRecDepth 100000 in
theorem k_M_errorKind (Y : gEnv) {K N : Nat → Nat} {I : Nat → Nat → Int} {A : Nat → Int → Int} {R : Nat → Nat → Option Nat} {Q : Nat → Int → Option Nat} {x w sv tx ag : Nat} (hM : mS K N R x w sv tx ag) {S : sSt} (hP : mPr I A x ag S) (hS : sInv S) (hS2 : S.2.1 ≤ 101) : gC Y yX13_errorKind cX13_errorKind 2 (some .int) ({ frames := 0, cells := 0, slots := 0, locals := 0 } : Room) [.ref x] K N I A R Q (g_pu (some (vi (sKind S))) K N I A R Q) gno := by
  refine gC_of (by decide) (Nat.le_of_ble_eq_true rfl) (fun X => ?_)
  obtain ⟨hKx, hRw, hRs, hRt, hRa, hKw, hNw, hKs, hNs, hKt, hNt, hKa, hNa, hta⟩ := id hM
  obtain ⟨p1, p2, p3, p4, p5, p6⟩ := hP
  obtain ⟨s1, s2, s3, s4, s5, s6⟩ := hS
  have p2b : 0 ≤ I 208 x ∧ I 208 x ≤ 101 ∧ (S.1 ≠ 0 → I 208 x = S.2.1 - 1) := by
    rw [p2]
    by_cases e : S.2.1 = 0
    · rw [if_pos e]; exact ⟨by omega, by omega, fun q => absurd (s4 e) q⟩
    · rw [if_neg e]; exact ⟨by omega, by omega, fun _ => rfl⟩
  refine g_aload_n dX13_errorKind_0 rfl rfl ?_
  refine g_get_Model_word dX13_errorKind_1 mw_1162 (by assumption) ?_
  refine g_iconst dX13_errorKind_4 ?_
  refine g_icmp_eq (tgt := 16) dX13_errorKind_5 (by decide) (by omega) (by omega) (fun c_5 => ?_) (fun c_5 => ?_)
  · refine g_iconst dX13_errorKind_16 ?_
    refine g_goto (tgt := 45) dX13_errorKind_17 (by decide) ?_
    refine g_istore_n dX13_errorKind_45 rfl (by decide) ?_
    refine g_aload_n dX13_errorKind_46 rfl rfl ?_
    refine g_get_Model_word dX13_errorKind_47 mw_1162 (by assumption) ?_
    refine g_if_ne (tgt := 57) dX13_errorKind_50 (by decide) (by omega) (fun c_50 => ?_) (fun c_50 => ?_)
    · refine g_aload_n dX13_errorKind_57 rfl rfl ?_
      refine g_get_Model_arguments dX13_errorKind_58 mw_1163 (by assumption) ?_
      refine g_iload_n dX13_errorKind_61 rfl rfl ?_
      refine g_icmp_eq (tgt := 69) dX13_errorKind_62 (by decide) (by omega) (by omega) (fun c_62 => ?_) (fun c_62 => ?_)
      · refine g_aload_n dX13_errorKind_69 rfl rfl ?_
        refine g_get_Model_areNumbers dX13_errorKind_70 mw_1164 (by assumption) ?_
        refine g_if_eq (tgt := 80) dX13_errorKind_73 (by decide) (by omega) (fun c_73 => ?_) (fun c_73 => ?_)
        · refine g_iconst dX13_errorKind_80 ?_
          exact g_iret dX13_errorKind_81 rfl (by decide) (by decide) (g_pu_i (by
      simp only [sKind, sNeed]
      rw [← p1, ← p3]
      have q2 := p2b.2.2
      rw [← p1] at q2
      repeat (first | omega | split)) _ _ _ _ _ _)
        · refine g_iconst dX13_errorKind_76 ?_
          refine g_goto (tgt := 81) dX13_errorKind_77 (by decide) ?_
          exact g_iret dX13_errorKind_81 rfl (by decide) (by decide) (g_pu_i (by
      simp only [sKind, sNeed]
      rw [← p1, ← p3]
      have q2 := p2b.2.2
      rw [← p1] at q2
      repeat (first | omega | split)) _ _ _ _ _ _)
      · refine g_iconst dX13_errorKind_65 ?_
        refine g_goto (tgt := 81) dX13_errorKind_66 (by decide) ?_
        exact g_iret dX13_errorKind_81 rfl (by decide) (by decide) (g_pu_i (by
      simp only [sKind, sNeed]
      rw [← p1, ← p3]
      have q2 := p2b.2.2
      rw [← p1] at q2
      repeat (first | omega | split)) _ _ _ _ _ _)
    · refine g_iconst dX13_errorKind_53 ?_
      refine g_goto (tgt := 81) dX13_errorKind_54 (by decide) ?_
      exact g_iret dX13_errorKind_81 rfl (by decide) (by decide) (g_pu_i (by
      simp only [sKind, sNeed]
      rw [← p1, ← p3]
      have q2 := p2b.2.2
      rw [← p1] at q2
      repeat (first | omega | split)) _ _ _ _ _ _)
  · refine g_aload_n dX13_errorKind_8 rfl rfl ?_
    refine g_get_Model_word dX13_errorKind_9 mw_1162 (by assumption) ?_
    refine g_iconst dX13_errorKind_12 ?_
    refine g_icmp_ne (tgt := 20) dX13_errorKind_13 (by decide) (by omega) (by omega) (fun c_13 => ?_) (fun c_13 => ?_)
    · refine g_aload_n dX13_errorKind_20 rfl rfl ?_
      refine g_get_Model_word dX13_errorKind_21 mw_1162 (by assumption) ?_
      refine g_iconst dX13_errorKind_24 ?_
      refine g_icmp_ne (tgt := 32) dX13_errorKind_25 (by decide) (by omega) (by omega) (fun c_25 => ?_) (fun c_25 => ?_)
      · refine g_aload_n dX13_errorKind_32 rfl rfl ?_
        refine g_get_Model_word dX13_errorKind_33 mw_1162 (by assumption) ?_
        refine g_iconst dX13_errorKind_36 ?_
        refine g_icmp_ne (tgt := 44) dX13_errorKind_37 (by decide) (by omega) (by omega) (fun c_37 => ?_) (fun c_37 => ?_)
        · refine g_iconst dX13_errorKind_44 ?_
          refine g_istore_n dX13_errorKind_45 rfl (by decide) ?_
          refine g_aload_n dX13_errorKind_46 rfl rfl ?_
          refine g_get_Model_word dX13_errorKind_47 mw_1162 (by assumption) ?_
          refine g_if_ne (tgt := 57) dX13_errorKind_50 (by decide) (by omega) (fun c_50 => ?_) (fun c_50 => ?_)
          · refine g_aload_n dX13_errorKind_57 rfl rfl ?_
            refine g_get_Model_arguments dX13_errorKind_58 mw_1163 (by assumption) ?_
            refine g_iload_n dX13_errorKind_61 rfl rfl ?_
            refine g_icmp_eq (tgt := 69) dX13_errorKind_62 (by decide) (by omega) (by omega) (fun c_62 => ?_) (fun c_62 => ?_)
            · refine g_aload_n dX13_errorKind_69 rfl rfl ?_
              refine g_get_Model_areNumbers dX13_errorKind_70 mw_1164 (by assumption) ?_
              refine g_if_eq (tgt := 80) dX13_errorKind_73 (by decide) (by omega) (fun c_73 => ?_) (fun c_73 => ?_)
              · refine g_iconst dX13_errorKind_80 ?_
                exact g_iret dX13_errorKind_81 rfl (by decide) (by decide) (g_pu_i (by
      simp only [sKind, sNeed]
      rw [← p1, ← p3]
      have q2 := p2b.2.2
      rw [← p1] at q2
      repeat (first | omega | split)) _ _ _ _ _ _)
              · refine g_iconst dX13_errorKind_76 ?_
                refine g_goto (tgt := 81) dX13_errorKind_77 (by decide) ?_
                exact g_iret dX13_errorKind_81 rfl (by decide) (by decide) (g_pu_i (by
      simp only [sKind, sNeed]
      rw [← p1, ← p3]
      have q2 := p2b.2.2
      rw [← p1] at q2
      repeat (first | omega | split)) _ _ _ _ _ _)
            · refine g_iconst dX13_errorKind_65 ?_
              refine g_goto (tgt := 81) dX13_errorKind_66 (by decide) ?_
              exact g_iret dX13_errorKind_81 rfl (by decide) (by decide) (g_pu_i (by
      simp only [sKind, sNeed]
      rw [← p1, ← p3]
      have q2 := p2b.2.2
      rw [← p1] at q2
      repeat (first | omega | split)) _ _ _ _ _ _)
          · refine g_iconst dX13_errorKind_53 ?_
            refine g_goto (tgt := 81) dX13_errorKind_54 (by decide) ?_
            exact g_iret dX13_errorKind_81 rfl (by decide) (by decide) (g_pu_i (by
      simp only [sKind, sNeed]
      rw [← p1, ← p3]
      have q2 := p2b.2.2
      rw [← p1] at q2
      repeat (first | omega | split)) _ _ _ _ _ _)
        · refine g_iconst dX13_errorKind_40 ?_
          refine g_goto (tgt := 45) dX13_errorKind_41 (by decide) ?_
          refine g_istore_n dX13_errorKind_45 rfl (by decide) ?_
          refine g_aload_n dX13_errorKind_46 rfl rfl ?_
          refine g_get_Model_word dX13_errorKind_47 mw_1162 (by assumption) ?_
          refine g_if_ne (tgt := 57) dX13_errorKind_50 (by decide) (by omega) (fun c_50 => ?_) (fun c_50 => ?_)
          · refine g_aload_n dX13_errorKind_57 rfl rfl ?_
            refine g_get_Model_arguments dX13_errorKind_58 mw_1163 (by assumption) ?_
            refine g_iload_n dX13_errorKind_61 rfl rfl ?_
            refine g_icmp_eq (tgt := 69) dX13_errorKind_62 (by decide) (by omega) (by omega) (fun c_62 => ?_) (fun c_62 => ?_)
            · refine g_aload_n dX13_errorKind_69 rfl rfl ?_
              refine g_get_Model_areNumbers dX13_errorKind_70 mw_1164 (by assumption) ?_
              refine g_if_eq (tgt := 80) dX13_errorKind_73 (by decide) (by omega) (fun c_73 => ?_) (fun c_73 => ?_)
              · refine g_iconst dX13_errorKind_80 ?_
                exact g_iret dX13_errorKind_81 rfl (by decide) (by decide) (g_pu_i (by
      simp only [sKind, sNeed]
      rw [← p1, ← p3]
      have q2 := p2b.2.2
      rw [← p1] at q2
      repeat (first | omega | split)) _ _ _ _ _ _)
              · refine g_iconst dX13_errorKind_76 ?_
                refine g_goto (tgt := 81) dX13_errorKind_77 (by decide) ?_
                exact g_iret dX13_errorKind_81 rfl (by decide) (by decide) (g_pu_i (by
      simp only [sKind, sNeed]
      rw [← p1, ← p3]
      have q2 := p2b.2.2
      rw [← p1] at q2
      repeat (first | omega | split)) _ _ _ _ _ _)
            · refine g_iconst dX13_errorKind_65 ?_
              refine g_goto (tgt := 81) dX13_errorKind_66 (by decide) ?_
              exact g_iret dX13_errorKind_81 rfl (by decide) (by decide) (g_pu_i (by
      simp only [sKind, sNeed]
      rw [← p1, ← p3]
      have q2 := p2b.2.2
      rw [← p1] at q2
      repeat (first | omega | split)) _ _ _ _ _ _)
          · refine g_iconst dX13_errorKind_53 ?_
            refine g_goto (tgt := 81) dX13_errorKind_54 (by decide) ?_
            exact g_iret dX13_errorKind_81 rfl (by decide) (by decide) (g_pu_i (by
      simp only [sKind, sNeed]
      rw [← p1, ← p3]
      have q2 := p2b.2.2
      rw [← p1] at q2
      repeat (first | omega | split)) _ _ _ _ _ _)
      · refine g_iconst dX13_errorKind_28 ?_
        refine g_goto (tgt := 45) dX13_errorKind_29 (by decide) ?_
        refine g_istore_n dX13_errorKind_45 rfl (by decide) ?_
        refine g_aload_n dX13_errorKind_46 rfl rfl ?_
        refine g_get_Model_word dX13_errorKind_47 mw_1162 (by assumption) ?_
        refine g_if_ne (tgt := 57) dX13_errorKind_50 (by decide) (by omega) (fun c_50 => ?_) (fun c_50 => ?_)
        · refine g_aload_n dX13_errorKind_57 rfl rfl ?_
          refine g_get_Model_arguments dX13_errorKind_58 mw_1163 (by assumption) ?_
          refine g_iload_n dX13_errorKind_61 rfl rfl ?_
          refine g_icmp_eq (tgt := 69) dX13_errorKind_62 (by decide) (by omega) (by omega) (fun c_62 => ?_) (fun c_62 => ?_)
          · refine g_aload_n dX13_errorKind_69 rfl rfl ?_
            refine g_get_Model_areNumbers dX13_errorKind_70 mw_1164 (by assumption) ?_
            refine g_if_eq (tgt := 80) dX13_errorKind_73 (by decide) (by omega) (fun c_73 => ?_) (fun c_73 => ?_)
            · refine g_iconst dX13_errorKind_80 ?_
              exact g_iret dX13_errorKind_81 rfl (by decide) (by decide) (g_pu_i (by
      simp only [sKind, sNeed]
      rw [← p1, ← p3]
      have q2 := p2b.2.2
      rw [← p1] at q2
      repeat (first | omega | split)) _ _ _ _ _ _)
            · refine g_iconst dX13_errorKind_76 ?_
              refine g_goto (tgt := 81) dX13_errorKind_77 (by decide) ?_
              exact g_iret dX13_errorKind_81 rfl (by decide) (by decide) (g_pu_i (by
      simp only [sKind, sNeed]
      rw [← p1, ← p3]
      have q2 := p2b.2.2
      rw [← p1] at q2
      repeat (first | omega | split)) _ _ _ _ _ _)
          · refine g_iconst dX13_errorKind_65 ?_
            refine g_goto (tgt := 81) dX13_errorKind_66 (by decide) ?_
            exact g_iret dX13_errorKind_81 rfl (by decide) (by decide) (g_pu_i (by
      simp only [sKind, sNeed]
      rw [← p1, ← p3]
      have q2 := p2b.2.2
      rw [← p1] at q2
      repeat (first | omega | split)) _ _ _ _ _ _)
        · refine g_iconst dX13_errorKind_53 ?_
          refine g_goto (tgt := 81) dX13_errorKind_54 (by decide) ?_
          exact g_iret dX13_errorKind_81 rfl (by decide) (by decide) (g_pu_i (by
      simp only [sKind, sNeed]
      rw [← p1, ← p3]
      have q2 := p2b.2.2
      rw [← p1] at q2
      repeat (first | omega | split)) _ _ _ _ _ _)
    · refine g_iconst dX13_errorKind_16 ?_
      refine g_goto (tgt := 45) dX13_errorKind_17 (by decide) ?_
      refine g_istore_n dX13_errorKind_45 rfl (by decide) ?_
      refine g_aload_n dX13_errorKind_46 rfl rfl ?_
      refine g_get_Model_word dX13_errorKind_47 mw_1162 (by assumption) ?_
      refine g_if_ne (tgt := 57) dX13_errorKind_50 (by decide) (by omega) (fun c_50 => ?_) (fun c_50 => ?_)
      · refine g_aload_n dX13_errorKind_57 rfl rfl ?_
        refine g_get_Model_arguments dX13_errorKind_58 mw_1163 (by assumption) ?_
        refine g_iload_n dX13_errorKind_61 rfl rfl ?_
        refine g_icmp_eq (tgt := 69) dX13_errorKind_62 (by decide) (by omega) (by omega) (fun c_62 => ?_) (fun c_62 => ?_)
        · refine g_aload_n dX13_errorKind_69 rfl rfl ?_
          refine g_get_Model_areNumbers dX13_errorKind_70 mw_1164 (by assumption) ?_
          refine g_if_eq (tgt := 80) dX13_errorKind_73 (by decide) (by omega) (fun c_73 => ?_) (fun c_73 => ?_)
          · refine g_iconst dX13_errorKind_80 ?_
            exact g_iret dX13_errorKind_81 rfl (by decide) (by decide) (g_pu_i (by
      simp only [sKind, sNeed]
      rw [← p1, ← p3]
      have q2 := p2b.2.2
      rw [← p1] at q2
      repeat (first | omega | split)) _ _ _ _ _ _)
          · refine g_iconst dX13_errorKind_76 ?_
            refine g_goto (tgt := 81) dX13_errorKind_77 (by decide) ?_
            exact g_iret dX13_errorKind_81 rfl (by decide) (by decide) (g_pu_i (by
      simp only [sKind, sNeed]
      rw [← p1, ← p3]
      have q2 := p2b.2.2
      rw [← p1] at q2
      repeat (first | omega | split)) _ _ _ _ _ _)
        · refine g_iconst dX13_errorKind_65 ?_
          refine g_goto (tgt := 81) dX13_errorKind_66 (by decide) ?_
          exact g_iret dX13_errorKind_81 rfl (by decide) (by decide) (g_pu_i (by
      simp only [sKind, sNeed]
      rw [← p1, ← p3]
      have q2 := p2b.2.2
      rw [← p1] at q2
      repeat (first | omega | split)) _ _ _ _ _ _)
      · refine g_iconst dX13_errorKind_53 ?_
        refine g_goto (tgt := 81) dX13_errorKind_54 (by decide) ?_
        exact g_iret dX13_errorKind_81 rfl (by decide) (by decide) (g_pu_i (by
      simp only [sKind, sNeed]
      rw [← p1, ← p3]
      have q2 := p2b.2.2
      rw [← p1] at q2
      repeat (first | omega | split)) _ _ _ _ _ _)
theorem sErr_out {T : Int → Int} {n k m : Int} {f : Nat} (h : ¬ k ≤ n) : sErr T n f k m = -1 := by
  cases f with
  | zero => rfl
  | succ f => simp only [sErr, if_neg h]
theorem sErr_bad {T : Int → Int} {n k m : Int} {f : Nat} (h0 : 0 < f) (h : k ≤ n) (h2 : 0 < sKind (sCmd T n k)) : sErr T n f k m = 10 * m + sKind (sCmd T n k) := by
  obtain ⟨q, rfl⟩ : ∃ q, f = q + 1 := ⟨f - 1, by omega⟩
  simp only [sErr, if_pos h, if_pos h2]
theorem sErr_step {T : Int → Int} {n k m : Int} {f : Nat} (h0 : 0 < f) (h : k ≤ n) (h2 : ¬ 0 < sKind (sCmd T n k)) : sErr T n f k m = sErr T n (f - 1) (sEnd T n k + 1) (m + 1) := by
  obtain ⟨q, rfl⟩ : ∃ q, f = q + 1 := ⟨f - 1, by omega⟩
  simp only [sErr, if_pos h, if_neg h2, Nat.add_sub_cancel]
set_option maxHeartbeats 1000000 in
set_option maxRecDepth 100000 in
theorem lp_M_error {Y : gEnv} {X : gCtx} {K N : Nat → Nat} {I : Nat → Nat → Int} {A : Nat → Int → Int} {R : Nat → Nat → Option Nat} {Q : Nat → Int → Option Nat} {I0 : Nat → Nat → Int} {A0 : Nat → Int → Int} {x w sv tx ag : Nat} (hM : mS K N R x w sv tx ag) (hT : ∀ j, 0 ≤ j → j < 100 → 0 ≤ A0 tx j ∧ A0 tx j ≤ 126) (hn5 : 0 ≤ I0 205 x ∧ I0 205 x ≤ 100) : ∀ (f m : Nat) (k s : Int), m < f → 0 ≤ k ∧ k ≤ 101 → I0 205 x + 1 - k ≤ m → 0 ≤ s → mPf I0 I A0 A x ag → gJ Y X yX13_error cX13_error 3 (some .int) ({ frames := 3, cells := 0, slots := 0, locals := 74 } : Room) (g_wr K N R Q (fun v I' A' => v = some (vi (sErr (A0 tx) (I0 205 x) m k s)) ∧ mPf I0 I' A0 A' x ag)) gno 0 0 4 [(0, .ref x), (1, vi s), (2, vi k)] [] K N I A R Q := by
  obtain ⟨hKx, hRw, hRs, hRt, hRa, hKw, hNw, hKs, hNs, hKt, hNt, hKa, hNa, hta⟩ := id hM
  intro f
  induction f generalizing I A with
  | zero => intro m k s h; omega
  | succ f ih =>
  intro m k s hf hk hm hs hF
  have hta2 : A tx = A0 tx := hF.2 tx hta
  have hl5 : I 205 x = I0 205 x := hF.1 205 x (by omega)
  refine g_iload_n dX13_error_4 rfl rfl ?_
  refine g_aload_n dX13_error_5 rfl rfl ?_
  refine g_get_Model_length dX13_error_6 mw_1160 (by assumption) ?_
  rw [hl5]
  refine g_icmp_gt (tgt := 43) dX13_error_9 (by decide) (by omega) (by omega) (fun c_9 => ?_) (fun c_9 => ?_)
  · refine g_iconst dX13_error_43 ?_
    exact g_iret dX13_error_44 rfl (by decide) (by decide) ⟨rfl, rfl, rfl, rfl, by rw [sErr_out (by omega)], hF⟩
  · have hci := sCmd_inv (T := A0 tx) (n := I0 205 x) (b := k) (by omega)
    have hkr := sKind_range (sCmd (A0 tx) (I0 205 x) k)
    have her := sEnd_range (T := A0 tx) (n := I0 205 x) (b := k) (by omega)
    refine g_aload_n dX13_error_12 rfl rfl ?_
    refine g_iload_n dX13_error_13 rfl rfl ?_
    refine g_callVw (i := 10) rfl (gK0 (by assumption)) (g_at10 (by assumption)) (k_M_read Y hM (fun j a b => by rw [hta2]; exact hT j a b) (by rw [hl5]; exact hn5) k (by omega)) u_X13_read mw_1483 dX13_error_14 rfl rfl ⟨Nat.le_of_ble_eq_true rfl, Nat.le_of_ble_eq_true rfl⟩ ⟨Nat.le_of_ble_eq_true rfl, Nat.le_of_ble_eq_true rfl⟩ (Nat.le_of_ble_eq_true rfl) (fun v14 I14 A14 h14 => ?_)
    obtain ⟨rfl, f14, p14⟩ := h14
    rw [hta2, hl5] at p14
    rw [hta2, hl5]
    have hF2 := hF.trans f14
    have e14 := sEnd_range (T := A0 tx) (n := I0 205 x) (b := k) (by omega)
    refine g_iconst dX13_error_17 ?_
    refine g_iadd dX13_error_18 ?_
    refine g_istore_n dX13_error_19 rfl (by decide) ?_
    refine g_aload_n dX13_error_20 rfl rfl ?_
    refine g_callVp (i := 10) rfl (gK0 (by assumption)) (g_at10 (by assumption)) (k_M_errorKind Y hM p14 hci.1 (by omega)) u_X13_errorKind mw_1501 dX13_error_21 rfl rfl ⟨Nat.le_of_ble_eq_true rfl, Nat.le_of_ble_eq_true rfl⟩ ⟨Nat.le_of_ble_eq_true rfl, Nat.le_of_ble_eq_true rfl⟩ (Nat.le_of_ble_eq_true rfl) ?_
    refine g_if_le (tgt := 37) dX13_error_24 (by decide) (by omega) (fun c_24 => ?_) (fun c_24 => ?_)
    · refine g_iinc dX13_error_37 rfl (by decide) ?_
      refine g_goto (tgt := 4) dX13_error_40 (by decide) ?_
      rw [sErr_step (by omega) (by omega) (by omega)]
      exact g_locs (by exact ⟨rfl, rfl, rfl, trivial⟩) (ih (m - 1) (sEnd (A0 tx) (I0 205 x) k + 1) (s + 1) (by omega) (by omega) (by omega) (by omega) hF2)
    · refine g_bipush dX13_error_27 (by decide) ?_
      refine g_iload_n dX13_error_29 rfl rfl ?_
      refine g_imul dX13_error_30 ?_
      refine g_aload_n dX13_error_31 rfl rfl ?_
      refine g_callVp (i := 10) rfl (gK0 (by assumption)) (g_at10 (by assumption)) (k_M_errorKind Y hM p14 hci.1 (by omega)) u_X13_errorKind mw_1501 dX13_error_32 rfl rfl ⟨Nat.le_of_ble_eq_true rfl, Nat.le_of_ble_eq_true rfl⟩ ⟨Nat.le_of_ble_eq_true rfl, Nat.le_of_ble_eq_true rfl⟩ (Nat.le_of_ble_eq_true rfl) ?_
      refine g_iadd dX13_error_35 ?_
      exact g_iret dX13_error_36 rfl (by decide) (by decide) ⟨rfl, rfl, rfl, rfl, by rw [sErr_bad (by omega) (by omega) (by omega)], hF2⟩
set_option maxHeartbeats 1000000 in
set_option maxRecDepth 100000 in
theorem k_M_error (Y : gEnv) {K N : Nat → Nat} {I : Nat → Nat → Int} {A : Nat → Int → Int} {R : Nat → Nat → Option Nat} {Q : Nat → Int → Option Nat} {x w sv tx ag : Nat} (hM : mS K N R x w sv tx ag) (hT : ∀ j, 0 ≤ j → j < 100 → 0 ≤ A tx j ∧ A tx j ≤ 126) (hn5 : 0 ≤ I 205 x ∧ I 205 x ≤ 100) : gC Y yX13_error cX13_error 3 (some .int) ({ frames := 3, cells := 0, slots := 0, locals := 74 } : Room) [.ref x] K N I A R Q (g_wr K N R Q (fun v I' A' => v = some (vi (sErr (A tx) (I 205 x) 101 0 0)) ∧ mPf I I' A A' x ag)) gno := by
  refine gC_of (by decide) (Nat.le_of_ble_eq_true rfl) (fun X => ?_)
  refine g_iconst dX13_error_0 ?_
  refine g_istore_n dX13_error_1 rfl (by decide) ?_
  refine g_iconst dX13_error_2 ?_
  refine g_istore_n dX13_error_3 rfl (by decide) ?_
  exact g_locs (by exact ⟨rfl, rfl, rfl, trivial⟩) (lp_M_error (I0 := I) (A0 := A) hM hT hn5 _ 101 0 0 (Nat.lt_succ_self _) (by omega) (by omega) (by omega) mPf.rfl)
set_option maxHeartbeats 1000000 in
set_option maxRecDepth 100000 in
theorem k_M_firstError (Y : gEnv) {K N : Nat → Nat} {I : Nat → Nat → Int} {A : Nat → Int → Int} {R : Nat → Nat → Option Nat} {Q : Nat → Int → Option Nat} {x w sv tx ag : Nat} (hM : mS K N R x w sv tx ag) (hT : ∀ j, 0 ≤ j → j < 100 → 0 ≤ A tx j ∧ A tx j ≤ 126) (hn5 : 0 ≤ I 205 x ∧ I 205 x ≤ 100) : gC Y yX13_firstError cX13_firstError 1 (some .int) ({ frames := 4, cells := 0, slots := 0, locals := 96 } : Room) [.ref x] K N I A R Q (g_wr K N R Q (fun v I' A' => v = some (vi (sErr (A tx) (I 205 x) 101 0 0)) ∧ mPf (g_up I 206 x 0) I' A A' x ag)) gno := by
  refine gC_of (by decide) (Nat.le_of_ble_eq_true rfl) (fun X => ?_)
  obtain ⟨hKx, hRw, hRs, hRt, hRa, hKw, hNw, hKs, hNs, hKt, hNt, hKa, hNa, hta⟩ := id hM
  refine g_aload_n dX13_firstError_0 rfl rfl ?_
  refine g_iconst dX13_firstError_1 ?_
  refine g_put_Model_thrown dX13_firstError_2 mw_1161 (by assumption) (fun I2 hI2 => ?_)
  refine g_aload_n dX13_firstError_5 rfl rfl ?_
  have e5 : I2 205 x = I 205 x := by rw [hI2]; simp [g_up]
  refine g_callVw (i := 10) rfl (gK0 (by assumption)) (g_at10 (by assumption)) (k_M_error Y hM hT (by rw [e5]; exact hn5)) u_X13_error mw_1479 dX13_firstError_6 rfl rfl ⟨Nat.le_of_ble_eq_true rfl, Nat.le_of_ble_eq_true rfl⟩ ⟨Nat.le_of_ble_eq_true rfl, Nat.le_of_ble_eq_true rfl⟩ (Nat.le_of_ble_eq_true rfl) (fun v6 I6 A6 h6 => ?_)
  obtain ⟨rfl, f6⟩ := h6
  rw [e5]
  exact g_iret dX13_firstError_9 rfl (by decide) (by decide) ⟨rfl, rfl, rfl, rfl, rfl, by rw [← hI2]; exact f6⟩
theorem sNeed_ok {S : sSt} (h : sKind S = 0) : S.1 ≠ 0 ∧ S.2.1 - 1 = sNeed S.1 ∧ S.2.2.1 ≠ 0 := by
  simp only [sKind] at h
  by_cases e1 : S.1 = 0
  · rw [if_pos e1] at h; omega
  · rw [if_neg e1] at h
    by_cases e2 : S.2.1 - 1 ≠ sNeed S.1
    · rw [if_pos e2] at h; omega
    · rw [if_neg e2] at h
      by_cases e3 : S.2.2.1 = 0
      · rw [if_pos e3] at h; omega
      · exact ⟨e1, by omega, e3⟩
set_option maxHeartbeats 1000000 in
set_option maxRecDepth 100000 in
theorem k_M_isDone1 (Y : gEnv) {K N : Nat → Nat} {I : Nat → Nat → Int} {A : Nat → Int → Int} {R : Nat → Nat → Option Nat} {Q : Nat → Int → Option Nat} {x w sv tx ag : Nat} (hM : mS K N R x w sv tx ag) {S : sSt} (hP : mPr I A x ag S) (hS : sInv S) (hk : sKind S = 0) (h0 : iN (A w)) (hm : mT (A w)) (hz : iZ (A w)) (hw : S.1 = 1) : gC Y yX13_isDone cX13_isDone 7 (some .boolean) ({ frames := 3, cells := 0, slots := 0, locals := 83 } : Room) [.ref x] K N I A R Q (g_wr K N R Q (fun v I' A' => v = some (vi (if 0 < sCode (A w) S then 0 else 1)) ∧ I' = I ∧ A' = (if 0 < sCode (A w) S then A else g_rw A w (sApp (A w) S)))) gno := by
  refine gC_of (by decide) (Nat.le_of_ble_eq_true rfl) (fun X => ?_)
  obtain ⟨hKx, hRw, hRs, hRt, hRa, hKw, hNw, hKs, hNs, hKt, hNt, hKa, hNa, hta⟩ := id hM
  obtain ⟨p1, p2, p3, p4, p5, p6⟩ := hP
  obtain ⟨s1, s2, s3, s4, s5, s6⟩ := hS
  obtain ⟨k1, k2, k3⟩ := sNeed_ok hk
  have h1 : S.2.2.1 = 1 := by omega
  have k5 : sNeed S.1 = 4 := by rw [hw]; rfl
  have k4 : S.2.1 = 4 + 1 := by omega
  have w7 : I 207 x = 1 := by rw [p1]; exact hw
  have hB : mB (A w) := hm.mB
  have n14 : 0 ≤ A w 1614 ∧ A w 1614 ≤ 160 := ⟨h0.2.2.2.2.1.1, h0.2.2.2.2.1.2.1⟩
  have n15 : 0 ≤ A w 1615 ∧ A w 1615 ≤ 40 := ⟨h0.2.2.2.2.2.1.1, h0.2.2.2.2.2.1.2.1⟩
  have hf0 := h0.2.2.2.2.2.2.1.2.2.2.2.2.1
  have nS := h0.2.2.2.2.2.2.1
  have g0 := s6 h1 0 (by omega) (by omega)
  have a0 : A ag 0 = S.2.2.2 0 := p4 0 (by omega) (by omega) (by omega)
  have g1 := s6 h1 1 (by omega) (by omega)
  have a1 : A ag 1 = S.2.2.2 1 := p4 1 (by omega) (by omega) (by omega)
  have g2 := s6 h1 2 (by omega) (by omega)
  have a2 : A ag 2 = S.2.2.2 2 := p4 2 (by omega) (by omega) (by omega)
  have g3 := s6 h1 3 (by omega) (by omega)
  have a3 : A ag 3 = S.2.2.2 3 := p4 3 (by omega) (by omega) (by omega)
  have eC : sCode (A w) S = sFireT (A w) (S.2.2.2 0) (S.2.2.2 1) (S.2.2.2 2) (S.2.2.2 3) := (by simp only [sCode]; first | (rw [if_pos hw]; done))
  have eA : sApp (A w) S = sFire (A w) (S.2.2.2 0) (S.2.2.2 1) (S.2.2.2 2) (S.2.2.2 3) := by simp only [sApp]; rw [if_pos hw]
  have hct := sFireT_range (A w) (S.2.2.2 0) (S.2.2.2 1) (S.2.2.2 2) (S.2.2.2 3)
  rw [eC, eA]
  refine g_aload_n dX13_isDone_0 rfl rfl ?_
  refine g_get_Model_argument dX13_isDone_1 mw_1158 (by assumption) (by assumption) ?_
  refine g_iconst dX13_isDone_4 ?_
  refine g_iaload dX13_isDone_5 (by assumption) (by omega) (by omega) ?_
  rw [a0]
  refine g_istore_n dX13_isDone_6 rfl (by decide) ?_
  refine g_aload_n dX13_isDone_7 rfl rfl ?_
  refine g_get_Model_argument dX13_isDone_8 mw_1158 (by assumption) (by assumption) ?_
  refine g_iconst dX13_isDone_11 ?_
  refine g_iaload dX13_isDone_12 (by assumption) (by omega) (by omega) ?_
  rw [a1]
  refine g_istore_n dX13_isDone_13 rfl (by decide) ?_
  refine g_aload_n dX13_isDone_14 rfl rfl ?_
  refine g_get_Model_argument dX13_isDone_15 mw_1158 (by assumption) (by assumption) ?_
  refine g_iconst dX13_isDone_18 ?_
  refine g_iaload dX13_isDone_19 (by assumption) (by omega) (by omega) ?_
  rw [a2]
  refine g_istore_n dX13_isDone_20 rfl (by decide) ?_
  refine g_aload_n dX13_isDone_21 rfl rfl ?_
  refine g_get_Model_argument dX13_isDone_22 mw_1158 (by assumption) (by assumption) ?_
  refine g_iconst dX13_isDone_25 ?_
  refine g_iaload dX13_isDone_26 (by assumption) (by omega) (by omega) ?_
  rw [a3]
  refine g_istore dX13_isDone_27 (by decide) ?_
  refine g_aload_n dX13_isDone_29 rfl rfl ?_
  refine g_get_Model_word dX13_isDone_30 mw_1162 (by assumption) ?_
  refine g_iconst dX13_isDone_33 ?_
  refine g_icmp_ne (tgt := 49) dX13_isDone_34 (by decide) (by omega) (by omega) (fun c_34 => ?_) (fun c_34 => ?_)
  · exfalso; omega
  · refine g_aload_n dX13_isDone_37 rfl rfl ?_
    refine g_iload_n dX13_isDone_38 rfl rfl ?_
    refine g_iload_n dX13_isDone_39 rfl rfl ?_
    refine g_iload_n dX13_isDone_40 rfl rfl ?_
    refine g_iload dX13_isDone_41 rfl ?_
    refine g_callVp (i := 10) rfl (gK0 (by assumption)) (g_at10 (by assumption)) (k_M_fireThrows Y hM hB _ _ _ _ (by omega) (by omega) (by omega) (by omega)) u_X13_fireThrows mw_1252 dX13_isDone_43 rfl rfl ⟨Nat.le_of_ble_eq_true rfl, Nat.le_of_ble_eq_true rfl⟩ ⟨Nat.le_of_ble_eq_true rfl, Nat.le_of_ble_eq_true rfl⟩ (Nat.le_of_ble_eq_true rfl) ?_
    generalize hcode : sFireT (A w) (S.2.2.2 0) (S.2.2.2 1) (S.2.2.2 2) (S.2.2.2 3) = cd at hct ⊢
    refine g_goto (tgt := 104) dX13_isDone_46 (by decide) ?_
    refine g_istore dX13_isDone_104 (by decide) ?_
    refine g_iload dX13_isDone_106 rfl ?_
    refine g_if_le (tgt := 113) dX13_isDone_108 (by decide) (by omega) (fun c_108 => ?_) (fun c_108 => ?_)
    · refine g_aload_n dX13_isDone_113 rfl rfl ?_
      refine g_get_Model_word dX13_isDone_114 mw_1162 (by assumption) ?_
      refine g_iconst dX13_isDone_117 ?_
      refine g_icmp_ne (tgt := 133) dX13_isDone_118 (by decide) (by omega) (by omega) (fun c_118 => ?_) (fun c_118 => ?_)
      · exfalso; omega
      · refine g_aload_n dX13_isDone_121 rfl rfl ?_
        refine g_iload_n dX13_isDone_122 rfl rfl ?_
        refine g_iload_n dX13_isDone_123 rfl rfl ?_
        refine g_iload_n dX13_isDone_124 rfl rfl ?_
        refine g_iload dX13_isDone_125 rfl ?_
        obtain ⟨hc0, hc1, hok⟩ := hct
        have hok := hok (by omega)
        refine g_callVw (i := 10) rfl (gK0 (by assumption)) (g_at10 (by assumption)) (k_M_doFire Y hM h0 _ _ _ _ (by omega) (by omega) (by omega) (by omega) (by omega) hm) u_X13_doFire mw_1259 dX13_isDone_127 rfl rfl ⟨Nat.le_of_ble_eq_true rfl, Nat.le_of_ble_eq_true rfl⟩ ⟨Nat.le_of_ble_eq_true rfl, Nat.le_of_ble_eq_true rfl⟩ (Nat.le_of_ble_eq_true rfl) (fun v127 I127 A127 h127 => ?_)
        obtain ⟨rfl, rfl, h127⟩ := h127
        refine g_goto (tgt := 191) dX13_isDone_130 (by decide) ?_
        refine g_istore dX13_isDone_191 (by decide) ?_
        refine g_iconst dX13_isDone_193 ?_
        exact g_zret dX13_isDone_194 rfl (by omega) (by decide) (by decide) ⟨rfl, rfl, rfl, rfl, by rw [if_neg (by omega)], rfl, by rw [if_neg (by omega), h127]⟩
    · refine g_iconst dX13_isDone_111 ?_
      exact g_zret dX13_isDone_112 rfl (by omega) (by decide) (by decide) ⟨rfl, rfl, rfl, rfl, by rw [if_pos (by omega)], rfl, by rw [if_pos (by omega)]⟩
set_option maxHeartbeats 1000000 in
set_option maxRecDepth 100000 in
theorem k_M_isDone2 (Y : gEnv) {K N : Nat → Nat} {I : Nat → Nat → Int} {A : Nat → Int → Int} {R : Nat → Nat → Option Nat} {Q : Nat → Int → Option Nat} {x w sv tx ag : Nat} (hM : mS K N R x w sv tx ag) {S : sSt} (hP : mPr I A x ag S) (hS : sInv S) (hk : sKind S = 0) (h0 : iN (A w)) (hm : mT (A w)) (hz : iZ (A w)) (hw : S.1 = 2) : gC Y yX13_isDone cX13_isDone 7 (some .boolean) ({ frames := 3, cells := 0, slots := 0, locals := 83 } : Room) [.ref x] K N I A R Q (g_wr K N R Q (fun v I' A' => v = some (vi (if 0 < sCode (A w) S then 0 else 1)) ∧ I' = I ∧ A' = (if 0 < sCode (A w) S then A else g_rw A w (sApp (A w) S)))) gno := by
  refine gC_of (by decide) (Nat.le_of_ble_eq_true rfl) (fun X => ?_)
  obtain ⟨hKx, hRw, hRs, hRt, hRa, hKw, hNw, hKs, hNs, hKt, hNt, hKa, hNa, hta⟩ := id hM
  obtain ⟨p1, p2, p3, p4, p5, p6⟩ := hP
  obtain ⟨s1, s2, s3, s4, s5, s6⟩ := hS
  obtain ⟨k1, k2, k3⟩ := sNeed_ok hk
  have h1 : S.2.2.1 = 1 := by omega
  have k5 : sNeed S.1 = 1 := by rw [hw]; rfl
  have k4 : S.2.1 = 1 + 1 := by omega
  have w7 : I 207 x = 2 := by rw [p1]; exact hw
  have hB : mB (A w) := hm.mB
  have n14 : 0 ≤ A w 1614 ∧ A w 1614 ≤ 160 := ⟨h0.2.2.2.2.1.1, h0.2.2.2.2.1.2.1⟩
  have n15 : 0 ≤ A w 1615 ∧ A w 1615 ≤ 40 := ⟨h0.2.2.2.2.2.1.1, h0.2.2.2.2.2.1.2.1⟩
  have hf0 := h0.2.2.2.2.2.2.1.2.2.2.2.2.1
  have nS := h0.2.2.2.2.2.2.1
  have g0 := s6 h1 0 (by omega) (by omega)
  have a0 : A ag 0 = S.2.2.2 0 := p4 0 (by omega) (by omega) (by omega)
  have eC : sCode (A w) S = sGradeT (A w) (S.2.2.2 0) := (by simp only [sCode]; first | (rw [if_neg (by omega), if_pos hw]; done))
  have eA : sApp (A w) S = sGrade (A w) (S.2.2.2 0) := by simp only [sApp]; rw [if_neg (by omega), if_pos hw]
  have hct := sGradeT_range (A w) (S.2.2.2 0)
  rw [eC, eA]
  refine g_aload_n dX13_isDone_0 rfl rfl ?_
  refine g_get_Model_argument dX13_isDone_1 mw_1158 (by assumption) (by assumption) ?_
  refine g_iconst dX13_isDone_4 ?_
  refine g_iaload dX13_isDone_5 (by assumption) (by omega) (by omega) ?_
  rw [a0]
  refine g_istore_n dX13_isDone_6 rfl (by decide) ?_
  refine g_aload_n dX13_isDone_7 rfl rfl ?_
  refine g_get_Model_argument dX13_isDone_8 mw_1158 (by assumption) (by assumption) ?_
  refine g_iconst dX13_isDone_11 ?_
  refine g_iaload dX13_isDone_12 (by assumption) (by omega) (by omega) ?_
  refine g_istore_n dX13_isDone_13 rfl (by decide) ?_
  refine g_aload_n dX13_isDone_14 rfl rfl ?_
  refine g_get_Model_argument dX13_isDone_15 mw_1158 (by assumption) (by assumption) ?_
  refine g_iconst dX13_isDone_18 ?_
  refine g_iaload dX13_isDone_19 (by assumption) (by omega) (by omega) ?_
  refine g_istore_n dX13_isDone_20 rfl (by decide) ?_
  refine g_aload_n dX13_isDone_21 rfl rfl ?_
  refine g_get_Model_argument dX13_isDone_22 mw_1158 (by assumption) (by assumption) ?_
  refine g_iconst dX13_isDone_25 ?_
  refine g_iaload dX13_isDone_26 (by assumption) (by omega) (by omega) ?_
  refine g_istore dX13_isDone_27 (by decide) ?_
  refine g_aload_n dX13_isDone_29 rfl rfl ?_
  refine g_get_Model_word dX13_isDone_30 mw_1162 (by assumption) ?_
  refine g_iconst dX13_isDone_33 ?_
  refine g_icmp_ne (tgt := 49) dX13_isDone_34 (by decide) (by omega) (by omega) (fun c_34 => ?_) (fun c_34 => ?_)
  · refine g_aload_n dX13_isDone_49 rfl rfl ?_
    refine g_get_Model_word dX13_isDone_50 mw_1162 (by assumption) ?_
    refine g_iconst dX13_isDone_53 ?_
    refine g_icmp_ne (tgt := 65) dX13_isDone_54 (by decide) (by omega) (by omega) (fun c_54 => ?_) (fun c_54 => ?_)
    · exfalso; omega
    · refine g_aload_n dX13_isDone_57 rfl rfl ?_
      refine g_iload_n dX13_isDone_58 rfl rfl ?_
      refine g_callVp (i := 10) rfl (gK0 (by assumption)) (g_at10 (by assumption)) (k_M_gradeThrows Y hM hB _ (by omega)) u_X13_gradeThrows mw_1283 dX13_isDone_59 rfl rfl ⟨Nat.le_of_ble_eq_true rfl, Nat.le_of_ble_eq_true rfl⟩ ⟨Nat.le_of_ble_eq_true rfl, Nat.le_of_ble_eq_true rfl⟩ (Nat.le_of_ble_eq_true rfl) ?_
      generalize hcode : sGradeT (A w) (S.2.2.2 0) = cd at hct ⊢
      refine g_goto (tgt := 104) dX13_isDone_62 (by decide) ?_
      refine g_istore dX13_isDone_104 (by decide) ?_
      refine g_iload dX13_isDone_106 rfl ?_
      refine g_if_le (tgt := 113) dX13_isDone_108 (by decide) (by omega) (fun c_108 => ?_) (fun c_108 => ?_)
      · refine g_aload_n dX13_isDone_113 rfl rfl ?_
        refine g_get_Model_word dX13_isDone_114 mw_1162 (by assumption) ?_
        refine g_iconst dX13_isDone_117 ?_
        refine g_icmp_ne (tgt := 133) dX13_isDone_118 (by decide) (by omega) (by omega) (fun c_118 => ?_) (fun c_118 => ?_)
        · refine g_aload_n dX13_isDone_133 rfl rfl ?_
          refine g_get_Model_word dX13_isDone_134 mw_1162 (by assumption) ?_
          refine g_iconst dX13_isDone_137 ?_
          refine g_icmp_ne (tgt := 149) dX13_isDone_138 (by decide) (by omega) (by omega) (fun c_138 => ?_) (fun c_138 => ?_)
          · exfalso; omega
          · refine g_aload_n dX13_isDone_141 rfl rfl ?_
            refine g_iload_n dX13_isDone_142 rfl rfl ?_
            obtain ⟨hc0, hc1, hok⟩ := hct
            have hok := hok (by omega)
            refine g_callVw (i := 10) rfl (gK0 (by assumption)) (g_at10 (by assumption)) (k_M_doGrade Y hM h0 _ (by omega) hm hz) u_X13_doGrade mw_1287 dX13_isDone_143 rfl rfl ⟨Nat.le_of_ble_eq_true rfl, Nat.le_of_ble_eq_true rfl⟩ ⟨Nat.le_of_ble_eq_true rfl, Nat.le_of_ble_eq_true rfl⟩ (Nat.le_of_ble_eq_true rfl) (fun v143 I143 A143 h143 => ?_)
            obtain ⟨rfl, rfl, h143⟩ := h143
            refine g_goto (tgt := 191) dX13_isDone_146 (by decide) ?_
            refine g_istore dX13_isDone_191 (by decide) ?_
            refine g_iconst dX13_isDone_193 ?_
            exact g_zret dX13_isDone_194 rfl (by omega) (by decide) (by decide) ⟨rfl, rfl, rfl, rfl, by rw [if_neg (by omega)], rfl, by rw [if_neg (by omega), h143]⟩
        · exfalso; omega
      · refine g_iconst dX13_isDone_111 ?_
        exact g_zret dX13_isDone_112 rfl (by omega) (by decide) (by decide) ⟨rfl, rfl, rfl, rfl, by rw [if_pos (by omega)], rfl, by rw [if_pos (by omega)]⟩
  · exfalso; omega
set_option maxHeartbeats 1000000 in
set_option maxRecDepth 100000 in
theorem k_M_isDone3 (Y : gEnv) {K N : Nat → Nat} {I : Nat → Nat → Int} {A : Nat → Int → Int} {R : Nat → Nat → Option Nat} {Q : Nat → Int → Option Nat} {x w sv tx ag : Nat} (hM : mS K N R x w sv tx ag) {S : sSt} (hP : mPr I A x ag S) (hS : sInv S) (hk : sKind S = 0) (h0 : iN (A w)) (hm : mT (A w)) (hz : iZ (A w)) (hw : S.1 = 3) : gC Y yX13_isDone cX13_isDone 7 (some .boolean) ({ frames := 3, cells := 0, slots := 0, locals := 83 } : Room) [.ref x] K N I A R Q (g_wr K N R Q (fun v I' A' => v = some (vi (if 0 < sCode (A w) S then 0 else 1)) ∧ I' = I ∧ A' = (if 0 < sCode (A w) S then A else g_rw A w (sApp (A w) S)))) gno := by
  refine gC_of (by decide) (Nat.le_of_ble_eq_true rfl) (fun X => ?_)
  obtain ⟨hKx, hRw, hRs, hRt, hRa, hKw, hNw, hKs, hNs, hKt, hNt, hKa, hNa, hta⟩ := id hM
  obtain ⟨p1, p2, p3, p4, p5, p6⟩ := hP
  obtain ⟨s1, s2, s3, s4, s5, s6⟩ := hS
  obtain ⟨k1, k2, k3⟩ := sNeed_ok hk
  have h1 : S.2.2.1 = 1 := by omega
  have k5 : sNeed S.1 = 0 := by rw [hw]; rfl
  have k4 : S.2.1 = 0 + 1 := by omega
  have w7 : I 207 x = 3 := by rw [p1]; exact hw
  have hB : mB (A w) := hm.mB
  have n14 : 0 ≤ A w 1614 ∧ A w 1614 ≤ 160 := ⟨h0.2.2.2.2.1.1, h0.2.2.2.2.1.2.1⟩
  have n15 : 0 ≤ A w 1615 ∧ A w 1615 ≤ 40 := ⟨h0.2.2.2.2.2.1.1, h0.2.2.2.2.2.1.2.1⟩
  have hf0 := h0.2.2.2.2.2.2.1.2.2.2.2.2.1
  have nS := h0.2.2.2.2.2.2.1
  
  have eC : sCode (A w) S = 0 := (by simp only [sCode]; first | (rw [if_neg (by omega), if_neg (by omega), if_neg (by omega), if_neg (by omega)]; done))
  have eA : sApp (A w) S = sPack (A w) := by simp only [sApp]; rw [if_neg (by omega), if_neg (by omega), if_pos hw]
  rw [eC, eA]
  refine g_aload_n dX13_isDone_0 rfl rfl ?_
  refine g_get_Model_argument dX13_isDone_1 mw_1158 (by assumption) (by assumption) ?_
  refine g_iconst dX13_isDone_4 ?_
  refine g_iaload dX13_isDone_5 (by assumption) (by omega) (by omega) ?_
  refine g_istore_n dX13_isDone_6 rfl (by decide) ?_
  refine g_aload_n dX13_isDone_7 rfl rfl ?_
  refine g_get_Model_argument dX13_isDone_8 mw_1158 (by assumption) (by assumption) ?_
  refine g_iconst dX13_isDone_11 ?_
  refine g_iaload dX13_isDone_12 (by assumption) (by omega) (by omega) ?_
  refine g_istore_n dX13_isDone_13 rfl (by decide) ?_
  refine g_aload_n dX13_isDone_14 rfl rfl ?_
  refine g_get_Model_argument dX13_isDone_15 mw_1158 (by assumption) (by assumption) ?_
  refine g_iconst dX13_isDone_18 ?_
  refine g_iaload dX13_isDone_19 (by assumption) (by omega) (by omega) ?_
  refine g_istore_n dX13_isDone_20 rfl (by decide) ?_
  refine g_aload_n dX13_isDone_21 rfl rfl ?_
  refine g_get_Model_argument dX13_isDone_22 mw_1158 (by assumption) (by assumption) ?_
  refine g_iconst dX13_isDone_25 ?_
  refine g_iaload dX13_isDone_26 (by assumption) (by omega) (by omega) ?_
  refine g_istore dX13_isDone_27 (by decide) ?_
  refine g_aload_n dX13_isDone_29 rfl rfl ?_
  refine g_get_Model_word dX13_isDone_30 mw_1162 (by assumption) ?_
  refine g_iconst dX13_isDone_33 ?_
  refine g_icmp_ne (tgt := 49) dX13_isDone_34 (by decide) (by omega) (by omega) (fun c_34 => ?_) (fun c_34 => ?_)
  · refine g_aload_n dX13_isDone_49 rfl rfl ?_
    refine g_get_Model_word dX13_isDone_50 mw_1162 (by assumption) ?_
    refine g_iconst dX13_isDone_53 ?_
    refine g_icmp_ne (tgt := 65) dX13_isDone_54 (by decide) (by omega) (by omega) (fun c_54 => ?_) (fun c_54 => ?_)
    · refine g_aload_n dX13_isDone_65 rfl rfl ?_
      refine g_get_Model_word dX13_isDone_66 mw_1162 (by assumption) ?_
      refine g_iconst dX13_isDone_69 ?_
      refine g_icmp_ne (tgt := 83) dX13_isDone_70 (by decide) (by omega) (by omega) (fun c_70 => ?_) (fun c_70 => ?_)
      · refine g_aload_n dX13_isDone_83 rfl rfl ?_
        refine g_get_Model_word dX13_isDone_84 mw_1162 (by assumption) ?_
        refine g_iconst dX13_isDone_87 ?_
        refine g_icmp_ne (tgt := 103) dX13_isDone_88 (by decide) (by omega) (by omega) (fun c_88 => ?_) (fun c_88 => ?_)
        · refine g_iconst dX13_isDone_103 ?_
          refine g_istore dX13_isDone_104 (by decide) ?_
          refine g_iload dX13_isDone_106 rfl ?_
          refine g_if_le (tgt := 113) dX13_isDone_108 (by decide) (by omega) (fun c_108 => ?_) (fun c_108 => ?_)
          · refine g_aload_n dX13_isDone_113 rfl rfl ?_
            refine g_get_Model_word dX13_isDone_114 mw_1162 (by assumption) ?_
            refine g_iconst dX13_isDone_117 ?_
            refine g_icmp_ne (tgt := 133) dX13_isDone_118 (by decide) (by omega) (by omega) (fun c_118 => ?_) (fun c_118 => ?_)
            · refine g_aload_n dX13_isDone_133 rfl rfl ?_
              refine g_get_Model_word dX13_isDone_134 mw_1162 (by assumption) ?_
              refine g_iconst dX13_isDone_137 ?_
              refine g_icmp_ne (tgt := 149) dX13_isDone_138 (by decide) (by omega) (by omega) (fun c_138 => ?_) (fun c_138 => ?_)
              · refine g_aload_n dX13_isDone_149 rfl rfl ?_
                refine g_get_Model_word dX13_isDone_150 mw_1162 (by assumption) ?_
                refine g_iconst dX13_isDone_153 ?_
                refine g_icmp_ne (tgt := 164) dX13_isDone_154 (by decide) (by omega) (by omega) (fun c_154 => ?_) (fun c_154 => ?_)
                · exfalso; omega
                · refine g_aload_n dX13_isDone_157 rfl rfl ?_
                  skip
                  refine g_callVw (i := 10) rfl (gK0 (by assumption)) (g_at10 (by assumption)) (k_M_doPack Y hM hB n14 ⟨nS.2.2.1, nS.2.2.2.1⟩) u_X13_doPack mw_1308 dX13_isDone_158 rfl rfl ⟨Nat.le_of_ble_eq_true rfl, Nat.le_of_ble_eq_true rfl⟩ ⟨Nat.le_of_ble_eq_true rfl, Nat.le_of_ble_eq_true rfl⟩ (Nat.le_of_ble_eq_true rfl) (fun v158 I158 A158 h158 => ?_)
                  obtain ⟨rfl, rfl, h158⟩ := h158
                  refine g_goto (tgt := 191) dX13_isDone_161 (by decide) ?_
                  refine g_istore dX13_isDone_191 (by decide) ?_
                  refine g_iconst dX13_isDone_193 ?_
                  exact g_zret dX13_isDone_194 rfl (by omega) (by decide) (by decide) ⟨rfl, rfl, rfl, rfl, by rw [if_neg (by omega)], rfl, by rw [if_neg (by omega), h158]⟩
              · exfalso; omega
            · exfalso; omega
          · exfalso; omega
        · exfalso; omega
      · exfalso; omega
    · exfalso; omega
  · exfalso; omega
set_option maxHeartbeats 1000000 in
set_option maxRecDepth 100000 in
theorem k_M_isDone4 (Y : gEnv) {K N : Nat → Nat} {I : Nat → Nat → Int} {A : Nat → Int → Int} {R : Nat → Nat → Option Nat} {Q : Nat → Int → Option Nat} {x w sv tx ag : Nat} (hM : mS K N R x w sv tx ag) {S : sSt} (hP : mPr I A x ag S) (hS : sInv S) (hk : sKind S = 0) (h0 : iN (A w)) (hm : mT (A w)) (hz : iZ (A w)) (hw : S.1 = 4) : gC Y yX13_isDone cX13_isDone 7 (some .boolean) ({ frames := 3, cells := 0, slots := 0, locals := 83 } : Room) [.ref x] K N I A R Q (g_wr K N R Q (fun v I' A' => v = some (vi (if 0 < sCode (A w) S then 0 else 1)) ∧ I' = I ∧ A' = (if 0 < sCode (A w) S then A else g_rw A w (sApp (A w) S)))) gno := by
  refine gC_of (by decide) (Nat.le_of_ble_eq_true rfl) (fun X => ?_)
  obtain ⟨hKx, hRw, hRs, hRt, hRa, hKw, hNw, hKs, hNs, hKt, hNt, hKa, hNa, hta⟩ := id hM
  obtain ⟨p1, p2, p3, p4, p5, p6⟩ := hP
  obtain ⟨s1, s2, s3, s4, s5, s6⟩ := hS
  obtain ⟨k1, k2, k3⟩ := sNeed_ok hk
  have h1 : S.2.2.1 = 1 := by omega
  have k5 : sNeed S.1 = 3 := by rw [hw]; rfl
  have k4 : S.2.1 = 3 + 1 := by omega
  have w7 : I 207 x = 4 := by rw [p1]; exact hw
  have hB : mB (A w) := hm.mB
  have n14 : 0 ≤ A w 1614 ∧ A w 1614 ≤ 160 := ⟨h0.2.2.2.2.1.1, h0.2.2.2.2.1.2.1⟩
  have n15 : 0 ≤ A w 1615 ∧ A w 1615 ≤ 40 := ⟨h0.2.2.2.2.2.1.1, h0.2.2.2.2.2.1.2.1⟩
  have hf0 := h0.2.2.2.2.2.2.1.2.2.2.2.2.1
  have nS := h0.2.2.2.2.2.2.1
  have g0 := s6 h1 0 (by omega) (by omega)
  have a0 : A ag 0 = S.2.2.2 0 := p4 0 (by omega) (by omega) (by omega)
  have g1 := s6 h1 1 (by omega) (by omega)
  have a1 : A ag 1 = S.2.2.2 1 := p4 1 (by omega) (by omega) (by omega)
  have g2 := s6 h1 2 (by omega) (by omega)
  have a2 : A ag 2 = S.2.2.2 2 := p4 2 (by omega) (by omega) (by omega)
  have eC : sCode (A w) S = sDeliverT (A w) (S.2.2.2 0) (S.2.2.2 1) (S.2.2.2 2) := (by simp only [sCode]; first | (rw [if_neg (by omega), if_neg (by omega), if_pos hw]; done))
  have eA : sApp (A w) S = sDel (A w) (S.2.2.2 0) (S.2.2.2 1) (S.2.2.2 2) := by simp only [sApp]; rw [if_neg (by omega), if_neg (by omega), if_neg (by omega), if_pos hw]
  have hct := sDeliverT_range (A w) (S.2.2.2 0) (S.2.2.2 1) (S.2.2.2 2)
  rw [eC, eA]
  refine g_aload_n dX13_isDone_0 rfl rfl ?_
  refine g_get_Model_argument dX13_isDone_1 mw_1158 (by assumption) (by assumption) ?_
  refine g_iconst dX13_isDone_4 ?_
  refine g_iaload dX13_isDone_5 (by assumption) (by omega) (by omega) ?_
  rw [a0]
  refine g_istore_n dX13_isDone_6 rfl (by decide) ?_
  refine g_aload_n dX13_isDone_7 rfl rfl ?_
  refine g_get_Model_argument dX13_isDone_8 mw_1158 (by assumption) (by assumption) ?_
  refine g_iconst dX13_isDone_11 ?_
  refine g_iaload dX13_isDone_12 (by assumption) (by omega) (by omega) ?_
  rw [a1]
  refine g_istore_n dX13_isDone_13 rfl (by decide) ?_
  refine g_aload_n dX13_isDone_14 rfl rfl ?_
  refine g_get_Model_argument dX13_isDone_15 mw_1158 (by assumption) (by assumption) ?_
  refine g_iconst dX13_isDone_18 ?_
  refine g_iaload dX13_isDone_19 (by assumption) (by omega) (by omega) ?_
  rw [a2]
  refine g_istore_n dX13_isDone_20 rfl (by decide) ?_
  refine g_aload_n dX13_isDone_21 rfl rfl ?_
  refine g_get_Model_argument dX13_isDone_22 mw_1158 (by assumption) (by assumption) ?_
  refine g_iconst dX13_isDone_25 ?_
  refine g_iaload dX13_isDone_26 (by assumption) (by omega) (by omega) ?_
  refine g_istore dX13_isDone_27 (by decide) ?_
  refine g_aload_n dX13_isDone_29 rfl rfl ?_
  refine g_get_Model_word dX13_isDone_30 mw_1162 (by assumption) ?_
  refine g_iconst dX13_isDone_33 ?_
  refine g_icmp_ne (tgt := 49) dX13_isDone_34 (by decide) (by omega) (by omega) (fun c_34 => ?_) (fun c_34 => ?_)
  · refine g_aload_n dX13_isDone_49 rfl rfl ?_
    refine g_get_Model_word dX13_isDone_50 mw_1162 (by assumption) ?_
    refine g_iconst dX13_isDone_53 ?_
    refine g_icmp_ne (tgt := 65) dX13_isDone_54 (by decide) (by omega) (by omega) (fun c_54 => ?_) (fun c_54 => ?_)
    · refine g_aload_n dX13_isDone_65 rfl rfl ?_
      refine g_get_Model_word dX13_isDone_66 mw_1162 (by assumption) ?_
      refine g_iconst dX13_isDone_69 ?_
      refine g_icmp_ne (tgt := 83) dX13_isDone_70 (by decide) (by omega) (by omega) (fun c_70 => ?_) (fun c_70 => ?_)
      · exfalso; omega
      · refine g_aload_n dX13_isDone_73 rfl rfl ?_
        refine g_iload_n dX13_isDone_74 rfl rfl ?_
        refine g_iload_n dX13_isDone_75 rfl rfl ?_
        refine g_iload_n dX13_isDone_76 rfl rfl ?_
        refine g_callVp (i := 10) rfl (gK0 (by assumption)) (g_at10 (by assumption)) (k_M_deliverThrows Y hM hB (by omega) _ _ _ (by omega) (by omega) (by omega)) u_X13_deliverThrows mw_1316 dX13_isDone_77 rfl rfl ⟨Nat.le_of_ble_eq_true rfl, Nat.le_of_ble_eq_true rfl⟩ ⟨Nat.le_of_ble_eq_true rfl, Nat.le_of_ble_eq_true rfl⟩ (Nat.le_of_ble_eq_true rfl) ?_
        generalize hcode : sDeliverT (A w) (S.2.2.2 0) (S.2.2.2 1) (S.2.2.2 2) = cd at hct ⊢
        refine g_goto (tgt := 104) dX13_isDone_80 (by decide) ?_
        refine g_istore dX13_isDone_104 (by decide) ?_
        refine g_iload dX13_isDone_106 rfl ?_
        refine g_if_le (tgt := 113) dX13_isDone_108 (by decide) (by omega) (fun c_108 => ?_) (fun c_108 => ?_)
        · refine g_aload_n dX13_isDone_113 rfl rfl ?_
          refine g_get_Model_word dX13_isDone_114 mw_1162 (by assumption) ?_
          refine g_iconst dX13_isDone_117 ?_
          refine g_icmp_ne (tgt := 133) dX13_isDone_118 (by decide) (by omega) (by omega) (fun c_118 => ?_) (fun c_118 => ?_)
          · refine g_aload_n dX13_isDone_133 rfl rfl ?_
            refine g_get_Model_word dX13_isDone_134 mw_1162 (by assumption) ?_
            refine g_iconst dX13_isDone_137 ?_
            refine g_icmp_ne (tgt := 149) dX13_isDone_138 (by decide) (by omega) (by omega) (fun c_138 => ?_) (fun c_138 => ?_)
            · refine g_aload_n dX13_isDone_149 rfl rfl ?_
              refine g_get_Model_word dX13_isDone_150 mw_1162 (by assumption) ?_
              refine g_iconst dX13_isDone_153 ?_
              refine g_icmp_ne (tgt := 164) dX13_isDone_154 (by decide) (by omega) (by omega) (fun c_154 => ?_) (fun c_154 => ?_)
              · refine g_aload_n dX13_isDone_164 rfl rfl ?_
                refine g_get_Model_word dX13_isDone_165 mw_1162 (by assumption) ?_
                refine g_iconst dX13_isDone_168 ?_
                refine g_icmp_ne (tgt := 182) dX13_isDone_169 (by decide) (by omega) (by omega) (fun c_169 => ?_) (fun c_169 => ?_)
                · exfalso; omega
                · refine g_aload_n dX13_isDone_172 rfl rfl ?_
                  refine g_iload_n dX13_isDone_173 rfl rfl ?_
                  refine g_iload_n dX13_isDone_174 rfl rfl ?_
                  refine g_iload_n dX13_isDone_175 rfl rfl ?_
                  obtain ⟨hc0, hc1, hok⟩ := hct
                  have hok := hok (by omega)
                  have hlf := (sLotFor_range h0.2.2.2.2.1.1 (S.2.2.2 0) (S.2.2.2 1) (S.2.2.2 2)).resolve_left (by omega)
                  refine g_callVw (i := 10) rfl (gK0 (by assumption)) (g_at10 (by assumption)) (k_M_doDeliver Y hM h0 hm _ _ _ (by omega) (by omega) (by omega) (by omega) hlf) u_X13_doDeliver mw_1331 dX13_isDone_176 rfl rfl ⟨Nat.le_of_ble_eq_true rfl, Nat.le_of_ble_eq_true rfl⟩ ⟨Nat.le_of_ble_eq_true rfl, Nat.le_of_ble_eq_true rfl⟩ (Nat.le_of_ble_eq_true rfl) (fun v176 I176 A176 h176 => ?_)
                  obtain ⟨rfl, rfl, h176⟩ := h176
                  refine g_goto (tgt := 191) dX13_isDone_179 (by decide) ?_
                  refine g_istore dX13_isDone_191 (by decide) ?_
                  refine g_iconst dX13_isDone_193 ?_
                  exact g_zret dX13_isDone_194 rfl (by omega) (by decide) (by decide) ⟨rfl, rfl, rfl, rfl, by rw [if_neg (by omega)], rfl, by rw [if_neg (by omega), h176]⟩
              · exfalso; omega
            · exfalso; omega
          · exfalso; omega
        · refine g_iconst dX13_isDone_111 ?_
          exact g_zret dX13_isDone_112 rfl (by omega) (by decide) (by decide) ⟨rfl, rfl, rfl, rfl, by rw [if_pos (by omega)], rfl, by rw [if_pos (by omega)]⟩
    · exfalso; omega
  · exfalso; omega
set_option maxHeartbeats 1000000 in
set_option maxRecDepth 100000 in
theorem k_M_isDone5 (Y : gEnv) {K N : Nat → Nat} {I : Nat → Nat → Int} {A : Nat → Int → Int} {R : Nat → Nat → Option Nat} {Q : Nat → Int → Option Nat} {x w sv tx ag : Nat} (hM : mS K N R x w sv tx ag) {S : sSt} (hP : mPr I A x ag S) (hS : sInv S) (hk : sKind S = 0) (h0 : iN (A w)) (hm : mT (A w)) (hz : iZ (A w)) (hw : S.1 = 5) : gC Y yX13_isDone cX13_isDone 7 (some .boolean) ({ frames := 3, cells := 0, slots := 0, locals := 83 } : Room) [.ref x] K N I A R Q (g_wr K N R Q (fun v I' A' => v = some (vi (if 0 < sCode (A w) S then 0 else 1)) ∧ I' = I ∧ A' = (if 0 < sCode (A w) S then A else g_rw A w (sApp (A w) S)))) gno := by
  refine gC_of (by decide) (Nat.le_of_ble_eq_true rfl) (fun X => ?_)
  obtain ⟨hKx, hRw, hRs, hRt, hRa, hKw, hNw, hKs, hNs, hKt, hNt, hKa, hNa, hta⟩ := id hM
  obtain ⟨p1, p2, p3, p4, p5, p6⟩ := hP
  obtain ⟨s1, s2, s3, s4, s5, s6⟩ := hS
  obtain ⟨k1, k2, k3⟩ := sNeed_ok hk
  have h1 : S.2.2.1 = 1 := by omega
  have k5 : sNeed S.1 = 4 := by rw [hw]; rfl
  have k4 : S.2.1 = 4 + 1 := by omega
  have w7 : I 207 x = 5 := by rw [p1]; exact hw
  have hB : mB (A w) := hm.mB
  have n14 : 0 ≤ A w 1614 ∧ A w 1614 ≤ 160 := ⟨h0.2.2.2.2.1.1, h0.2.2.2.2.1.2.1⟩
  have n15 : 0 ≤ A w 1615 ∧ A w 1615 ≤ 40 := ⟨h0.2.2.2.2.2.1.1, h0.2.2.2.2.2.1.2.1⟩
  have hf0 := h0.2.2.2.2.2.2.1.2.2.2.2.2.1
  have nS := h0.2.2.2.2.2.2.1
  have g0 := s6 h1 0 (by omega) (by omega)
  have a0 : A ag 0 = S.2.2.2 0 := p4 0 (by omega) (by omega) (by omega)
  have g1 := s6 h1 1 (by omega) (by omega)
  have a1 : A ag 1 = S.2.2.2 1 := p4 1 (by omega) (by omega) (by omega)
  have g2 := s6 h1 2 (by omega) (by omega)
  have a2 : A ag 2 = S.2.2.2 2 := p4 2 (by omega) (by omega) (by omega)
  have g3 := s6 h1 3 (by omega) (by omega)
  have a3 : A ag 3 = S.2.2.2 3 := p4 3 (by omega) (by omega) (by omega)
  have eC : sCode (A w) S = sDropT (A w) (S.2.2.2 0) (S.2.2.2 1) (S.2.2.2 2) (S.2.2.2 3) := (by simp only [sCode]; first | (rw [if_neg (by omega), if_neg (by omega), if_neg (by omega), if_pos hw]; done))
  have eA : sApp (A w) S = sDrop (A w) (S.2.2.2 0) (S.2.2.2 1) (S.2.2.2 2) (S.2.2.2 3) := by simp only [sApp]; rw [if_neg (by omega), if_neg (by omega), if_neg (by omega), if_neg (by omega)]
  have hct := sDropT_range (A w) (S.2.2.2 0) (S.2.2.2 1) (S.2.2.2 2) (S.2.2.2 3)
  rw [eC, eA]
  refine g_aload_n dX13_isDone_0 rfl rfl ?_
  refine g_get_Model_argument dX13_isDone_1 mw_1158 (by assumption) (by assumption) ?_
  refine g_iconst dX13_isDone_4 ?_
  refine g_iaload dX13_isDone_5 (by assumption) (by omega) (by omega) ?_
  rw [a0]
  refine g_istore_n dX13_isDone_6 rfl (by decide) ?_
  refine g_aload_n dX13_isDone_7 rfl rfl ?_
  refine g_get_Model_argument dX13_isDone_8 mw_1158 (by assumption) (by assumption) ?_
  refine g_iconst dX13_isDone_11 ?_
  refine g_iaload dX13_isDone_12 (by assumption) (by omega) (by omega) ?_
  rw [a1]
  refine g_istore_n dX13_isDone_13 rfl (by decide) ?_
  refine g_aload_n dX13_isDone_14 rfl rfl ?_
  refine g_get_Model_argument dX13_isDone_15 mw_1158 (by assumption) (by assumption) ?_
  refine g_iconst dX13_isDone_18 ?_
  refine g_iaload dX13_isDone_19 (by assumption) (by omega) (by omega) ?_
  rw [a2]
  refine g_istore_n dX13_isDone_20 rfl (by decide) ?_
  refine g_aload_n dX13_isDone_21 rfl rfl ?_
  refine g_get_Model_argument dX13_isDone_22 mw_1158 (by assumption) (by assumption) ?_
  refine g_iconst dX13_isDone_25 ?_
  refine g_iaload dX13_isDone_26 (by assumption) (by omega) (by omega) ?_
  rw [a3]
  refine g_istore dX13_isDone_27 (by decide) ?_
  refine g_aload_n dX13_isDone_29 rfl rfl ?_
  refine g_get_Model_word dX13_isDone_30 mw_1162 (by assumption) ?_
  refine g_iconst dX13_isDone_33 ?_
  refine g_icmp_ne (tgt := 49) dX13_isDone_34 (by decide) (by omega) (by omega) (fun c_34 => ?_) (fun c_34 => ?_)
  · refine g_aload_n dX13_isDone_49 rfl rfl ?_
    refine g_get_Model_word dX13_isDone_50 mw_1162 (by assumption) ?_
    refine g_iconst dX13_isDone_53 ?_
    refine g_icmp_ne (tgt := 65) dX13_isDone_54 (by decide) (by omega) (by omega) (fun c_54 => ?_) (fun c_54 => ?_)
    · refine g_aload_n dX13_isDone_65 rfl rfl ?_
      refine g_get_Model_word dX13_isDone_66 mw_1162 (by assumption) ?_
      refine g_iconst dX13_isDone_69 ?_
      refine g_icmp_ne (tgt := 83) dX13_isDone_70 (by decide) (by omega) (by omega) (fun c_70 => ?_) (fun c_70 => ?_)
      · refine g_aload_n dX13_isDone_83 rfl rfl ?_
        refine g_get_Model_word dX13_isDone_84 mw_1162 (by assumption) ?_
        refine g_iconst dX13_isDone_87 ?_
        refine g_icmp_ne (tgt := 103) dX13_isDone_88 (by decide) (by omega) (by omega) (fun c_88 => ?_) (fun c_88 => ?_)
        · exfalso; omega
        · refine g_aload_n dX13_isDone_91 rfl rfl ?_
          refine g_iload_n dX13_isDone_92 rfl rfl ?_
          refine g_iload_n dX13_isDone_93 rfl rfl ?_
          refine g_iload_n dX13_isDone_94 rfl rfl ?_
          refine g_iload dX13_isDone_95 rfl ?_
          refine g_callVp (i := 10) rfl (gK0 (by assumption)) (g_at10 (by assumption)) (k_M_dropThrows Y hM hB (by omega) _ _ _ _ (by omega) (by omega) (by omega) (by omega)) u_X13_dropThrows mw_1351 dX13_isDone_97 rfl rfl ⟨Nat.le_of_ble_eq_true rfl, Nat.le_of_ble_eq_true rfl⟩ ⟨Nat.le_of_ble_eq_true rfl, Nat.le_of_ble_eq_true rfl⟩ (Nat.le_of_ble_eq_true rfl) ?_
          generalize hcode : sDropT (A w) (S.2.2.2 0) (S.2.2.2 1) (S.2.2.2 2) (S.2.2.2 3) = cd at hct ⊢
          refine g_goto (tgt := 104) dX13_isDone_100 (by decide) ?_
          refine g_istore dX13_isDone_104 (by decide) ?_
          refine g_iload dX13_isDone_106 rfl ?_
          refine g_if_le (tgt := 113) dX13_isDone_108 (by decide) (by omega) (fun c_108 => ?_) (fun c_108 => ?_)
          · refine g_aload_n dX13_isDone_113 rfl rfl ?_
            refine g_get_Model_word dX13_isDone_114 mw_1162 (by assumption) ?_
            refine g_iconst dX13_isDone_117 ?_
            refine g_icmp_ne (tgt := 133) dX13_isDone_118 (by decide) (by omega) (by omega) (fun c_118 => ?_) (fun c_118 => ?_)
            · refine g_aload_n dX13_isDone_133 rfl rfl ?_
              refine g_get_Model_word dX13_isDone_134 mw_1162 (by assumption) ?_
              refine g_iconst dX13_isDone_137 ?_
              refine g_icmp_ne (tgt := 149) dX13_isDone_138 (by decide) (by omega) (by omega) (fun c_138 => ?_) (fun c_138 => ?_)
              · refine g_aload_n dX13_isDone_149 rfl rfl ?_
                refine g_get_Model_word dX13_isDone_150 mw_1162 (by assumption) ?_
                refine g_iconst dX13_isDone_153 ?_
                refine g_icmp_ne (tgt := 164) dX13_isDone_154 (by decide) (by omega) (by omega) (fun c_154 => ?_) (fun c_154 => ?_)
                · refine g_aload_n dX13_isDone_164 rfl rfl ?_
                  refine g_get_Model_word dX13_isDone_165 mw_1162 (by assumption) ?_
                  refine g_iconst dX13_isDone_168 ?_
                  refine g_icmp_ne (tgt := 182) dX13_isDone_169 (by decide) (by omega) (by omega) (fun c_169 => ?_) (fun c_169 => ?_)
                  · refine g_aload_n dX13_isDone_182 rfl rfl ?_
                    refine g_iload_n dX13_isDone_183 rfl rfl ?_
                    refine g_iload_n dX13_isDone_184 rfl rfl ?_
                    refine g_iload_n dX13_isDone_185 rfl rfl ?_
                    refine g_iload dX13_isDone_186 rfl ?_
                    obtain ⟨hc0, hc1, hok⟩ := hct
                    have hok := hok (by omega)
                    have hlf := (sFind_range h0.2.2.2.2.1.1 (S.2.2.2 0) (S.2.2.2 1) (S.2.2.2 2)).resolve_left (by omega)
                    refine g_callVw (i := 10) rfl (gK0 (by assumption)) (g_at10 (by assumption)) (k_M_doDrop Y hM h0 hm _ _ _ _ (by omega) (by omega) (by omega) (by omega) ⟨hlf.1, hlf.2.1⟩ (by omega)) u_X13_doDrop mw_1355 dX13_isDone_188 rfl rfl ⟨Nat.le_of_ble_eq_true rfl, Nat.le_of_ble_eq_true rfl⟩ ⟨Nat.le_of_ble_eq_true rfl, Nat.le_of_ble_eq_true rfl⟩ (Nat.le_of_ble_eq_true rfl) (fun v188 I188 A188 h188 => ?_)
                    obtain ⟨rfl, rfl, h188⟩ := h188
                    refine g_istore dX13_isDone_191 (by decide) ?_
                    refine g_iconst dX13_isDone_193 ?_
                    exact g_zret dX13_isDone_194 rfl (by omega) (by decide) (by decide) ⟨rfl, rfl, rfl, rfl, by rw [if_neg (by omega)], rfl, by rw [if_neg (by omega), h188]⟩
                  · exfalso; omega
                · exfalso; omega
              · exfalso; omega
            · exfalso; omega
          · refine g_iconst dX13_isDone_111 ?_
            exact g_zret dX13_isDone_112 rfl (by omega) (by decide) (by decide) ⟨rfl, rfl, rfl, rfl, by rw [if_pos (by omega)], rfl, by rw [if_pos (by omega)]⟩
      · exfalso; omega
    · exfalso; omega
  · exfalso; omega
set_option maxHeartbeats 1000000 in
set_option maxRecDepth 100000 in
theorem k_M_isDone (Y : gEnv) {K N : Nat → Nat} {I : Nat → Nat → Int} {A : Nat → Int → Int} {R : Nat → Nat → Option Nat} {Q : Nat → Int → Option Nat} {x w sv tx ag : Nat} (hM : mS K N R x w sv tx ag) {S : sSt} (hP : mPr I A x ag S) (hS : sInv S) (hk : sKind S = 0) (h0 : iN (A w)) (hm : mT (A w)) (hz : iZ (A w)) : gC Y yX13_isDone cX13_isDone 7 (some .boolean) ({ frames := 3, cells := 0, slots := 0, locals := 83 } : Room) [.ref x] K N I A R Q (g_wr K N R Q (fun v I' A' => v = some (vi (if 0 < sCode (A w) S then 0 else 1)) ∧ I' = I ∧ A' = (if 0 < sCode (A w) S then A else g_rw A w (sApp (A w) S)))) gno := by
  have h1 := sNeed_ok hk
  have h2 := hS.1
  have h3 := hS.2.1
  have h4 : S.1 = 1 ∨ S.1 = 2 ∨ S.1 = 3 ∨ S.1 = 4 ∨ S.1 = 5 := by omega
  rcases h4 with h | h | h | h | h
  · exact k_M_isDone1 Y hM hP hS hk h0 hm hz h
  · exact k_M_isDone2 Y hM hP hS hk h0 hm hz h
  · exact k_M_isDone3 Y hM hP hS hk h0 hm hz h
  · exact k_M_isDone4 Y hM hP hS hk h0 hm hz h
  · exact k_M_isDone5 Y hM hP hS hk h0 hm hz h
