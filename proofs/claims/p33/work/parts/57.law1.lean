theorem cd2 {P Q : Prop} [Decidable P] [Decidable Q] (h : ((if ¬ P then 1 else if ¬ Q then 2 else 0) : Int) = 0) : P ∧ Q := by
  by_cases p : P
  · rw [if_neg (fun z => z p)] at h
    by_cases q : Q
    · exact ⟨p, q⟩
    · rw [if_pos q] at h; cases h
  · rw [if_pos p] at h; cases h
theorem cd1 {P : Prop} [Decidable P] (h : ((if ¬ P then 1 else 0) : Int) = 0) : P := by
  by_cases p : P
  · exact p
  · rw [if_pos p] at h; cases h
theorem cd2r (P Q : Prop) [Decidable P] [Decidable Q] : 0 ≤ ((if ¬ P then 1 else if ¬ Q then 2 else 0) : Int) ∧ ((if ¬ P then 1 else if ¬ Q then 2 else 0) : Int) ≤ 2 := by
  by_cases p : P
  · rw [if_neg (fun z => z p)]
    by_cases q : Q
    · rw [if_neg (fun z => z q)]; decide
    · rw [if_pos q]; decide
  · rw [if_pos p]; decide
theorem cd2p (P Q : Prop) [Decidable P] [Decidable Q] : 0 ≤ ((if ¬ P then 1 else if Q then 2 else 0) : Int) ∧ ((if ¬ P then 1 else if Q then 2 else 0) : Int) ≤ 2 := by
  by_cases p : P
  · rw [if_neg (fun z => z p)]
    by_cases q : Q
    · rw [if_pos q]; decide
    · rw [if_neg q]; decide
  · rw [if_pos p]; decide
theorem cd1r (P : Prop) [Decidable P] : 0 ≤ ((if ¬ P then 1 else 0) : Int) ∧ ((if ¬ P then 1 else 0) : Int) ≤ 1 := by
  by_cases p : P
  · rw [if_neg (fun z => z p)]; decide
  · rw [if_pos p]; decide
theorem cd1p (P : Prop) [Decidable P] : 0 ≤ ((if P then 1 else 0) : Int) ∧ ((if P then 1 else 0) : Int) ≤ 1 := by
  by_cases p : P
  · rw [if_pos p]; decide
  · rw [if_neg p]; decide
theorem cd1q (P : Prop) [Decidable P] : 0 ≤ ((if P then 0 else 1) : Int) ∧ ((if P then 0 else 1) : Int) ≤ 1 := by
  by_cases p : P
  · rw [if_pos p]; decide
  · rw [if_neg p]; decide
def lKeep (W' : Int → Int) : Prop := iN W' ∧ iZ W' ∧ mT W'
theorem lk_setGlaze {W : Int → Int} {g a b : Int} (hN : iN W) (hz : iZ W) (hm : mT W) (hc : ((if ¬ (0 ≤ g ∧ g ≤ 3) then 1 else if ¬ ((0 ≤ a ∧ a ≤ 19) ∧ (0 ≤ b ∧ b ≤ 20)) then 2 else 0) : Int) = 0) : lKeep (sU (sU W g a) (4 + g) b) := by
  obtain ⟨p, q1, q2⟩ := cd2 hc
  exact ⟨hN.setGlaze p q1 q2, hz.of hN.2.2.2.2.1.1 (fun j u v => (sU_ne _ _ (by omega)).trans (sU_ne _ _ (by omega))) ((sU_ne _ _ (by omega)).trans (sU_ne _ _ (by omega))), (hm.put (by omega)).put (by omega)⟩
theorem lk_setQuality {W : Int → Int} {g a b : Int} (hN : iN W) (hz : iZ W) (hm : mT W) (hc : ((if ¬ (0 ≤ g ∧ g ≤ 3) then 1 else if ¬ ((0 ≤ a ∧ a ≤ 100) ∧ (0 ≤ b ∧ b ≤ 9999)) then 2 else 0) : Int) = 0) : lKeep (sU (sU W (8 + g) a) (12 + g) b) := by
  obtain ⟨p, q1, q2⟩ := cd2 hc
  exact ⟨hN.setQuality p q1 q2, hz.of hN.2.2.2.2.1.1 (fun j u v => (sU_ne _ _ (by omega)).trans (sU_ne _ _ (by omega))) ((sU_ne _ _ (by omega)).trans (sU_ne _ _ (by omega))), (hm.put (by omega)).put (by omega)⟩
theorem lk_setPosition {W : Int → Int} {k p a b : Int} (hN : iN W) (hz : iZ W) (hm : mT W) (hc : ((if ¬ ((0 ≤ k ∧ k ≤ 2) ∧ (0 ≤ p ∧ p ≤ 7)) then 1 else if ¬ ((-40 ≤ a ∧ a ≤ 40) ∧ (0 ≤ b ∧ b ≤ 100)) then 2 else 0) : Int) = 0) : lKeep (sU (sU W (16 + (8 * k + p)) a) (40 + (8 * k + p)) b) := by
  obtain ⟨⟨p1, p2⟩, q1, q2⟩ := cd2 hc
  exact ⟨hN.setPosition (by omega) q1 q2, hz.of hN.2.2.2.2.1.1 (fun j u v => (sU_ne _ _ (by omega)).trans (sU_ne _ _ (by omega))) ((sU_ne _ _ (by omega)).trans (sU_ne _ _ (by omega))), (hm.put (by omega)).put (by omega)⟩
theorem lk_setSharpness {W : Int → Int} {a : Int} (hN : iN W) (hz : iZ W) (hm : mT W) (hc : ((if ¬ (0 ≤ a ∧ a ≤ 100) then 1 else 0) : Int) = 0) : lKeep (sU W 88 a) := by
  have p := cd1 hc
  exact ⟨hN.setSharp p, hz.of hN.2.2.2.2.1.1 (fun j u v => sU_ne _ _ (by omega)) (sU_ne _ _ (by omega)), hm.put (by omega)⟩
theorem lk_setBoxSize {W : Int → Int} {a : Int} (hN : iN W) (hz : iZ W) (hm : mT W) (hc : ((if ¬ (1 ≤ a ∧ a ≤ 50) then 1 else if 0 < sSum (fun l => W (1050 + l)) (W 1614).toNat 0 ∨ 0 < sumO W then 2 else 0) : Int) = 0) : lKeep (sU W 89 a) := by
  have p : 1 ≤ a ∧ a ≤ 50 := by
    by_cases p : 1 ≤ a ∧ a ≤ 50
    · exact p
    · rw [if_pos p] at hc; cases hc
  rw [if_neg (fun z => z p)] at hc
  have q : ¬ (0 < sSum (fun l => W (1050 + l)) (W 1614).toNat 0 ∨ 0 < sumO W) := fun q => by rw [if_pos q] at hc; cases hc
  exact ⟨hN.setBox p (by omega) (by omega), hz.of hN.2.2.2.2.1.1 (fun j u v => sU_ne _ _ (by omega)) (sU_ne _ _ (by omega)), hm.put (by omega)⟩
theorem lk_fire {W : Int → Int} {a b c d : Int} (hN : iN W) (hz : iZ W) (hm : mT W) (hc : sFireT W a b c d = 0) : lKeep (sFire W a b c d) := by
  have hr := (sFireT_range W a b c d).2.2 hc
  have hf := hN.2.2.2.2.2.2.1.2.2.2.2.2.1
  exact ⟨hN.fire (by omega) (by omega) (by omega) (by omega), hz.fire hN (by omega) (by omega) (by omega) (by omega), hm.fire hN (by omega) (by omega) (by omega) (by omega)⟩
theorem lk_grade {W : Int → Int} {a : Int} (hN : iN W) (hz : iZ W) (hm : mT W) : lKeep (sGrade W a) := ⟨hN.grade hz, hz.grade hN, hm.grade hN hz⟩
theorem lk_pack {W : Int → Int} (hN : iN W) (hz : iZ W) (hm : mT W) : lKeep (sPack W) := ⟨hN.pack, hz.pack hN, hm.pack hN⟩
theorem lk_deliver {W : Int → Int} {a b c : Int} (hN : iN W) (hz : iZ W) (hm : mT W) (hc : sDeliverT W a b c = 0) : lKeep (sDel W a b c) := by
  have hr := (sDeliverT_range W a b c).2.2 hc
  have hlf := (sLotFor_range hN.2.2.2.2.1.1 a b c).resolve_left (by omega)
  have hmay : W (410 + sLotFor W a b c) = a ∧ W (730 + sLotFor W a b c) = b ∧ c ≤ W (1050 + sLotFor W a b c) := by have := hlf.2.2; simpa [sMay] using this
  have hd := hN.2.2.2.2.2.1.2.1
  have hd0 := hN.2.2.2.2.2.1.1
  obtain ⟨q1, q2, q3⟩ := sDel_pre hN ⟨hlf.1, hlf.2.1⟩ ⟨by omega, hmay.2.2⟩ (by omega) (by omega)
  unfold sDel
  exact ⟨q1.hap _ _, (q3 hz).hap q1 _ _, (q2 hm).hap q1.2.2.2.2.2.2.2 (by omega) (by omega)⟩
theorem lk_drop {W : Int → Int} {a b c d : Int} (hN : iN W) (hz : iZ W) (hm : mT W) (hc : sDropT W a b c d = 0) : lKeep (sDrop W a b c d) := by
  have hr := (sDropT_range W a b c d).2.2 hc
  have hlf := (sFind_range hN.2.2.2.2.1.1 a b c).resolve_left (by omega)
  have hp := sDrop_pre hN ⟨hlf.1, hlf.2.1⟩ ⟨hr.2.1, hr.2.2.1⟩ hr.2.2.2
  unfold sDrop
  exact ⟨hN.drop ⟨hlf.1, hlf.2.1⟩ ⟨hr.2.1, hr.2.2.1⟩ hr.2.2.2, (hp.2.2.1 hz).2, (hp.2.1 hm).2⟩
theorem lk_takeBack {W : Int → Int} {a b c : Int} (hN : iN W) (hz : iZ W) (hm : mT W) (hc : sTakeT W a b c = 0) : lKeep (sTake W a b c) := by
  have hr := (cTakeT_range W a b c).2.2 hc
  have hp := sTake_pre hN ⟨hr.1, hr.2.1⟩ ⟨hr.2.2.1, hr.2.2.2.1⟩ hr.2.2.2.2
  exact ⟨iN.brk hr.2.2.2.2.1 hp.1 rfl, hp.2.2.1 hz, (hp.2.1 hm).2⟩
theorem lk_replace {W : Int → Int} {a : Int} (hN : iN W) (hz : iZ W) (hm : mT W) (hc : sReplT W a = 0) : lKeep (sRepl W a) := by
  have hr := (cReplT_range W a).2.2 hc
  have hp := sRepl_pre hN ⟨hr.1, hr.2.1⟩ hr.2.2.1
  have h0 := (hN.2.2.2.2.2.1.2.2 a hr.1 hr.2.1).2.2.2.2.2.1
  exact ⟨iN.brk h0 hp.1 rfl, hp.2.2.1 hz, (hp.2.1 hm).2⟩
