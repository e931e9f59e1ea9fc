/-! ===== rows for equal answers ===== -/
section EQR
variable {Y : gEnv} {X : gCtx} {y : MethodName} {cc : ByteArray} {nL : Nat} {ret : Option FieldType} {rm : Room} {po : gPo} {px : gPx} {k n pc : Nat} {L : List (Nat × Value)} {st : List Value} {K N : Nat → Nat} {I : Nat → Nat → Int} {A : Nat → Int → Int} {R : Nat → Nat → Option Nat} {Q : Nat → Int → Option Nat}
theorem g_icmp_ner {z off : Int} {tgt : Nat} (hd : decode cc pc = .ok (.if_icmp .ne off, 3)) (ht : (pc : Int) + off = (tgt : Int)) (kk : gJ Y X y cc nL ret rm po px k n (pc + 3) L st K N I A R Q) : gJ Y X y cc nL ret rm po px k n pc L (vi z :: vi z :: st) K N I A R Q := fun hx H locs ls hW hS hl => lv_icmp_ne hx.1 hx.2.1 hd ht (fun h => absurd rfl h) (fun _ => kk hx H locs ls hW hS hl)
theorem g_lcmp_ner {z off : Int} {tgt : Nat} (hd : decode cc pc = .ok (.lcmp, 1)) (hd2 : decode cc (pc + 1) = .ok (.ifCond .ne off, 3)) (ht : ((pc + 1 : Nat) : Int) + off = (tgt : Int)) (kk : gJ Y X y cc nL ret rm po px k n (pc + 4) L st K N I A R Q) : gJ Y X y cc nL ret rm po px k n pc L (vl z :: vl z :: st) K N I A R Q := by
  intro hx H locs ls hW hS hl
  refine W.lcmp hx.1 hx.2.1 hd ?_
  have e : lg_cmp (Int64.ofInt z) (Int64.ofInt z) = 0 := by
    unfold lg_cmp
    simp
  rw [e]
  exact lv_if_ne hx.1 hx.2.1 hd2 ht (fun h => absurd rfl h) (fun _ => kk hx H locs ls hW hS hl)
end EQR
/-! ===== what the checks read ===== -/
theorem sSum_mulr {f : Int → Int} {c : Int} : ∀ (n : Nat) (l : Int), sSum (fun j => f j * c) n l = sSum f n l * c
  | 0, l => by simp [sSum]
  | n + 1, l => by rw [sSum, sSum, sSum_mulr n (l + 1), Int.add_mul]
theorem sSum_addR {f g : Int → Int} : ∀ (n : Nat) (l : Int), sSum (fun j => f j + g j) n l = sSum f n l + sSum g n l
  | 0, l => rfl
  | n + 1, l => by
    rw [sSum, sSum, sSum, sSum_addR n (l + 1)]
    omega
theorem sumL_split (w : Int → Int) : sumL w = sLoose w + sBoxes w * w 89 := by
  unfold sumL sLoose sBoxes
  rw [← sSum_mulr, ← sSum_addR]
  rfl
/-- what the factory's numbers say -/
theorem iN.books {w : Int → Int} (h : iN w) : w 1611 = w 1612 + sumP w + sLoose w + sBoxes w * w 89 + sumO w * w 89 ∧ w 1617 = sumV w ∧ 0 ≤ w 1612 ∧ 0 ≤ sumP w ∧ 0 ≤ sLoose w ∧ 0 ≤ sBoxes w ∧ sBoxes w ≤ sBoxes w * w 89 ∧ 0 ≤ sumO w ∧ sumO w ≤ sumO w * w 89 ∧ w 1611 ≤ 1600000 ∧ 1 ≤ w 89 ∧ w 89 ≤ 50 := by
  have hs := h.sums
  have hL := h.2.2.2.2.1
  obtain ⟨s1, s2, s3, s4, s5, s6, s7, s8, s9, s10⟩ := h.2.2.2.2.2.2.1
  have e := sumL_split w
  have l0 : 0 ≤ sLoose w := sSum_nnI (fun j a b => by have := hL.2.2.1 j a b; omega)
  have b0 : 0 ≤ sBoxes w := sSum_nnI (fun j a b => by have := hL.2.2.1 j a b; omega)
  have b1 : sBoxes w * 1 ≤ sBoxes w * w 89 := Int.mul_le_mul_of_nonneg_left s3 b0
  have c := Int.mul_comm (sumO w) (w 89)
  refine ⟨by omega, s10, s7, hs.1, l0, b0, by omega, hs.2.2.1, by omega, by omega, s3, s4⟩
theorem k_T_3 (Y : gEnv) {K N : Nat → Nat} {I : Nat → Nat → Int} {A : Nat → Int → Int} {R : Nat → Nat → Option Nat} {Q : Nat → Int → Option Nat} {G : Nat → Nat × Int} {M : Nat → Prop} {x s h hq sc sg ar : Nat} {W SV T : Int → Int} {n len : Int} (hI : cI K N I A R Q G M x s h hq sc sg ar W n SV T len) (hlen : 0 ≤ len ∧ len ≤ 100) : gCH Y yL_total cL_total 3 (some .long) [(0, 5, 6, 18)] ({ frames := 8, cells := 1, slots := 6, locals := 141 } : Room) [.ref x, vi 3] K N I A R Q (lqP K N I A R Q M x s h hq sc sg ar (vl (W 1611)) W n SV T len) := by
  have h := k_L_total Y hI 3 (cd1r _) (k_A_total Y hI 3 (by omega) hlen)
  rw [show lqI (if ¬ ((0 : Int) ≤ 3 ∧ (3 : Int) ≤ 15) then 1 else 0) (sTotQ W n len 3) [-2000002] = (W 1611) from by simp [lqI, sTotQ]] at h
  exact h
theorem k_T_4 (Y : gEnv) {K N : Nat → Nat} {I : Nat → Nat → Int} {A : Nat → Int → Int} {R : Nat → Nat → Option Nat} {Q : Nat → Int → Option Nat} {G : Nat → Nat × Int} {M : Nat → Prop} {x s h hq sc sg ar : Nat} {W SV T : Int → Int} {n len : Int} (hI : cI K N I A R Q G M x s h hq sc sg ar W n SV T len) (hlen : 0 ≤ len ∧ len ≤ 100) : gCH Y yL_total cL_total 3 (some .long) [(0, 5, 6, 18)] ({ frames := 8, cells := 1, slots := 6, locals := 141 } : Room) [.ref x, vi 4] K N I A R Q (lqP K N I A R Q M x s h hq sc sg ar (vl (W 1612)) W n SV T len) := by
  have h := k_L_total Y hI 4 (cd1r _) (k_A_total Y hI 4 (by omega) hlen)
  rw [show lqI (if ¬ ((0 : Int) ≤ 4 ∧ (4 : Int) ≤ 15) then 1 else 0) (sTotQ W n len 4) [-2000002] = (W 1612) from by simp [lqI, sTotQ]] at h
  exact h
theorem k_T_5 (Y : gEnv) {K N : Nat → Nat} {I : Nat → Nat → Int} {A : Nat → Int → Int} {R : Nat → Nat → Option Nat} {Q : Nat → Int → Option Nat} {G : Nat → Nat × Int} {M : Nat → Prop} {x s h hq sc sg ar : Nat} {W SV T : Int → Int} {n len : Int} (hI : cI K N I A R Q G M x s h hq sc sg ar W n SV T len) (hlen : 0 ≤ len ∧ len ≤ 100) : gCH Y yL_total cL_total 3 (some .long) [(0, 5, 6, 18)] ({ frames := 8, cells := 1, slots := 6, locals := 141 } : Room) [.ref x, vi 5] K N I A R Q (lqP K N I A R Q M x s h hq sc sg ar (vl (sumP W)) W n SV T len) := by
  have h := k_L_total Y hI 5 (cd1r _) (k_A_total Y hI 5 (by omega) hlen)
  rw [show lqI (if ¬ ((0 : Int) ≤ 5 ∧ (5 : Int) ≤ 15) then 1 else 0) (sTotQ W n len 5) [-2000002] = (sumP W) from by simp [lqI, sTotQ]] at h
  exact h
theorem k_T_6 (Y : gEnv) {K N : Nat → Nat} {I : Nat → Nat → Int} {A : Nat → Int → Int} {R : Nat → Nat → Option Nat} {Q : Nat → Int → Option Nat} {G : Nat → Nat × Int} {M : Nat → Prop} {x s h hq sc sg ar : Nat} {W SV T : Int → Int} {n len : Int} (hI : cI K N I A R Q G M x s h hq sc sg ar W n SV T len) (hlen : 0 ≤ len ∧ len ≤ 100) : gCH Y yL_total cL_total 3 (some .long) [(0, 5, 6, 18)] ({ frames := 8, cells := 1, slots := 6, locals := 141 } : Room) [.ref x, vi 6] K N I A R Q (lqP K N I A R Q M x s h hq sc sg ar (vl (sLoose W)) W n SV T len) := by
  have h := k_L_total Y hI 6 (cd1r _) (k_A_total Y hI 6 (by omega) hlen)
  rw [show lqI (if ¬ ((0 : Int) ≤ 6 ∧ (6 : Int) ≤ 15) then 1 else 0) (sTotQ W n len 6) [-2000002] = (sLoose W) from by simp [lqI, sTotQ]] at h
  exact h
theorem k_T_7 (Y : gEnv) {K N : Nat → Nat} {I : Nat → Nat → Int} {A : Nat → Int → Int} {R : Nat → Nat → Option Nat} {Q : Nat → Int → Option Nat} {G : Nat → Nat × Int} {M : Nat → Prop} {x s h hq sc sg ar : Nat} {W SV T : Int → Int} {n len : Int} (hI : cI K N I A R Q G M x s h hq sc sg ar W n SV T len) (hlen : 0 ≤ len ∧ len ≤ 100) : gCH Y yL_total cL_total 3 (some .long) [(0, 5, 6, 18)] ({ frames := 8, cells := 1, slots := 6, locals := 141 } : Room) [.ref x, vi 7] K N I A R Q (lqP K N I A R Q M x s h hq sc sg ar (vl (sBoxes W)) W n SV T len) := by
  have h := k_L_total Y hI 7 (cd1r _) (k_A_total Y hI 7 (by omega) hlen)
  rw [show lqI (if ¬ ((0 : Int) ≤ 7 ∧ (7 : Int) ≤ 15) then 1 else 0) (sTotQ W n len 7) [-2000002] = (sBoxes W) from by simp [lqI, sTotQ]] at h
  exact h
theorem k_T_1 (Y : gEnv) {K N : Nat → Nat} {I : Nat → Nat → Int} {A : Nat → Int → Int} {R : Nat → Nat → Option Nat} {Q : Nat → Int → Option Nat} {G : Nat → Nat × Int} {M : Nat → Prop} {x s h hq sc sg ar : Nat} {W SV T : Int → Int} {n len : Int} (hI : cI K N I A R Q G M x s h hq sc sg ar W n SV T len) (hlen : 0 ≤ len ∧ len ≤ 100) : gCH Y yL_total cL_total 3 (some .long) [(0, 5, 6, 18)] ({ frames := 8, cells := 1, slots := 6, locals := 141 } : Room) [.ref x, vi 1] K N I A R Q (lqP K N I A R Q M x s h hq sc sg ar (vl (W 89)) W n SV T len) := by
  have h := k_L_total Y hI 1 (cd1r _) (k_A_total Y hI 1 (by omega) hlen)
  rw [show lqI (if ¬ ((0 : Int) ≤ 1 ∧ (1 : Int) ≤ 15) then 1 else 0) (sTotQ W n len 1) [-2000002] = (W 89) from by simp [lqI, sTotQ]] at h
  exact h
theorem k_T_8 (Y : gEnv) {K N : Nat → Nat} {I : Nat → Nat → Int} {A : Nat → Int → Int} {R : Nat → Nat → Option Nat} {Q : Nat → Int → Option Nat} {G : Nat → Nat × Int} {M : Nat → Prop} {x s h hq sc sg ar : Nat} {W SV T : Int → Int} {n len : Int} (hI : cI K N I A R Q G M x s h hq sc sg ar W n SV T len) (hlen : 0 ≤ len ∧ len ≤ 100) : gCH Y yL_total cL_total 3 (some .long) [(0, 5, 6, 18)] ({ frames := 8, cells := 1, slots := 6, locals := 141 } : Room) [.ref x, vi 8] K N I A R Q (lqP K N I A R Q M x s h hq sc sg ar (vl (sumO W * W 89)) W n SV T len) := by
  have h := k_L_total Y hI 8 (cd1r _) (k_A_total Y hI 8 (by omega) hlen)
  rw [show lqI (if ¬ ((0 : Int) ≤ 8 ∧ (8 : Int) ≤ 15) then 1 else 0) (sTotQ W n len 8) [-2000002] = (sumO W * W 89) from by simp [lqI, sTotQ]] at h
  exact h
theorem k_T_10 (Y : gEnv) {K N : Nat → Nat} {I : Nat → Nat → Int} {A : Nat → Int → Int} {R : Nat → Nat → Option Nat} {Q : Nat → Int → Option Nat} {G : Nat → Nat × Int} {M : Nat → Prop} {x s h hq sc sg ar : Nat} {W SV T : Int → Int} {n len : Int} (hI : cI K N I A R Q G M x s h hq sc sg ar W n SV T len) (hlen : 0 ≤ len ∧ len ≤ 100) : gCH Y yL_total cL_total 3 (some .long) [(0, 5, 6, 18)] ({ frames := 8, cells := 1, slots := 6, locals := 141 } : Room) [.ref x, vi 10] K N I A R Q (lqP K N I A R Q M x s h hq sc sg ar (vl (W 1614)) W n SV T len) := by
  have h := k_L_total Y hI 10 (cd1r _) (k_A_total Y hI 10 (by omega) hlen)
  rw [show lqI (if ¬ ((0 : Int) ≤ 10 ∧ (10 : Int) ≤ 15) then 1 else 0) (sTotQ W n len 10) [-2000002] = (W 1614) from by simp [lqI, sTotQ]] at h
  exact h
theorem k_T_11 (Y : gEnv) {K N : Nat → Nat} {I : Nat → Nat → Int} {A : Nat → Int → Int} {R : Nat → Nat → Option Nat} {Q : Nat → Int → Option Nat} {G : Nat → Nat × Int} {M : Nat → Prop} {x s h hq sc sg ar : Nat} {W SV T : Int → Int} {n len : Int} (hI : cI K N I A R Q G M x s h hq sc sg ar W n SV T len) (hlen : 0 ≤ len ∧ len ≤ 100) : gCH Y yL_total cL_total 3 (some .long) [(0, 5, 6, 18)] ({ frames := 8, cells := 1, slots := 6, locals := 141 } : Room) [.ref x, vi 11] K N I A R Q (lqP K N I A R Q M x s h hq sc sg ar (vl (W 1615)) W n SV T len) := by
  have h := k_L_total Y hI 11 (cd1r _) (k_A_total Y hI 11 (by omega) hlen)
  rw [show lqI (if ¬ ((0 : Int) ≤ 11 ∧ (11 : Int) ≤ 15) then 1 else 0) (sTotQ W n len 11) [-2000002] = (W 1615) from by simp [lqI, sTotQ]] at h
  exact h
theorem k_T_14 (Y : gEnv) {K N : Nat → Nat} {I : Nat → Nat → Int} {A : Nat → Int → Int} {R : Nat → Nat → Option Nat} {Q : Nat → Int → Option Nat} {G : Nat → Nat × Int} {M : Nat → Prop} {x s h hq sc sg ar : Nat} {W SV T : Int → Int} {n len : Int} (hI : cI K N I A R Q G M x s h hq sc sg ar W n SV T len) (hlen : 0 ≤ len ∧ len ≤ 100) : gCH Y yL_total cL_total 3 (some .long) [(0, 5, 6, 18)] ({ frames := 8, cells := 1, slots := 6, locals := 141 } : Room) [.ref x, vi 14] K N I A R Q (lqP K N I A R Q M x s h hq sc sg ar (vl (W 1617)) W n SV T len) := by
  have h := k_L_total Y hI 14 (cd1r _) (k_A_total Y hI 14 (by omega) hlen)
  rw [show lqI (if ¬ ((0 : Int) ≤ 14 ∧ (14 : Int) ≤ 15) then 1 else 0) (sTotQ W n len 14) [-2000002] = (W 1617) from by simp [lqI, sTotQ]] at h
  exact h
theorem k_Q_2 (Y : gEnv) {K N : Nat → Nat} {I : Nat → Nat → Int} {A : Nat → Int → Int} {R : Nat → Nat → Option Nat} {Q : Nat → Int → Option Nat} {G : Nat → Nat × Int} {M : Nat → Prop} {x s h hq sc sg ar : Nat} {W SV T : Int → Int} {n len : Int} (hI : cI K N I A R Q G M x s h hq sc sg ar W n SV T len) (i : Int) (hi : 0 ≤ i ∧ i < W 1614) (hb : W 1614 ≤ 160) : gCH Y yL_lot cL_lot 4 (some .int) [(0, 6, 7, 15), (0, 6, 11, 18)] ({ frames := 8, cells := 2, slots := 12, locals := 142 } : Room) [.ref x, vi i, vi 2] K N I A R Q (lqP K N I A R Q M x s h hq sc sg ar (vi (W (730 + i))) W n SV T len) := by
  have h := k_L_lot Y hI i 2 (cd2r _ _) (k_A_lot Y hI i (by omega) 2 (by omega))
  rw [show (410 + 160 * 2 + i : Int) = 730 + i by omega, lqI_0 (by rw [if_neg (fun z => z hi), if_neg (fun z => z (by omega))])] at h
  exact h
theorem k_Q_3 (Y : gEnv) {K N : Nat → Nat} {I : Nat → Nat → Int} {A : Nat → Int → Int} {R : Nat → Nat → Option Nat} {Q : Nat → Int → Option Nat} {G : Nat → Nat × Int} {M : Nat → Prop} {x s h hq sc sg ar : Nat} {W SV T : Int → Int} {n len : Int} (hI : cI K N I A R Q G M x s h hq sc sg ar W n SV T len) (i : Int) (hi : 0 ≤ i ∧ i < W 1614) (hb : W 1614 ≤ 160) : gCH Y yL_lot cL_lot 4 (some .int) [(0, 6, 7, 15), (0, 6, 11, 18)] ({ frames := 8, cells := 2, slots := 12, locals := 142 } : Room) [.ref x, vi i, vi 3] K N I A R Q (lqP K N I A R Q M x s h hq sc sg ar (vi (W (890 + i))) W n SV T len) := by
  have h := k_L_lot Y hI i 3 (cd2r _ _) (k_A_lot Y hI i (by omega) 3 (by omega))
  rw [show (410 + 160 * 3 + i : Int) = 890 + i by omega, lqI_0 (by rw [if_neg (fun z => z hi), if_neg (fun z => z (by omega))])] at h
  exact h
theorem k_Q_4 (Y : gEnv) {K N : Nat → Nat} {I : Nat → Nat → Int} {A : Nat → Int → Int} {R : Nat → Nat → Option Nat} {Q : Nat → Int → Option Nat} {G : Nat → Nat × Int} {M : Nat → Prop} {x s h hq sc sg ar : Nat} {W SV T : Int → Int} {n len : Int} (hI : cI K N I A R Q G M x s h hq sc sg ar W n SV T len) (i : Int) (hi : 0 ≤ i ∧ i < W 1614) (hb : W 1614 ≤ 160) : gCH Y yL_lot cL_lot 4 (some .int) [(0, 6, 7, 15), (0, 6, 11, 18)] ({ frames := 8, cells := 2, slots := 12, locals := 142 } : Room) [.ref x, vi i, vi 4] K N I A R Q (lqP K N I A R Q M x s h hq sc sg ar (vi (W (1050 + i))) W n SV T len) := by
  have h := k_L_lot Y hI i 4 (cd2r _ _) (k_A_lot Y hI i (by omega) 4 (by omega))
  rw [show (410 + 160 * 4 + i : Int) = 1050 + i by omega, lqI_0 (by rw [if_neg (fun z => z hi), if_neg (fun z => z (by omega))])] at h
  exact h
theorem k_Q_5 (Y : gEnv) {K N : Nat → Nat} {I : Nat → Nat → Int} {A : Nat → Int → Int} {R : Nat → Nat → Option Nat} {Q : Nat → Int → Option Nat} {G : Nat → Nat × Int} {M : Nat → Prop} {x s h hq sc sg ar : Nat} {W SV T : Int → Int} {n len : Int} (hI : cI K N I A R Q G M x s h hq sc sg ar W n SV T len) (i : Int) (hi : 0 ≤ i ∧ i < W 1614) (hb : W 1614 ≤ 160) : gCH Y yL_lot cL_lot 4 (some .int) [(0, 6, 7, 15), (0, 6, 11, 18)] ({ frames := 8, cells := 2, slots := 12, locals := 142 } : Room) [.ref x, vi i, vi 5] K N I A R Q (lqP K N I A R Q M x s h hq sc sg ar (vi (W (1210 + i))) W n SV T len) := by
  have h := k_L_lot Y hI i 5 (cd2r _ _) (k_A_lot Y hI i (by omega) 5 (by omega))
  rw [show (410 + 160 * 5 + i : Int) = 1210 + i by omega, lqI_0 (by rw [if_neg (fun z => z hi), if_neg (fun z => z (by omega))])] at h
  exact h
theorem k_D_1 (Y : gEnv) {K N : Nat → Nat} {I : Nat → Nat → Int} {A : Nat → Int → Int} {R : Nat → Nat → Option Nat} {Q : Nat → Int → Option Nat} {G : Nat → Nat × Int} {M : Nat → Prop} {x s h hq sc sg ar : Nat} {W SV T : Int → Int} {n len : Int} (hI : cI K N I A R Q G M x s h hq sc sg ar W n SV T len) (i : Int) (hi : 0 ≤ i ∧ i < W 1615) (hb : W 1615 ≤ 40) : gCH Y yL_delivery cL_delivery 4 (some .long) [(0, 6, 7, 15), (0, 6, 12, 18)] ({ frames := 8, cells := 2, slots := 12, locals := 142 } : Room) [.ref x, vi i, vi 1] K N I A R Q (lqP K N I A R Q M x s h hq sc sg ar (vl (W (1410 + i))) W n SV T len) := by
  have h := k_L_delivery Y hI i 1 (cd2r _ _) (k_A_delivery Y hI i (by omega) 1 (by omega))
  rw [show (1370 + 40 * 1 + i : Int) = 1410 + i by omega, lqI_0 (by rw [if_neg (fun z => z hi), if_neg (fun z => z (by omega))])] at h
  exact h
theorem k_D_2 (Y : gEnv) {K N : Nat → Nat} {I : Nat → Nat → Int} {A : Nat → Int → Int} {R : Nat → Nat → Option Nat} {Q : Nat → Int → Option Nat} {G : Nat → Nat × Int} {M : Nat → Prop} {x s h hq sc sg ar : Nat} {W SV T : Int → Int} {n len : Int} (hI : cI K N I A R Q G M x s h hq sc sg ar W n SV T len) (i : Int) (hi : 0 ≤ i ∧ i < W 1615) (hb : W 1615 ≤ 40) : gCH Y yL_delivery cL_delivery 4 (some .long) [(0, 6, 7, 15), (0, 6, 12, 18)] ({ frames := 8, cells := 2, slots := 12, locals := 142 } : Room) [.ref x, vi i, vi 2] K N I A R Q (lqP K N I A R Q M x s h hq sc sg ar (vl (W (1450 + i))) W n SV T len) := by
  have h := k_L_delivery Y hI i 2 (cd2r _ _) (k_A_delivery Y hI i (by omega) 2 (by omega))
  rw [show (1370 + 40 * 2 + i : Int) = 1450 + i by omega, lqI_0 (by rw [if_neg (fun z => z hi), if_neg (fun z => z (by omega))])] at h
  exact h
theorem k_D_4 (Y : gEnv) {K N : Nat → Nat} {I : Nat → Nat → Int} {A : Nat → Int → Int} {R : Nat → Nat → Option Nat} {Q : Nat → Int → Option Nat} {G : Nat → Nat × Int} {M : Nat → Prop} {x s h hq sc sg ar : Nat} {W SV T : Int → Int} {n len : Int} (hI : cI K N I A R Q G M x s h hq sc sg ar W n SV T len) (i : Int) (hi : 0 ≤ i ∧ i < W 1615) (hb : W 1615 ≤ 40) : gCH Y yL_delivery cL_delivery 4 (some .long) [(0, 6, 7, 15), (0, 6, 12, 18)] ({ frames := 8, cells := 2, slots := 12, locals := 142 } : Room) [.ref x, vi i, vi 4] K N I A R Q (lqP K N I A R Q M x s h hq sc sg ar (vl (W (1530 + i))) W n SV T len) := by
  have h := k_L_delivery Y hI i 4 (cd2r _ _) (k_A_delivery Y hI i (by omega) 4 (by omega))
  rw [show (1370 + 40 * 4 + i : Int) = 1530 + i by omega, lqI_0 (by rw [if_neg (fun z => z hi), if_neg (fun z => z (by omega))])] at h
  exact h
/-! ===== isCounted ===== -/
theorem u_L_isCounted : gUS yL_isCounted cL_isCounted 1 (some .boolean) 1 := ⟨⟨mw_973, mw_972, mw_19⟩, by decide, by decide, by decide +kernel⟩
set_option maxHeartbeats 4000000 in
set_option maxRecDepth 100000 in
theorem k_L_isCounted (Y : gEnv) {K N : Nat → Nat} {I : Nat → Nat → Int} {A : Nat → Int → Int} {R : Nat → Nat → Option Nat} {Q : Nat → Int → Option Nat} {G : Nat → Nat × Int} {M : Nat → Prop} {x s h hq sc sg ar : Nat} {W SV T : Int → Int} {n len : Int} (hI : cI K N I A R Q G M x s h hq sc sg ar W n SV T len) (hlen : 0 ≤ len ∧ len ≤ 100) : gC Y yL_isCounted cL_isCounted 1 (some .boolean) ({ frames := 9, cells := 8, slots := 48, locals := 165 } : Room) [.ref x] K N I A R Q (lqP K N I A R Q M x s h hq sc sg ar (vi 1) W n SV T len) gno := by
  have hN := hI.hN.1
  obtain ⟨b1, b2, b3, b4, b5, b6, b7, b8, b9, b10, b11, b12⟩ := hN.books
  refine gC_of (by decide) (Nat.le_of_ble_eq_true rfl) (fun X => ?_)
  refine g_aload_n dL_isCounted_0 rfl rfl ?_
  refine g_iconst dL_isCounted_1 ?_
  refine g_callH (k_T_3 Y hI hlen) u_L_total mw_974 dL_isCounted_2 rfl rfl ⟨Nat.le_of_ble_eq_true rfl, Nat.le_of_ble_eq_true rfl⟩ ⟨Nat.le_of_ble_eq_true rfl, Nat.le_of_ble_eq_true rfl⟩ (Nat.le_of_ble_eq_true rfl) (fun v1 K1 N1 I1 A1 R1 Q1 hp1 => ?_)
  obtain ⟨rfl, G1, hI1, hf1⟩ := hp1
  refine g_aload_n dL_isCounted_5 rfl rfl ?_
  refine g_iconst dL_isCounted_6 ?_
  refine g_callH (k_T_4 Y hI1 hlen) u_L_total mw_974 dL_isCounted_7 rfl rfl ⟨Nat.le_of_ble_eq_true rfl, Nat.le_of_ble_eq_true rfl⟩ ⟨Nat.le_of_ble_eq_true rfl, Nat.le_of_ble_eq_true rfl⟩ (Nat.le_of_ble_eq_true rfl) (fun v2 K2 N2 I2 A2 R2 Q2 hp2 => ?_)
  obtain ⟨rfl, G2, hI2, hf2⟩ := hp2
  refine g_aload_n dL_isCounted_10 rfl rfl ?_
  refine g_iconst dL_isCounted_11 ?_
  refine g_callH (k_T_5 Y hI2 hlen) u_L_total mw_974 dL_isCounted_12 rfl rfl ⟨Nat.le_of_ble_eq_true rfl, Nat.le_of_ble_eq_true rfl⟩ ⟨Nat.le_of_ble_eq_true rfl, Nat.le_of_ble_eq_true rfl⟩ (Nat.le_of_ble_eq_true rfl) (fun v3 K3 N3 I3 A3 R3 Q3 hp3 => ?_)
  obtain ⟨rfl, G3, hI3, hf3⟩ := hp3
  refine g_ladd dL_isCounted_15 ?_
  refine g_aload_n dL_isCounted_16 rfl rfl ?_
  refine g_bipush dL_isCounted_17 (by decide) ?_
  refine g_callH (k_T_6 Y hI3 hlen) u_L_total mw_974 dL_isCounted_19 rfl rfl ⟨Nat.le_of_ble_eq_true rfl, Nat.le_of_ble_eq_true rfl⟩ ⟨Nat.le_of_ble_eq_true rfl, Nat.le_of_ble_eq_true rfl⟩ (Nat.le_of_ble_eq_true rfl) (fun v4 K4 N4 I4 A4 R4 Q4 hp4 => ?_)
  obtain ⟨rfl, G4, hI4, hf4⟩ := hp4
  refine g_ladd dL_isCounted_22 ?_
  refine g_aload_n dL_isCounted_23 rfl rfl ?_
  refine g_bipush dL_isCounted_24 (by decide) ?_
  refine g_callH (k_T_7 Y hI4 hlen) u_L_total mw_974 dL_isCounted_26 rfl rfl ⟨Nat.le_of_ble_eq_true rfl, Nat.le_of_ble_eq_true rfl⟩ ⟨Nat.le_of_ble_eq_true rfl, Nat.le_of_ble_eq_true rfl⟩ (Nat.le_of_ble_eq_true rfl) (fun v5 K5 N5 I5 A5 R5 Q5 hp5 => ?_)
  obtain ⟨rfl, G5, hI5, hf5⟩ := hp5
  refine g_aload_n dL_isCounted_29 rfl rfl ?_
  refine g_iconst dL_isCounted_30 ?_
  refine g_callH (k_T_1 Y hI5 hlen) u_L_total mw_974 dL_isCounted_31 rfl rfl ⟨Nat.le_of_ble_eq_true rfl, Nat.le_of_ble_eq_true rfl⟩ ⟨Nat.le_of_ble_eq_true rfl, Nat.le_of_ble_eq_true rfl⟩ (Nat.le_of_ble_eq_true rfl) (fun v6 K6 N6 I6 A6 R6 Q6 hp6 => ?_)
  obtain ⟨rfl, G6, hI6, hf6⟩ := hp6
  refine g_lmul dL_isCounted_34 ?_
  refine g_ladd dL_isCounted_35 ?_
  refine g_aload_n dL_isCounted_36 rfl rfl ?_
  refine g_bipush dL_isCounted_37 (by decide) ?_
  refine g_callH (k_T_8 Y hI6 hlen) u_L_total mw_974 dL_isCounted_39 rfl rfl ⟨Nat.le_of_ble_eq_true rfl, Nat.le_of_ble_eq_true rfl⟩ ⟨Nat.le_of_ble_eq_true rfl, Nat.le_of_ble_eq_true rfl⟩ (Nat.le_of_ble_eq_true rfl) (fun v7 K7 N7 I7 A7 R7 Q7 hp7 => ?_)
  obtain ⟨rfl, G7, hI7, hf7⟩ := hp7
  refine g_ladd dL_isCounted_42 ?_
  refine g_lcmp_ne (tgt := 51) dL_isCounted_43 dL_isCounted_44 (by decide) (by omega) (by omega) (fun c_43 => ?_) (fun c_43 => ?_)
  · exact (show False by omega).elim
  · refine g_iconst dL_isCounted_47 ?_
    refine g_goto (tgt := 52) dL_isCounted_48 (by decide) ?_
    exact g_zret dL_isCounted_52 rfl (Or.inr rfl) (by decide) (by decide) ⟨rfl, _, hI7, (hf1.trans (hf2.trans (hf3.trans (hf4.trans (hf5.trans (hf6.trans hf7))))))⟩
/-! ===== areValues ===== -/
theorem u_L_areValues : gUS yL_areValues cL_areValues 10 (some .boolean) 1 := ⟨⟨mw_1011, mw_1010, mw_19⟩, by decide, by decide, by decide +kernel⟩
set_option maxHeartbeats 4000000 in
set_option maxRecDepth 100000 in
theorem jp_vals_188 {Y : gEnv} {X : gCtx} {po : gPo} {k0 n0 : Nat} {K N : Nat → Nat} {I : Nat → Nat → Int} {A : Nat → Int → Int} {R : Nat → Nat → Option Nat} {Q : Nat → Int → Option Nat} {G : Nat → Nat × Int} {M : Nat → Prop} {x s h hq sc sg ar : Nat} {W SV T : Int → Int} {n len : Int} (hI : cI K N I A R Q G M x s h hq sc sg ar W n SV T len) (hlen : 0 ≤ len ∧ len ≤ 100) (hpo : ∀ (K' N' : Nat → Nat) (I' : Nat → Nat → Int) (A' : Nat → Int → Int) (R' : Nat → Nat → Option Nat) (Q' : Nat → Int → Option Nat) (G' : Nat → Nat × Int), cI K' N' I' A' R' Q' G' M x s h hq sc sg ar W n SV T len → gFm M K N I A R Q K' N' I' A' R' Q' → po (some (vi 1)) K' N' I' A' R' Q') (hk : k0 + 10 ≤ 3400) (hn0 : n0 + 60 ≤ 20400) : gJ Y X yL_areValues cL_areValues 10 (some .boolean) ({ frames := 9, cells := 3400, slots := 20400, locals := 165 } : Room) po gno k0 n0 188 [(7, vl (sumV W)), (5, vl (sumO W)), (3, vl (sBoxes W)), (1, vl (sLoose W)), (0, .ref x)] [] K N I A R Q := by
  have hv17 : W 1617 = sumV W := hI.hN.1.books.2.1
  refine g_lload_n dL_areValues_188 rfl rfl ?_
  refine g_aload_n dL_areValues_189 rfl rfl ?_
  refine g_bipush dL_areValues_190 (by decide) ?_
  refine g_callH (k_T_6 Y hI hlen) u_L_total mw_974 dL_areValues_192 rfl rfl ⟨Nat.le_of_ble_eq_true rfl, Nat.le_of_ble_eq_true rfl⟩ ⟨by show _ ≤ (3400 : Nat); dsimp only; omega, by show _ ≤ (20400 : Nat); dsimp only; omega⟩ (Nat.le_of_ble_eq_true rfl) (fun v1 K1 N1 I1 A1 R1 Q1 hp1 => ?_)
  obtain ⟨rfl, G1, hI1, hf1⟩ := hp1
  refine g_lcmp_ner (tgt := 244) dL_areValues_195 dL_areValues_196 (by decide) ?_
  refine g_lload_n dL_areValues_199 rfl rfl ?_
  refine g_aload_n dL_areValues_200 rfl rfl ?_
  refine g_bipush dL_areValues_201 (by decide) ?_
  refine g_callH (k_T_7 Y hI1 hlen) u_L_total mw_974 dL_areValues_203 rfl rfl ⟨Nat.le_of_ble_eq_true rfl, Nat.le_of_ble_eq_true rfl⟩ ⟨by show _ ≤ (3400 : Nat); dsimp only; omega, by show _ ≤ (20400 : Nat); dsimp only; omega⟩ (Nat.le_of_ble_eq_true rfl) (fun v2 K2 N2 I2 A2 R2 Q2 hp2 => ?_)
  obtain ⟨rfl, G2, hI2, hf2⟩ := hp2
  refine g_lcmp_ner (tgt := 244) dL_areValues_206 dL_areValues_207 (by decide) ?_
  refine g_lload dL_areValues_210 rfl ?_
  refine g_aload_n dL_areValues_212 rfl rfl ?_
  refine g_iconst dL_areValues_213 ?_
  refine g_callH (k_T_1 Y hI2 hlen) u_L_total mw_974 dL_areValues_214 rfl rfl ⟨Nat.le_of_ble_eq_true rfl, Nat.le_of_ble_eq_true rfl⟩ ⟨by show _ ≤ (3400 : Nat); dsimp only; omega, by show _ ≤ (20400 : Nat); dsimp only; omega⟩ (Nat.le_of_ble_eq_true rfl) (fun v3 K3 N3 I3 A3 R3 Q3 hp3 => ?_)
  obtain ⟨rfl, G3, hI3, hf3⟩ := hp3
  refine g_lmul dL_areValues_217 ?_
  refine g_aload_n dL_areValues_218 rfl rfl ?_
  refine g_bipush dL_areValues_219 (by decide) ?_
  refine g_callH (k_T_8 Y hI3 hlen) u_L_total mw_974 dL_areValues_221 rfl rfl ⟨Nat.le_of_ble_eq_true rfl, Nat.le_of_ble_eq_true rfl⟩ ⟨by show _ ≤ (3400 : Nat); dsimp only; omega, by show _ ≤ (20400 : Nat); dsimp only; omega⟩ (Nat.le_of_ble_eq_true rfl) (fun v4 K4 N4 I4 A4 R4 Q4 hp4 => ?_)
  obtain ⟨rfl, G4, hI4, hf4⟩ := hp4
  refine g_lcmp_ner (tgt := 244) dL_areValues_224 dL_areValues_225 (by decide) ?_
  refine g_lload dL_areValues_228 rfl ?_
  refine g_aload_n dL_areValues_230 rfl rfl ?_
  refine g_bipush dL_areValues_231 (by decide) ?_
  refine g_callH (k_T_14 Y hI4 hlen) u_L_total mw_974 dL_areValues_233 rfl rfl ⟨Nat.le_of_ble_eq_true rfl, Nat.le_of_ble_eq_true rfl⟩ ⟨by show _ ≤ (3400 : Nat); dsimp only; omega, by show _ ≤ (20400 : Nat); dsimp only; omega⟩ (Nat.le_of_ble_eq_true rfl) (fun v5 K5 N5 I5 A5 R5 Q5 hp5 => ?_)
  obtain ⟨rfl, G5, hI5, hf5⟩ := hp5
  rw [hv17]
  refine g_lcmp_ner (tgt := 244) dL_areValues_236 dL_areValues_237 (by decide) ?_
  refine g_iconst dL_areValues_240 ?_
  refine g_goto (tgt := 245) dL_areValues_241 (by decide) ?_
  exact g_zret dL_areValues_245 rfl (Or.inr rfl) (by show _ ≤ (3400 : Nat); dsimp only; omega) (by show _ ≤ (20400 : Nat); dsimp only; omega) (hpo _ _ _ _ _ _ _ hI5 (hf1.trans (hf2.trans (hf3.trans (hf4.trans hf5)))))
set_option maxHeartbeats 4000000 in
set_option maxRecDepth 100000 in
theorem lp_vals_126 {Y : gEnv} {X : gCtx} {po : gPo} {M : Nat → Prop} {x s h hq sc sg ar : Nat} {W SV T : Int → Int} {n len : Int} (hN : iN W) (hj : jN W) (hlen : 0 ≤ len ∧ len ≤ 100) : ∀ (f m : Nat) (d : Int) (k0 n0 : Nat) (K N : Nat → Nat) (I : Nat → Nat → Int) (A : Nat → Int → Int) (R : Nat → Nat → Option Nat) (Q : Nat → Int → Option Nat) (G : Nat → Nat × Int), m < f → 0 ≤ d → d + m = W 1615 → cI K N I A R Q G M x s h hq sc sg ar W n SV T len → (∀ (K' N' : Nat → Nat) (I' : Nat → Nat → Int) (A' : Nat → Int → Int) (R' : Nat → Nat → Option Nat) (Q' : Nat → Int → Option Nat) (G' : Nat → Nat × Int), cI K' N' I' A' R' Q' G' M x s h hq sc sg ar W n SV T len → gFm M K N I A R Q K' N' I' A' R' Q' → po (some (vi 1)) K' N' I' A' R' Q') → k0 + 10 * m + 12 ≤ 3400 → n0 + 60 * m + 72 ≤ 20400 → gJ Y X yL_areValues cL_areValues 10 (some .boolean) ({ frames := 9, cells := 3400, slots := 20400, locals := 165 } : Room) po gno k0 n0 126 [(9, vi (d)), (7, vl (sSum (fun j => W (1530 + j)) ((d : Int)).toNat 0)), (5, vl (sSum (fun j => W (1450 + j)) ((d : Int)).toNat 0)), (3, vl (sBoxes W)), (1, vl (sLoose W)), (0, .ref x)] [] K N I A R Q := by
  have hd := hN.2.2.2.2.2.1
  have h40 := hd.2.1
  intro f
  induction f with
  | zero => intro m d k0 n0 K N I A R Q G h; omega
  | succ f ih =>
  intro m d k0 n0 K N I A R Q G hf hd0 hm hI hpo hk hn0
  refine g_iload dL_areValues_126 rfl ?_
  refine g_aload_n dL_areValues_128 rfl rfl ?_
  refine g_bipush dL_areValues_129 (by decide) ?_
  refine g_callH (k_T_11 Y hI hlen) u_L_total mw_974 dL_areValues_131 rfl rfl ⟨Nat.le_of_ble_eq_true rfl, Nat.le_of_ble_eq_true rfl⟩ ⟨by show _ ≤ (3400 : Nat); dsimp only; omega, by show _ ≤ (20400 : Nat); dsimp only; omega⟩ (Nat.le_of_ble_eq_true rfl) (fun v1 K1 N1 I1 A1 R1 Q1 hp1 => ?_)
  obtain ⟨rfl, G1, hI1, hf1⟩ := hp1
  refine g_l2i dL_areValues_134 ?_
  refine g_icmp_ge (tgt := 188) dL_areValues_135 (by decide) (by omega) (by omega) (fun c_135 => ?_) (fun c_135 => ?_)
  · have ed : d = W 1615 := by omega
    subst ed
    refine g_locs (L' := [(7, vl (sumV W)), (5, vl (sumO W)), (3, vl (sBoxes W)), (1, vl (sLoose W)), (0, .ref x)]) (by exact ⟨rfl, rfl, rfl, rfl, rfl, trivial⟩) ?_
    exact jp_vals_188 hI1 hlen (fun K' N' I' A' R' Q' G' a b => hpo K' N' I' A' R' Q' G' a (hf1.trans b)) (by dsimp only; omega) (by dsimp only; omega)
  · have hdd := hd.2.2 d hd0 (by omega)
    have hjd := hj.2.2.2 d hd0 (by omega)
    have e1 : (sSum (fun j => W (1530 + j)) ((d + 1 : Int)).toNat 0) = (sSum (fun j => W (1530 + j)) ((d : Int)).toNat 0) + W (1530 + d) := sSum_snocI (f := fun j => W (1530 + j)) (g := fun j => W (1530 + j)) hd0 (fun _ _ _ => rfl)
    have e2 : (sSum (fun j => W (1450 + j)) ((d + 1 : Int)).toNat 0) = (sSum (fun j => W (1450 + j)) ((d : Int)).toNat 0) + W (1450 + d) := sSum_snocI (f := fun j => W (1450 + j)) (g := fun j => W (1450 + j)) hd0 (fun _ _ _ => rfl)
    refine g_lload dL_areValues_138 rfl ?_
    refine g_aload_n dL_areValues_140 rfl rfl ?_
    refine g_iload dL_areValues_141 rfl ?_
    refine g_iconst dL_areValues_143 ?_
    refine g_callH (k_D_2 Y hI1 d (by omega) h40) u_L_delivery mw_1012 dL_areValues_144 rfl rfl ⟨Nat.le_of_ble_eq_true rfl, Nat.le_of_ble_eq_true rfl⟩ ⟨by show _ ≤ (3400 : Nat); dsimp only; omega, by show _ ≤ (20400 : Nat); dsimp only; omega⟩ (Nat.le_of_ble_eq_true rfl) (fun v2 K2 N2 I2 A2 R2 Q2 hp2 => ?_)
    obtain ⟨rfl, G2, hI2, hf2⟩ := hp2
    refine g_ladd dL_areValues_147 ?_
    refine g_lstore dL_areValues_148 (by decide) ?_
    refine g_lload dL_areValues_150 rfl ?_
    refine g_aload_n dL_areValues_152 rfl rfl ?_
    refine g_iload dL_areValues_153 rfl ?_
    refine g_iconst dL_areValues_155 ?_
    refine g_callH (k_D_4 Y hI2 d (by omega) h40) u_L_delivery mw_1012 dL_areValues_156 rfl rfl ⟨Nat.le_of_ble_eq_true rfl, Nat.le_of_ble_eq_true rfl⟩ ⟨by show _ ≤ (3400 : Nat); dsimp only; omega, by show _ ≤ (20400 : Nat); dsimp only; omega⟩ (Nat.le_of_ble_eq_true rfl) (fun v3 K3 N3 I3 A3 R3 Q3 hp3 => ?_)
    obtain ⟨rfl, G3, hI3, hf3⟩ := hp3
    refine g_ladd dL_areValues_159 ?_
    refine g_lstore dL_areValues_160 (by decide) ?_
    refine g_aload_n dL_areValues_162 rfl rfl ?_
    refine g_iload dL_areValues_163 rfl ?_
    refine g_iconst dL_areValues_165 ?_
    refine g_callH (k_D_2 Y hI3 d (by omega) h40) u_L_delivery mw_1012 dL_areValues_166 rfl rfl ⟨Nat.le_of_ble_eq_true rfl, Nat.le_of_ble_eq_true rfl⟩ ⟨by show _ ≤ (3400 : Nat); dsimp only; omega, by show _ ≤ (20400 : Nat); dsimp only; omega⟩ (Nat.le_of_ble_eq_true rfl) (fun v4 K4 N4 I4 A4 R4 Q4 hp4 => ?_)
    obtain ⟨rfl, G4, hI4, hf4⟩ := hp4
    refine g_aload_n dL_areValues_169 rfl rfl ?_
    refine g_iload dL_areValues_170 rfl ?_
    refine g_iconst dL_areValues_172 ?_
    refine g_callH (k_D_1 Y hI4 d (by omega) h40) u_L_delivery mw_1012 dL_areValues_173 rfl rfl ⟨Nat.le_of_ble_eq_true rfl, Nat.le_of_ble_eq_true rfl⟩ ⟨by show _ ≤ (3400 : Nat); dsimp only; omega, by show _ ≤ (20400 : Nat); dsimp only; omega⟩ (Nat.le_of_ble_eq_true rfl) (fun v5 K5 N5 I5 A5 R5 Q5 hp5 => ?_)
    obtain ⟨rfl, G5, hI5, hf5⟩ := hp5
    refine g_lcmp_le (tgt := 182) dL_areValues_176 dL_areValues_177 (by decide) (by omega) (by omega) (fun c_176 => ?_) (fun c_176 => ?_)
    rotate_left
    · exact (show False by omega).elim
    refine g_iinc dL_areValues_182 rfl (by decide) ?_
    refine g_goto (tgt := 126) dL_areValues_185 (by decide) ?_
    refine g_locs (L' := [(9, vi (d + 1)), (7, vl (sSum (fun j => W (1530 + j)) ((d + 1 : Int)).toNat 0)), (5, vl (sSum (fun j => W (1450 + j)) ((d + 1 : Int)).toNat 0)), (3, vl (sBoxes W)), (1, vl (sLoose W)), (0, .ref x)]) ?_ (ih (m - 1) (d + 1) _ _ K5 N5 I5 A5 R5 Q5 _ (by omega) (by omega) (by omega) hI5 (fun K' N' I' A' R' Q' G' a b => hpo K' N' I' A' R' Q' G' a ((hf1.trans (hf2.trans (hf3.trans (hf4.trans hf5)))).trans b)) (by dsimp only; omega) (by dsimp only; omega))
    rw [e1, e2]
    exact ⟨rfl, rfl, rfl, rfl, rfl, rfl, trivial⟩
set_option maxHeartbeats 4000000 in
set_option maxRecDepth 100000 in
theorem lp_vals_7 {Y : gEnv} {X : gCtx} {po : gPo} {M : Nat → Prop} {x s h hq sc sg ar : Nat} {W SV T : Int → Int} {n len : Int} (hN : iN W) (hj : jN W) (hlen : 0 ≤ len ∧ len ≤ 100) : ∀ (f m : Nat) (l : Int) (k0 n0 : Nat) (K N : Nat → Nat) (I : Nat → Nat → Int) (A : Nat → Int → Int) (R : Nat → Nat → Option Nat) (Q : Nat → Int → Option Nat) (G : Nat → Nat × Int), m < f → 0 ≤ l → l + m = W 1614 → cI K N I A R Q G M x s h hq sc sg ar W n SV T len → (∀ (K' N' : Nat → Nat) (I' : Nat → Nat → Int) (A' : Nat → Int → Int) (R' : Nat → Nat → Option Nat) (Q' : Nat → Int → Option Nat) (G' : Nat → Nat × Int), cI K' N' I' A' R' Q' G' M x s h hq sc sg ar W n SV T len → gFm M K N I A R Q K' N' I' A' R' Q' → po (some (vi 1)) K' N' I' A' R' Q') → k0 + 18 * m + 440 ≤ 3400 → n0 + 108 * m + 2600 ≤ 20400 → gJ Y X yL_areValues cL_areValues 10 (some .boolean) ({ frames := 9, cells := 3400, slots := 20400, locals := 165 } : Room) po gno k0 n0 7 [(5, vi (l)), (3, vl (sSum (fun j => W (1050 + j)) ((l : Int)).toNat 0)), (1, vl (sSum (fun j => W (890 + j)) ((l : Int)).toNat 0)), (0, .ref x)] [] K N I A R Q := by
  have hL := hN.2.2.2.2.1
  have h160 := hL.2.1
  have hD := hN.2.2.2.2.2.1
  have h40 := hD.2.1
  have hD0 := hD.1
  intro f
  induction f with
  | zero => intro m l k0 n0 K N I A R Q G h; omega
  | succ f ih =>
  intro m l k0 n0 K N I A R Q G hf hl0 hm hI hpo hk hn0
  refine g_iload dL_areValues_7 rfl ?_
  refine g_aload_n dL_areValues_9 rfl rfl ?_
  refine g_bipush dL_areValues_10 (by decide) ?_
  refine g_callH (k_T_10 Y hI hlen) u_L_total mw_974 dL_areValues_12 rfl rfl ⟨Nat.le_of_ble_eq_true rfl, Nat.le_of_ble_eq_true rfl⟩ ⟨by show _ ≤ (3400 : Nat); dsimp only; omega, by show _ ≤ (20400 : Nat); dsimp only; omega⟩ (Nat.le_of_ble_eq_true rfl) (fun v1 K1 N1 I1 A1 R1 Q1 hp1 => ?_)
  obtain ⟨rfl, G1, hI1, hf1⟩ := hp1
  refine g_l2i dL_areValues_15 ?_
  refine g_icmp_ge (tgt := 117) dL_areValues_16 (by decide) (by omega) (by omega) (fun c_16 => ?_) (fun c_16 => ?_)
  · have ed : l = W 1614 := by omega
    subst ed
    refine g_lconst (c := 0) dL_areValues_117 (by decide) ?_
    refine g_lstore dL_areValues_118 (by decide) ?_
    refine g_lconst (c := 0) dL_areValues_120 (by decide) ?_
    refine g_lstore dL_areValues_121 (by decide) ?_
    refine g_iconst dL_areValues_123 ?_
    refine g_istore dL_areValues_124 (by decide) ?_
    refine g_locs (L' := [(9, vi (0)), (7, vl (sSum (fun j => W (1530 + j)) ((0 : Int)).toNat 0)), (5, vl (sSum (fun j => W (1450 + j)) ((0 : Int)).toNat 0)), (3, vl (sBoxes W)), (1, vl (sLoose W)), (0, .ref x)]) (by exact ⟨rfl, rfl, rfl, rfl, rfl, rfl, trivial⟩) ?_
    exact lp_vals_126 hN hj hlen _ (W 1615).toNat 0 _ _ K1 N1 I1 A1 R1 Q1 _ (Nat.lt_succ_self _) (Int.le_refl _) (by omega) hI1 (fun K' N' I' A' R' Q' G' a b => hpo K' N' I' A' R' Q' G' a (hf1.trans b)) (by dsimp only; omega) (by dsimp only; omega)
  · have hll := hL.2.2.1 l hl0 (by omega)
    have hlt := hN.lot hl0 (by omega : l < W 1614)
    have hjl := hj.2.2.1 l hl0 (by omega)
    have e1 : (sSum (fun j => W (1050 + j)) ((l + 1 : Int)).toNat 0) = (sSum (fun j => W (1050 + j)) ((l : Int)).toNat 0) + W (1050 + l) := sSum_snocI (f := fun j => W (1050 + j)) (g := fun j => W (1050 + j)) hl0 (fun _ _ _ => rfl)
    have e2 : (sSum (fun j => W (890 + j)) ((l + 1 : Int)).toNat 0) = (sSum (fun j => W (890 + j)) ((l : Int)).toNat 0) + W (890 + l) := sSum_snocI (f := fun j => W (890 + j)) (g := fun j => W (890 + j)) hl0 (fun _ _ _ => rfl)
    refine g_lload_n dL_areValues_19 rfl rfl ?_
    refine g_aload_n dL_areValues_20 rfl rfl ?_
    refine g_iload dL_areValues_21 rfl ?_
    refine g_iconst dL_areValues_23 ?_
    refine g_callH (k_Q_3 Y hI1 l (by omega) h160) u_L_lot mw_712 dL_areValues_24 rfl rfl ⟨Nat.le_of_ble_eq_true rfl, Nat.le_of_ble_eq_true rfl⟩ ⟨by show _ ≤ (3400 : Nat); dsimp only; omega, by show _ ≤ (20400 : Nat); dsimp only; omega⟩ (Nat.le_of_ble_eq_true rfl) (fun v2 K2 N2 I2 A2 R2 Q2 hp2 => ?_)
    obtain ⟨rfl, G2, hI2, hf2⟩ := hp2
    refine g_i2l dL_areValues_27 (by omega) ?_
    refine g_ladd dL_areValues_28 ?_
    refine g_lstore_n dL_areValues_29 rfl (by decide) ?_
    refine g_lload_n dL_areValues_30 rfl rfl ?_
    refine g_aload_n dL_areValues_31 rfl rfl ?_
    refine g_iload dL_areValues_32 rfl ?_
    refine g_iconst dL_areValues_34 ?_
    refine g_callH (k_Q_4 Y hI2 l (by omega) h160) u_L_lot mw_712 dL_areValues_35 rfl rfl ⟨Nat.le_of_ble_eq_true rfl, Nat.le_of_ble_eq_true rfl⟩ ⟨by show _ ≤ (3400 : Nat); dsimp only; omega, by show _ ≤ (20400 : Nat); dsimp only; omega⟩ (Nat.le_of_ble_eq_true rfl) (fun v3 K3 N3 I3 A3 R3 Q3 hp3 => ?_)
    obtain ⟨rfl, G3, hI3, hf3⟩ := hp3
    refine g_i2l dL_areValues_38 (by omega) ?_
    refine g_ladd dL_areValues_39 ?_
    refine g_lstore_n dL_areValues_40 rfl (by decide) ?_
    refine g_aload_n dL_areValues_41 rfl rfl ?_
    refine g_iload dL_areValues_42 rfl ?_
    refine g_iconst dL_areValues_44 ?_
    refine g_callH (k_Q_5 Y hI3 l (by omega) h160) u_L_lot mw_712 dL_areValues_45 rfl rfl ⟨Nat.le_of_ble_eq_true rfl, Nat.le_of_ble_eq_true rfl⟩ ⟨by show _ ≤ (3400 : Nat); dsimp only; omega, by show _ ≤ (20400 : Nat); dsimp only; omega⟩ (Nat.le_of_ble_eq_true rfl) (fun v4 K4 N4 I4 A4 R4 Q4 hp4 => ?_)
    obtain ⟨rfl, G4, hI4, hf4⟩ := hp4
    refine g_i2l dL_areValues_48 (by omega) ?_
    refine g_aload_n dL_areValues_49 rfl rfl ?_
    refine g_iload dL_areValues_50 rfl ?_
    refine g_iconst dL_areValues_52 ?_
    refine g_callH (k_Q_3 Y hI4 l (by omega) h160) u_L_lot mw_712 dL_areValues_53 rfl rfl ⟨Nat.le_of_ble_eq_true rfl, Nat.le_of_ble_eq_true rfl⟩ ⟨by show _ ≤ (3400 : Nat); dsimp only; omega, by show _ ≤ (20400 : Nat); dsimp only; omega⟩ (Nat.le_of_ble_eq_true rfl) (fun v5 K5 N5 I5 A5 R5 Q5 hp5 => ?_)
    obtain ⟨rfl, G5, hI5, hf5⟩ := hp5
    refine g_i2l dL_areValues_56 (by omega) ?_
    refine g_aload_n dL_areValues_57 rfl rfl ?_
    refine g_iload dL_areValues_58 rfl ?_
    refine g_iconst dL_areValues_60 ?_
    refine g_callH (k_Q_4 Y hI5 l (by omega) h160) u_L_lot mw_712 dL_areValues_61 rfl rfl ⟨Nat.le_of_ble_eq_true rfl, Nat.le_of_ble_eq_true rfl⟩ ⟨by show _ ≤ (3400 : Nat); dsimp only; omega, by show _ ≤ (20400 : Nat); dsimp only; omega⟩ (Nat.le_of_ble_eq_true rfl) (fun v6 K6 N6 I6 A6 R6 Q6 hp6 => ?_)
    obtain ⟨rfl, G6, hI6, hf6⟩ := hp6
    refine g_i2l dL_areValues_64 (by omega) ?_
    refine g_aload_n dL_areValues_65 rfl rfl ?_
    refine g_iconst dL_areValues_66 ?_
    refine g_callH (k_T_1 Y hI6 hlen) u_L_total mw_974 dL_areValues_67 rfl rfl ⟨Nat.le_of_ble_eq_true rfl, Nat.le_of_ble_eq_true rfl⟩ ⟨by show _ ≤ (3400 : Nat); dsimp only; omega, by show _ ≤ (20400 : Nat); dsimp only; omega⟩ (Nat.le_of_ble_eq_true rfl) (fun v7 K7 N7 I7 A7 R7 Q7 hp7 => ?_)
    obtain ⟨rfl, G7, hI7, hf7⟩ := hp7
    refine g_lmul dL_areValues_70 ?_
    refine g_ladd dL_areValues_71 ?_
    refine g_lcmp_gt (tgt := 101) dL_areValues_72 dL_areValues_73 (by decide) (by omega) (by omega) (fun c_72 => ?_) (fun c_72 => ?_)
    · exact (show False by omega).elim
    refine g_aload_n dL_areValues_76 rfl rfl ?_
    refine g_iload dL_areValues_77 rfl ?_
    refine g_iconst dL_areValues_79 ?_
    refine g_callH (k_Q_2 Y hI7 l (by omega) h160) u_L_lot mw_712 dL_areValues_80 rfl rfl ⟨Nat.le_of_ble_eq_true rfl, Nat.le_of_ble_eq_true rfl⟩ ⟨by show _ ≤ (3400 : Nat); dsimp only; omega, by show _ ≤ (20400 : Nat); dsimp only; omega⟩ (Nat.le_of_ble_eq_true rfl) (fun v8 K8 N8 I8 A8 R8 Q8 hp8 => ?_)
    obtain ⟨rfl, G8, hI8, hf8⟩ := hp8
    refine g_iconst dL_areValues_83 ?_
    refine g_icmp_eq (tgt := 97) dL_areValues_84 (by decide) (by omega) (by omega) (fun c_84 => ?_) (fun c_84 => ?_)
    · refine g_iconst dL_areValues_97 ?_
      refine g_goto (tgt := 102) dL_areValues_98 (by decide) ?_
      refine g_istore dL_areValues_102 (by decide) ?_
      refine g_iload dL_areValues_104 rfl ?_
      refine g_if_ne (tgt := 111) dL_areValues_106 (by decide) (by omega) (fun c_106 => ?_) (fun c_106 => ?_)
      rotate_left
      · exact (show False by omega).elim
      refine g_iinc dL_areValues_111 rfl (by decide) ?_
      refine g_goto (tgt := 7) dL_areValues_114 (by decide) ?_
      refine g_locs (L' := [(5, vi (l + 1)), (3, vl (sSum (fun j => W (1050 + j)) ((l + 1 : Int)).toNat 0)), (1, vl (sSum (fun j => W (890 + j)) ((l + 1 : Int)).toNat 0)), (0, .ref x)]) ?_ (ih (m - 1) (l + 1) _ _ K8 N8 I8 A8 R8 Q8 _ (by omega) (by omega) (by omega) hI8 (fun K' N' I' A' R' Q' G' a b => hpo K' N' I' A' R' Q' G' a ((hf1.trans (hf2.trans (hf3.trans (hf4.trans (hf5.trans (hf6.trans (hf7.trans hf8))))))).trans b)) (by dsimp only; omega) (by dsimp only; omega))
      rw [e1, e2]
      exact ⟨rfl, rfl, rfl, rfl, trivial⟩
    · refine g_aload_n dL_areValues_87 rfl rfl ?_
      refine g_iload dL_areValues_88 rfl ?_
      refine g_iconst dL_areValues_90 ?_
      refine g_callH (k_Q_5 Y hI8 l (by omega) h160) u_L_lot mw_712 dL_areValues_91 rfl rfl ⟨Nat.le_of_ble_eq_true rfl, Nat.le_of_ble_eq_true rfl⟩ ⟨by show _ ≤ (3400 : Nat); dsimp only; omega, by show _ ≤ (20400 : Nat); dsimp only; omega⟩ (Nat.le_of_ble_eq_true rfl) (fun v9 K9 N9 I9 A9 R9 Q9 hp9 => ?_)
      obtain ⟨rfl, G9, hI9, hf9⟩ := hp9
      refine g_if_ne (tgt := 101) dL_areValues_94 (by decide) (by omega) (fun c_94 => ?_) (fun c_94 => ?_)
      · exact (show False by omega).elim
      refine g_iconst dL_areValues_97 ?_
      refine g_goto (tgt := 102) dL_areValues_98 (by decide) ?_
      refine g_istore dL_areValues_102 (by decide) ?_
      refine g_iload dL_areValues_104 rfl ?_
      refine g_if_ne (tgt := 111) dL_areValues_106 (by decide) (by omega) (fun c_106 => ?_) (fun c_106 => ?_)
      rotate_left
      · exact (show False by omega).elim
      refine g_iinc dL_areValues_111 rfl (by decide) ?_
      refine g_goto (tgt := 7) dL_areValues_114 (by decide) ?_
      refine g_locs (L' := [(5, vi (l + 1)), (3, vl (sSum (fun j => W (1050 + j)) ((l + 1 : Int)).toNat 0)), (1, vl (sSum (fun j => W (890 + j)) ((l + 1 : Int)).toNat 0)), (0, .ref x)]) ?_ (ih (m - 1) (l + 1) _ _ K9 N9 I9 A9 R9 Q9 _ (by omega) (by omega) (by omega) hI9 (fun K' N' I' A' R' Q' G' a b => hpo K' N' I' A' R' Q' G' a ((hf1.trans (hf2.trans (hf3.trans (hf4.trans (hf5.trans (hf6.trans (hf7.trans (hf8.trans hf9)))))))).trans b)) (by dsimp only; omega) (by dsimp only; omega))
      rw [e1, e2]
      exact ⟨rfl, rfl, rfl, rfl, trivial⟩
set_option maxHeartbeats 4000000 in
set_option maxRecDepth 100000 in
theorem k_L_areValues (Y : gEnv) {K N : Nat → Nat} {I : Nat → Nat → Int} {A : Nat → Int → Int} {R : Nat → Nat → Option Nat} {Q : Nat → Int → Option Nat} {G : Nat → Nat × Int} {M : Nat → Prop} {x s h hq sc sg ar : Nat} {W SV T : Int → Int} {n len : Int} (hI : cI K N I A R Q G M x s h hq sc sg ar W n SV T len) (hj : jN W) (hlen : 0 ≤ len ∧ len ≤ 100) : gC Y yL_areValues cL_areValues 10 (some .boolean) ({ frames := 9, cells := 3400, slots := 20400, locals := 165 } : Room) [.ref x] K N I A R Q (lqP K N I A R Q M x s h hq sc sg ar (vi 1) W n SV T len) gno := by
  have hN := hI.hN.1
  have h160 := hN.2.2.2.2.1.2.1
  have h0 := hN.2.2.2.2.1.1
  refine gC_of (by decide) (Nat.le_of_ble_eq_true rfl) (fun X => ?_)
  refine g_lconst (c := 0) dL_areValues_0 (by decide) ?_
  refine g_lstore_n dL_areValues_1 rfl (by decide) ?_
  refine g_lconst (c := 0) dL_areValues_2 (by decide) ?_
  refine g_lstore_n dL_areValues_3 rfl (by decide) ?_
  refine g_iconst dL_areValues_4 ?_
  refine g_istore dL_areValues_5 (by decide) ?_
  refine g_locs (L' := [(5, vi (0)), (3, vl (sSum (fun j => W (1050 + j)) ((0 : Int)).toNat 0)), (1, vl (sSum (fun j => W (890 + j)) ((0 : Int)).toNat 0)), (0, .ref x)]) (by exact ⟨rfl, rfl, rfl, rfl, trivial⟩) ?_
  exact lp_vals_7 hN hj hlen _ (W 1614).toNat 0 0 0 K N I A R Q G (Nat.lt_succ_self _) (Int.le_refl _) (by omega) hI (fun K' N' I' A' R' Q' G' a b => ⟨rfl, G', a, b⟩) (by omega) (by omega)
/-! ===== areAlike: of two factories with the same numbers ===== -/
theorem u_L_areAlike : gUS yL_areAlike cL_areAlike 4 (some .boolean) 2 := ⟨⟨mw_1027, mw_1026, mw_19⟩, by decide, by decide, by decide +kernel⟩
set_option maxHeartbeats 4000000 in
set_option maxRecDepth 100000 in
theorem lp_alike_42 {Y : gEnv} {X : gCtx} {po : gPo} {x s h hq sc sg ar x' s' h' hq' sc' sg' ar' : Nat} {W SV T : Int → Int} {n len : Int} (hlen : 0 ≤ len ∧ len ≤ 100) (hpo : ∀ (K' N' : Nat → Nat) (I' : Nat → Nat → Int) (A' : Nat → Int → Int) (R' : Nat → Nat → Option Nat) (Q' : Nat → Int → Option Nat), po (some (vi 1)) K' N' I' A' R' Q') : ∀ (f m : Nat) (u : Int) (k0 n0 : Nat) (K N : Nat → Nat) (I : Nat → Nat → Int) (A : Nat → Int → Int) (R : Nat → Nat → Option Nat) (Q : Nat → Int → Option Nat), m < f → 0 ≤ u → u + m = 5 → pI K N I A R Q x s h hq sc sg ar x' s' h' hq' sc' sg' ar' W n SV T len W n SV T len → k0 + 12 * m ≤ 120 → n0 + 72 * m ≤ 720 → gJ Y X yL_areAlike cL_areAlike 4 (some .boolean) ({ frames := 9, cells := 120, slots := 720, locals := 165 } : Room) po gno k0 n0 42 [(3, vi (u)), (2, vi 1), (1, .ref x'), (0, .ref x)] [] K N I A R Q := by
  intro f
  induction f with
  | zero => intro m u k0 n0 K N I A R Q h; omega
  | succ f ih =>
  intro m u k0 n0 K N I A R Q hf hu hm hP hk hn0
  refine g_iload_n dL_areAlike_42 rfl rfl ?_
  refine g_iconst dL_areAlike_43 ?_
  refine g_icmp_ge (tgt := 123) dL_areAlike_44 (by decide) (by omega) (by omega) (fun c_44 => ?_) (fun c_44 => ?_)
  · refine g_iload_n dL_areAlike_123 rfl rfl ?_
    exact g_zret dL_areAlike_124 rfl (Or.inr rfl) (by show k0 ≤ (120 : Nat); omega) (by show n0 ≤ (720 : Nat); omega) (hpo _ _ _ _ _ _)
  · refine g_iload_n dL_areAlike_47 rfl rfl ?_
    refine g_if_eq (tgt := 115) dL_areAlike_48 (by decide) (by omega) (fun c_48 => ?_) (fun c_48 => ?_)
    · exact (show False by omega).elim
    refine g_aload_n dL_areAlike_51 rfl rfl ?_
    refine g_iload_n dL_areAlike_52 rfl rfl ?_
    refine g_iconst dL_areAlike_53 ?_
    obtain ⟨G1, Gq1, a1, b1⟩ := hP
    refine g_callH (k_L_event Y a1 u 0 (cd1r _) (k_A_event Y a1 u (by omega) 0 (by omega))) u_L_event mw_854 dL_areAlike_54 rfl rfl ⟨Nat.le_of_ble_eq_true rfl, Nat.le_of_ble_eq_true rfl⟩ ⟨by show _ ≤ (120 : Nat); dsimp only; omega, by show _ ≤ (720 : Nat); dsimp only; omega⟩ (Nat.le_of_ble_eq_true rfl) (fun v1 K1 N1 I1 A1 R1 Q1 hp1 => ?_)
    obtain ⟨rfl, H1, c1, f1⟩ := hp1
    have hP1 := pI.mk b1 c1 f1
    refine g_aload_n dL_areAlike_57 rfl rfl ?_
    refine g_iload_n dL_areAlike_58 rfl rfl ?_
    refine g_iconst dL_areAlike_59 ?_
    obtain ⟨G2, Gq2, a2, b2⟩ := hP1.sym
    refine g_callH (k_L_event Y a2 u 0 (cd1r _) (k_A_event Y a2 u (by omega) 0 (by omega))) u_L_event mw_854 dL_areAlike_60 rfl rfl ⟨Nat.le_of_ble_eq_true rfl, Nat.le_of_ble_eq_true rfl⟩ ⟨by show _ ≤ (120 : Nat); dsimp only; omega, by show _ ≤ (720 : Nat); dsimp only; omega⟩ (Nat.le_of_ble_eq_true rfl) (fun v2 K2 N2 I2 A2 R2 Q2 hp2 => ?_)
    obtain ⟨rfl, H2, c2, f2⟩ := hp2
    have hP2 := (pI.mk b2 c2 f2).sym
    refine g_icmp_ner (tgt := 115) dL_areAlike_63 (by decide) ?_
    refine g_aload_n dL_areAlike_66 rfl rfl ?_
    refine g_iload_n dL_areAlike_67 rfl rfl ?_
    refine g_iconst dL_areAlike_68 ?_
    obtain ⟨G3, Gq3, a3, b3⟩ := hP2
    refine g_callH (k_L_event Y a3 u 1 (cd1r _) (k_A_event Y a3 u (by omega) 1 (by omega))) u_L_event mw_854 dL_areAlike_69 rfl rfl ⟨Nat.le_of_ble_eq_true rfl, Nat.le_of_ble_eq_true rfl⟩ ⟨by show _ ≤ (120 : Nat); dsimp only; omega, by show _ ≤ (720 : Nat); dsimp only; omega⟩ (Nat.le_of_ble_eq_true rfl) (fun v3 K3 N3 I3 A3 R3 Q3 hp3 => ?_)
    obtain ⟨rfl, H3, c3, f3⟩ := hp3
    have hP3 := pI.mk b3 c3 f3
    refine g_aload_n dL_areAlike_72 rfl rfl ?_
    refine g_iload_n dL_areAlike_73 rfl rfl ?_
    refine g_iconst dL_areAlike_74 ?_
    obtain ⟨G4, Gq4, a4, b4⟩ := hP3.sym
    refine g_callH (k_L_event Y a4 u 1 (cd1r _) (k_A_event Y a4 u (by omega) 1 (by omega))) u_L_event mw_854 dL_areAlike_75 rfl rfl ⟨Nat.le_of_ble_eq_true rfl, Nat.le_of_ble_eq_true rfl⟩ ⟨by show _ ≤ (120 : Nat); dsimp only; omega, by show _ ≤ (720 : Nat); dsimp only; omega⟩ (Nat.le_of_ble_eq_true rfl) (fun v4 K4 N4 I4 A4 R4 Q4 hp4 => ?_)
    obtain ⟨rfl, H4, c4, f4⟩ := hp4
    have hP4 := (pI.mk b4 c4 f4).sym
    refine g_icmp_ner (tgt := 115) dL_areAlike_78 (by decide) ?_
    refine g_aload_n dL_areAlike_81 rfl rfl ?_
    refine g_iload_n dL_areAlike_82 rfl rfl ?_
    refine g_iconst dL_areAlike_83 ?_
    obtain ⟨G5, Gq5, a5, b5⟩ := hP4
    refine g_callH (k_L_lot Y a5 u 3 (cd2r _ _) (k_A_lot Y a5 u (by omega) 3 (by omega))) u_L_lot mw_712 dL_areAlike_84 rfl rfl ⟨Nat.le_of_ble_eq_true rfl, Nat.le_of_ble_eq_true rfl⟩ ⟨by show _ ≤ (120 : Nat); dsimp only; omega, by show _ ≤ (720 : Nat); dsimp only; omega⟩ (Nat.le_of_ble_eq_true rfl) (fun v5 K5 N5 I5 A5 R5 Q5 hp5 => ?_)
    obtain ⟨rfl, H5, c5, f5⟩ := hp5
    have hP5 := pI.mk b5 c5 f5
    refine g_aload_n dL_areAlike_87 rfl rfl ?_
    refine g_iload_n dL_areAlike_88 rfl rfl ?_
    refine g_iconst dL_areAlike_89 ?_
    obtain ⟨G6, Gq6, a6, b6⟩ := hP5.sym
    refine g_callH (k_L_lot Y a6 u 3 (cd2r _ _) (k_A_lot Y a6 u (by omega) 3 (by omega))) u_L_lot mw_712 dL_areAlike_90 rfl rfl ⟨Nat.le_of_ble_eq_true rfl, Nat.le_of_ble_eq_true rfl⟩ ⟨by show _ ≤ (120 : Nat); dsimp only; omega, by show _ ≤ (720 : Nat); dsimp only; omega⟩ (Nat.le_of_ble_eq_true rfl) (fun v6 K6 N6 I6 A6 R6 Q6 hp6 => ?_)
    obtain ⟨rfl, H6, c6, f6⟩ := hp6
    have hP6 := (pI.mk b6 c6 f6).sym
    refine g_icmp_ner (tgt := 115) dL_areAlike_93 (by decide) ?_
    refine g_aload_n dL_areAlike_96 rfl rfl ?_
    refine g_iload_n dL_areAlike_97 rfl rfl ?_
    refine g_iconst dL_areAlike_98 ?_
    obtain ⟨G7, Gq7, a7, b7⟩ := hP6
    refine g_callH (k_L_lot Y a7 u 5 (cd2r _ _) (k_A_lot Y a7 u (by omega) 5 (by omega))) u_L_lot mw_712 dL_areAlike_99 rfl rfl ⟨Nat.le_of_ble_eq_true rfl, Nat.le_of_ble_eq_true rfl⟩ ⟨by show _ ≤ (120 : Nat); dsimp only; omega, by show _ ≤ (720 : Nat); dsimp only; omega⟩ (Nat.le_of_ble_eq_true rfl) (fun v7 K7 N7 I7 A7 R7 Q7 hp7 => ?_)
    obtain ⟨rfl, H7, c7, f7⟩ := hp7
    have hP7 := pI.mk b7 c7 f7
    refine g_aload_n dL_areAlike_102 rfl rfl ?_
    refine g_iload_n dL_areAlike_103 rfl rfl ?_
    refine g_iconst dL_areAlike_104 ?_
    obtain ⟨G8, Gq8, a8, b8⟩ := hP7.sym
    refine g_callH (k_L_lot Y a8 u 5 (cd2r _ _) (k_A_lot Y a8 u (by omega) 5 (by omega))) u_L_lot mw_712 dL_areAlike_105 rfl rfl ⟨Nat.le_of_ble_eq_true rfl, Nat.le_of_ble_eq_true rfl⟩ ⟨by show _ ≤ (120 : Nat); dsimp only; omega, by show _ ≤ (720 : Nat); dsimp only; omega⟩ (Nat.le_of_ble_eq_true rfl) (fun v8 K8 N8 I8 A8 R8 Q8 hp8 => ?_)
    obtain ⟨rfl, H8, c8, f8⟩ := hp8
    have hP8 := (pI.mk b8 c8 f8).sym
    refine g_icmp_ner (tgt := 115) dL_areAlike_108 (by decide) ?_
    refine g_iconst dL_areAlike_111 ?_
    refine g_goto (tgt := 116) dL_areAlike_112 (by decide) ?_
    refine g_istore_n dL_areAlike_116 rfl (by decide) ?_
    refine g_iinc dL_areAlike_117 rfl (by decide) ?_
    refine g_goto (tgt := 42) dL_areAlike_120 (by decide) ?_
    exact g_locs (by exact ⟨rfl, rfl, rfl, rfl, trivial⟩) (ih (m - 1) (u + 1) _ _ K8 N8 I8 A8 R8 Q8 (by omega) (by omega) (by omega) hP8 (by dsimp only; omega) (by dsimp only; omega))
set_option maxHeartbeats 4000000 in
set_option maxRecDepth 100000 in
theorem lp_alike_4 {Y : gEnv} {X : gCtx} {po : gPo} {x s h hq sc sg ar x' s' h' hq' sc' sg' ar' : Nat} {W SV T : Int → Int} {n len : Int} (hlen : 0 ≤ len ∧ len ≤ 100) (hpo : ∀ (K' N' : Nat → Nat) (I' : Nat → Nat → Int) (A' : Nat → Int → Int) (R' : Nat → Nat → Option Nat) (Q' : Nat → Int → Option Nat), po (some (vi 1)) K' N' I' A' R' Q') : ∀ (f m : Nat) (u : Int) (k0 n0 : Nat) (K N : Nat → Nat) (I : Nat → Nat → Int) (A : Nat → Int → Int) (R : Nat → Nat → Option Nat) (Q : Nat → Int → Option Nat), m < f → 0 ≤ u → u + m = 16 → pI K N I A R Q x s h hq sc sg ar x' s' h' hq' sc' sg' ar' W n SV T len W n SV T len → k0 + 2 * m + 60 ≤ 120 → n0 + 12 * m + 360 ≤ 720 → gJ Y X yL_areAlike cL_areAlike 4 (some .boolean) ({ frames := 9, cells := 120, slots := 720, locals := 165 } : Room) po gno k0 n0 4 [(3, vi (u)), (2, vi 1), (1, .ref x'), (0, .ref x)] [] K N I A R Q := by
  intro f
  induction f with
  | zero => intro m u k0 n0 K N I A R Q h; omega
  | succ f ih =>
  intro m u k0 n0 K N I A R Q hf hu hm hP hk hn0
  refine g_iload_n dL_areAlike_4 rfl rfl ?_
  refine g_bipush dL_areAlike_5 (by decide) ?_
  refine g_icmp_ge (tgt := 40) dL_areAlike_7 (by decide) (by omega) (by omega) (fun c_7 => ?_) (fun c_7 => ?_)
  · refine g_iconst dL_areAlike_40 ?_
    refine g_istore_n dL_areAlike_41 rfl (by decide) ?_
    exact g_locs (by exact ⟨rfl, rfl, rfl, rfl, trivial⟩) (lp_alike_42 hlen hpo 6 5 0 _ _ K N I A R Q (by omega) (by omega) (by omega) hP (by omega) (by omega))
  · refine g_iload_n dL_areAlike_10 rfl rfl ?_
    refine g_if_eq (tgt := 32) dL_areAlike_11 (by decide) (by omega) (fun c_11 => ?_) (fun c_11 => ?_)
    · exact (show False by omega).elim
    refine g_aload_n dL_areAlike_14 rfl rfl ?_
    refine g_iload_n dL_areAlike_15 rfl rfl ?_
    obtain ⟨G1, Gq1, a1, b1⟩ := hP
    refine g_callH (k_L_total Y a1 u (cd1r _) (k_A_total Y a1 u (by omega) hlen)) u_L_total mw_974 dL_areAlike_16 rfl rfl ⟨Nat.le_of_ble_eq_true rfl, Nat.le_of_ble_eq_true rfl⟩ ⟨by show _ ≤ (120 : Nat); dsimp only; omega, by show _ ≤ (720 : Nat); dsimp only; omega⟩ (Nat.le_of_ble_eq_true rfl) (fun v1 K1 N1 I1 A1 R1 Q1 hp1 => ?_)
    obtain ⟨rfl, H1, c1, f1⟩ := hp1
    have hP1 := pI.mk b1 c1 f1
    refine g_aload_n dL_areAlike_19 rfl rfl ?_
    refine g_iload_n dL_areAlike_20 rfl rfl ?_
    obtain ⟨G2, Gq2, a2, b2⟩ := hP1.sym
    refine g_callH (k_L_total Y a2 u (cd1r _) (k_A_total Y a2 u (by omega) hlen)) u_L_total mw_974 dL_areAlike_21 rfl rfl ⟨Nat.le_of_ble_eq_true rfl, Nat.le_of_ble_eq_true rfl⟩ ⟨by show _ ≤ (120 : Nat); dsimp only; omega, by show _ ≤ (720 : Nat); dsimp only; omega⟩ (Nat.le_of_ble_eq_true rfl) (fun v2 K2 N2 I2 A2 R2 Q2 hp2 => ?_)
    obtain ⟨rfl, H2, c2, f2⟩ := hp2
    have hP2 := (pI.mk b2 c2 f2).sym
    refine g_lcmp_ner (tgt := 32) dL_areAlike_24 dL_areAlike_25 (by decide) ?_
    refine g_iconst dL_areAlike_28 ?_
    refine g_goto (tgt := 33) dL_areAlike_29 (by decide) ?_
    refine g_istore_n dL_areAlike_33 rfl (by decide) ?_
    refine g_iinc dL_areAlike_34 rfl (by decide) ?_
    refine g_goto (tgt := 4) dL_areAlike_37 (by decide) ?_
    exact g_locs (by exact ⟨rfl, rfl, rfl, rfl, trivial⟩) (ih (m - 1) (u + 1) _ _ K2 N2 I2 A2 R2 Q2 (by omega) (by omega) (by omega) hP2 (by dsimp only; omega) (by dsimp only; omega))
set_option maxHeartbeats 4000000 in
set_option maxRecDepth 100000 in
theorem k_L_areAlike (Y : gEnv) {K N : Nat → Nat} {I : Nat → Nat → Int} {A : Nat → Int → Int} {R : Nat → Nat → Option Nat} {Q : Nat → Int → Option Nat} {x s h hq sc sg ar x' s' h' hq' sc' sg' ar' : Nat} {W SV T : Int → Int} {n len : Int} (hP : pI K N I A R Q x s h hq sc sg ar x' s' h' hq' sc' sg' ar' W n SV T len W n SV T len) (hlen : 0 ≤ len ∧ len ≤ 100) : gC Y yL_areAlike cL_areAlike 4 (some .boolean) ({ frames := 9, cells := 120, slots := 720, locals := 165 } : Room) [.ref x, .ref x'] K N I A R Q (fun v _ _ _ _ _ _ => v = some (vi 1)) gno := by
  refine gC_of (by decide) (Nat.le_of_ble_eq_true rfl) (fun X => ?_)
  refine g_iconst dL_areAlike_0 ?_
  refine g_istore_n dL_areAlike_1 rfl (by decide) ?_
  refine g_iconst dL_areAlike_2 ?_
  refine g_istore_n dL_areAlike_3 rfl (by decide) ?_
  exact g_locs (by exact ⟨rfl, rfl, rfl, rfl, trivial⟩) (lp_alike_4 hlen (fun _ _ _ _ _ _ => rfl) 17 16 0 0 0 K N I A R Q (by omega) (by omega) (by omega) hP (by omega) (by omega))
