/-! ===== second grade hides nothing; of a delivery no more is out than was delivered ===== -/
def jN (w : Int → Int) : Prop := w 1614 ≤ 160 ∧ w 1615 ≤ 40 ∧ (∀ l, 0 ≤ l → l < w 1614 → w (730 + l) = 2 → w (1210 + l) = 0) ∧ ∀ d, 0 ≤ d → d < w 1615 → w (1450 + d) ≤ w (1410 + d)
theorem jN.of3 {w w' : Int → Int} (h : jN w) (e1 : ∀ j, 730 ≤ j → j < 890 → w' j = w j) (e2 : ∀ j, 1210 ≤ j → j < 1370 → w' j = w j) (e3 : ∀ j, 1410 ≤ j → j < 1490 → w' j = w j) (e4 : w' 1614 = w 1614) (e5 : w' 1615 = w 1615) : jN w' := by
  obtain ⟨h1, h2, h3, h4⟩ := h
  refine ⟨by omega, by omega, fun l a b c => ?_, fun d a b => ?_⟩
  · rw [e1 (730 + l) (by omega) (by omega)] at c
    rw [e2 (1210 + l) (by omega) (by omega)]
    exact h3 l a (by omega) c
  · rw [e3 (1450 + d) (by omega) (by omega), e3 (1410 + d) (by omega) (by omega)]
    exact h4 d a (by omega)
theorem jN.of {w w' : Int → Int} (h : jN w) (e : ∀ j, 730 ≤ j → j < 1570 → w' j = w j) (e4 : w' 1614 = w 1614) (e5 : w' 1615 = w 1615) : jN w' := h.of3 (fun j a b => e j a (by omega)) (fun j a b => e j (by omega) (by omega)) (fun j a b => e j (by omega) (by omega)) e4 e5
theorem jN.cg {w w' : Int → Int} (h : jN w) (e : ∀ j, 0 ≤ j → j < 1618 → w' j = w j) : jN w' := h.of (fun j a b => e j (by omega) (by omega)) (e _ (by omega) (by omega)) (e _ (by omega) (by omega))
theorem jN_sW0 : jN sW0 := ⟨by decide, by decide, fun l a b => absurd (show l < 0 from b) (by omega), fun d a b => absurd (show d < 0 from b) (by omega)⟩
theorem sMin_0 {x : Int} (h : 0 ≤ x) : sMin 0 x = 0 := by
  unfold sMin
  split <;> omega
def jL (w : Int → Int) : Prop := ∀ l, 0 ≤ l → l < w 1614 → w (730 + l) = 2 → w (1210 + l) = 0
theorem jL.add {w : Int → Int} (hj : jL w) (hL : iL w) (hZ : iZ w) {g s r t h : Int} (hg : 0 ≤ g ∧ g ≤ 3) (hs : 0 ≤ s ∧ s ≤ 19) (hr : 1 ≤ r ∧ r ≤ 2) (hh : r = 1 ∨ h = 0) : jL (sAdd w g s r t h) := by
  by_cases e0 : t = 0
  · have e1 : sAdd w g s r t h = w := by simp only [sAdd]; rw [if_pos e0]
    rw [e1]; exact hj
  obtain ⟨r1, r2, r3, r4, r5, k⟩ := sAdd_at (h := h) hL hZ hg hs hr e0
  have h1 := hL.1
  have h2 := hL.2.1
  unfold jL at hj ⊢
  generalize sAddL w g s r = l at *
  generalize hw' : sAdd w g s r t h = w' at *
  have k14 : w' 1614 = (if l = w 1614 then w 1614 + 1 else w 1614) := by
    rw [k, if_neg (by omega), if_neg (by omega)]
    split
    · rw [if_neg (by omega), if_neg (by omega), if_neg (by omega), if_pos rfl]
    · rfl
  have k73 : ∀ q, 0 ≤ q → q < 160 → w' (730 + q) = (if l = w 1614 ∧ q = l then r else w (730 + q)) := fun q a b => by
    rw [k, if_neg (by omega), if_neg (by omega)]
    by_cases e : l = w 1614
    · rw [if_pos e]
      by_cases e2 : q = l
      · rw [if_pos (by omega), if_pos ⟨e, e2⟩]
      · rw [if_neg (by omega), if_neg (by omega), if_neg (by omega), if_neg (by omega), if_neg (fun x => e2 x.2)]
    · rw [if_neg e, if_neg (fun x => e x.1)]
  have k12 : ∀ q, 0 ≤ q → q < 160 → w' (1210 + q) = (if q = l then (if l = w 1614 then 0 else w (1210 + q)) + h else w (1210 + q)) := fun q a b => by
    rw [k]
    by_cases e2 : q = l
    · subst e2
      rw [if_pos rfl, if_pos rfl]
    · rw [if_neg (by omega), if_neg (by omega), if_neg e2]
      split
      · rw [if_neg (by omega), if_neg (by omega), if_neg (by omega), if_neg (by omega)]
      · rfl
  intro q a b c
  rw [k14] at b
  have hq : q < 160 := by split at b <;> omega
  rw [k73 q a hq] at c
  rw [k12 q a hq]
  by_cases e2 : q = l
  · rw [if_pos e2]
    by_cases e : l = w 1614
    · rw [if_pos ⟨e, e2⟩] at c
      rw [if_pos e]
      omega
    · rw [if_neg (fun x => e x.1)] at c
      rw [if_neg e] at b ⊢
      have h3 := hj q a b c
      have h4 := r4 (by omega)
      rw [e2] at c
      omega
  · rw [if_neg e2]
    rw [if_neg (fun x => e2 x.2)] at c
    exact hj q a (by split at b <;> omega) c
theorem jL.all {w0 : Int → Int} {ps : Int} (h0 : iN w0) : ∀ (n : Nat) (p : Int) (w : Int → Int), 0 ≤ p → p + n = w0 1613 → gI w0 p w → jL w → jL (sGrL ps n p w)
  | 0, p, w, h1, h2, h3, hj => hj
  | n + 1, p, w, h1, h2, h3, hj => by
    obtain ⟨h4, h5, h6, h7, h8, h9⟩ := h3.step (ps := ps) h0 (by omega)
    obtain ⟨b1, b2, b3⟩ := h3.lem (ps := ps) h0 (by omega)
    exact jL.all h0 n (p + 1) _ (by omega) (by omega) h4 (jL.add (jL.add hj h3.1 h3.2.1 b1 b2 (by omega) (Or.inl rfl)) h8 h9 b1 b2 (by omega) (Or.inr rfl))
theorem jN.grade {w : Int → Int} {ps : Int} (hj : jN w) (h : iN w) (hz : iZ w) : jN (sGrade w ps) := by
  have h0 := h.2.2.2.1.1
  obtain ⟨h1, -⟩ := gI.all (ps := ps) h (w 1613).toNat 0 w (by omega) (by omega) (gI.zero h.2.2.2.2.1 hz)
  have h2 := sGrade_pre h h1
  have h3 := jL.all (ps := ps) h (w 1613).toNat 0 w (by omega) (by omega) (gI.zero h.2.2.2.2.1 hz) hj.2.2.1
  have hL := h1.1.2.1
  have h4 : jN (sGrL ps (w 1613).toNat 0 w) := by
    have e5 := h1.2.2.1 1615 (by omega) (by omega)
    refine ⟨hL, by rw [e5]; exact hj.2.1, h3, fun d a b => ?_⟩
    rw [e5] at b
    have := hj.2.1
    rw [h1.2.2.1 (1450 + d) (by omega) (by omega), h1.2.2.1 (1410 + d) (by omega) (by omega)]
    exact hj.2.2.2 d a b
  have e : ∀ j, j < 1570 ∨ 1610 ≤ j → j ≠ 1613 → j ≠ 1616 → sGrade w ps j = sGrL ps (w 1613).toNat 0 w j := fun j a b c => by
    rw [sGrade, sHap_same h2.2.2.2.2.2.2.2 a c, sU_ne _ _ b]
  exact h4.of (fun j a b => e j (by omega) (by omega) (by omega)) (e _ (by omega) (by omega) (by omega)) (e _ (by omega) (by omega) (by omega))
theorem jN.fire {w : Int → Int} {k g pk t : Int} (hj : jN w) (h : iN w) (ht : 1 ≤ t ∧ t ≤ 100) (hk : 0 ≤ k ∧ k ≤ 2) (hg : 0 ≤ g ∧ g ≤ 3) (hf : w 1610 < 2000) : jN (sFire w k g pk t) := by
  have h1 := (fI.all (pk := pk) h ht hk hg 8 0 w (by omega) (by omega) (fI.zero h.2.2.2.1 k t)).1
  have h2 := sFireZ_pre h h1 ht hk hf
  have e : ∀ j, 410 ≤ j → j < 1570 ∨ 1613 < j → j ≠ 1616 → sFire w k g pk t j = w j := fun j a b c => by
    rw [sFire, sFireZ, sHap_same h2.2.2.2.2.2.2.2 (by omega) c, sU_ne _ _ (by omega), sU_ne _ _ (by omega), sU_ne _ _ (by omega)]
    exact h1.2.1 j (by omega) (by omega)
  exact hj.of (fun j a b => e j (by omega) (by omega) (by omega)) (e _ (by omega) (by omega) (by omega)) (e _ (by omega) (by omega) (by omega))
theorem jN.pack {w : Int → Int} (hj : jN w) (h : iN w) : jN (sPack w) := by
  have h1 := h.2.2.2.2.1.1
  have h2 := h.2.2.2.2.1.2.1
  obtain ⟨-, e⟩ := sPack_at h
  exact hj.of3 (fun j a b => e j (by omega)) (fun j a b => e j (by omega)) (fun j a b => e j (by omega)) (e _ (by omega)) (e _ (by omega))
theorem jN.brk {w : Int → Int} {t : Int} (hj : jN w) (he : iE w) : jN (sBrk w t) := hj.of (fun j a b => sBrk_same he (by omega) (by omega) (by omega)) (sBrk_same he (by omega) (by omega) (by omega)) (sBrk_same he (by omega) (by omega) (by omega))
/-- hidden ones are cut down in a lot that hides none: it hides none -/
theorem jN.lot3 {w : Int → Int} {l a b c : Int} (hj : jN w) (hl : 0 ≤ l ∧ l < w 1614) (hc : w (730 + l) = 2 → c = 0) : jN (sLot3 w l a b c) := by
  have h1 := hj.1
  have h2 := hj.2.1
  obtain ⟨k1, k2⟩ := sLot3_at (w := w) (a := a) (b := b) (c := c) (l := l) ⟨hl.1, by omega⟩
  have e14 := k2 1614 (by omega)
  have e15 := k2 1615 (by omega)
  refine ⟨by omega, by omega, fun q u v z => ?_, fun d u v => ?_⟩
  · rw [k2 (730 + q) (by omega)] at z
    rw [(k1 q u (by omega)).2.2]
    by_cases e : q = l
    · rw [if_pos e]
      rw [e] at z
      exact hc z
    · rw [if_neg e]
      exact hj.2.2.1 q u (by omega) z
  · rw [k2 (1450 + d) (by omega), k2 (1410 + d) (by omega)]
    exact hj.2.2.2 d u (by omega)
theorem jk_drop {W : Int → Int} {a b c d : Int} (hj : jN W) (hN : iN W) (hc : sDropT W a b c d = 0) : jN (sDrop W a b c d) := by
  have hr := (sDropT_range W a b c d).2.2 hc
  have hlf := (sFind_range hN.2.2.2.2.1.1 a b c).resolve_left (by omega)
  have hp := sDrop_pre hN ⟨hlf.1, hlf.2.1⟩ ⟨hr.2.1, hr.2.2.1⟩ hr.2.2.2
  unfold sDrop
  refine jN.brk ?_ hp.2.2.2.1
  obtain ⟨s1, s2, s3, s4, -⟩ := hN.2.2.2.2.2.2.1
  obtain ⟨a1, a2, -⟩ := hN.lot hlf.1 hlf.2.1
  refine jN.lot3 hj ⟨hlf.1, hlf.2.1⟩ (fun e => ?_)
  rw [hj.2.2.1 _ hlf.1 hlf.2.1 e]
  have hm := Int.mul_nonneg (show 0 ≤ W (1050 + sFind W a b c) - 1 by omega) (show 0 ≤ W 89 by omega)
  exact sMin_0 (by omega)
theorem jk_deliver {W : Int → Int} {a b c : Int} (hj : jN W) (hN : iN W) (hc : sDeliverT W a b c = 0) : jN (sDel W a b c) := by
  have hr := (sDeliverT_range W a b c).2.2 hc
  have hlf := (sLotFor_range hN.2.2.2.2.1.1 a b c).resolve_left (by omega)
  have hmay : W (410 + sLotFor W a b c) = a ∧ W (730 + sLotFor W a b c) = b ∧ c ≤ W (1050 + sLotFor W a b c) := by have := hlf.2.2; simpa [sMay] using this
  have hd := hN.2.2.2.2.2.1.2.1
  have hd0 := hN.2.2.2.2.2.1.1
  obtain ⟨q1, q2, q3⟩ := sDel_pre hN ⟨hlf.1, hlf.2.1⟩ ⟨by omega, hmay.2.2⟩ (by omega) (by omega)
  obtain ⟨s1, s2, s3, s4, -⟩ := hN.2.2.2.2.2.2.1
  obtain ⟨a1, a2, a3, a4, -⟩ := hN.lot hlf.1 hlf.2.1
  have h14 := hN.2.2.2.2.1.2.1
  unfold sDel
  have key : jN (sDelW W (sLotFor W a b c) c) := by
    generalize sLotFor W a b c = l at *
    obtain ⟨d1, d2, d3, d4⟩ := sDelD_at (w := W) (d := W 1615) (l := l) (b := c) (bad := sBad W l c) (val := c * W 89 * sWorth W l) ⟨hd0, by omega⟩ rfl
    have e14 := d4 1614 (by omega) (by omega) (by omega)
    have hD : jN (sDelD W (W 1615) l c (sBad W l c) (c * W 89 * sWorth W l)) := by
      refine ⟨by omega, by omega, fun q u v z => ?_, fun d u v => ?_⟩
      · rw [d4 (730 + q) (by omega) (by omega) (by omega)] at z
        rw [d4 (1210 + q) (by omega) (by omega) (by omega)]
        exact hj.2.2.1 q u (by omega) z
      · obtain ⟨-, f1, f2, -, -⟩ := d3 d u (by omega)
        rw [f1, f2]
        by_cases e : d = W 1615
        · rw [if_pos e, if_pos e]; exact Int.le_refl _
        · rw [if_neg e, if_neg e]
          exact hj.2.2.2 d u (by omega)
    refine jN.lot3 hD ⟨hlf.1, by omega⟩ (fun e => ?_)
    rw [d4 (730 + l) (by omega) (by omega) (by omega)] at e
    have e0 := hj.2.2.1 l hlf.1 hlf.2.1 e
    have eb : sBad W l c = 0 := by
      simp only [sBad]
      rw [e0, Int.zero_mul, Int.zero_tdiv]
    rw [e0, eb]
    have hm := Int.mul_nonneg (show 0 ≤ W (1050 + l) - c by omega) (show 0 ≤ W 89 by omega)
    exact sMin_0 (by omega)
  have e : ∀ j, j < 1570 ∨ 1610 ≤ j → j ≠ 1616 → sHap (sDelW W (sLotFor W a b c) c) 3 (W 1615) j = sDelW W (sLotFor W a b c) c j := fun j u v => sHap_same q1.2.2.2.2.2.2.2 u v
  exact key.of (fun j u v => e j (by omega) (by omega)) (e _ (by omega) (by omega)) (e _ (by omega) (by omega))
theorem jk_takeBack {W : Int → Int} {a b c : Int} (hj : jN W) (hN : iN W) (hc : sTakeT W a b c = 0) : jN (sTake W a b c) := by
  have hr := (cTakeT_range W a b c).2.2 hc
  have hp := sTake_pre hN ⟨hr.1, hr.2.1⟩ ⟨hr.2.2.1, hr.2.2.2.1⟩ hr.2.2.2.2
  have hD := hN.2.2.2.2.2.1
  have h14 := hN.2.2.2.2.1.2.1
  obtain ⟨u1, u2, -⟩ := hD.2.2 a hr.1 hr.2.1
  have h15 := hD.2.1
  unfold sTake
  refine jN.brk ?_ hp.2.2.2.1
  have e : ∀ j, j ≠ 1450 + a → j < 890 ∨ 1050 ≤ j → sTakeW W a b c j = W j := fun j u v => by rw [sTakeW, sU_ne _ _ (by omega), sU_ne _ _ u]
  have e0 : sTakeW W a b c (1450 + a) = W (1450 + a) - b := by rw [sTakeW, sU_ne _ _ (by omega), sU_eq]
  have e14 := e 1614 (by omega) (by omega)
  have e15 := e 1615 (by omega) (by omega)
  refine ⟨by omega, by omega, fun q u v z => ?_, fun d u v => ?_⟩
  · rw [e (730 + q) (by omega) (by omega)] at z
    rw [e (1210 + q) (by omega) (by omega)]
    exact hj.2.2.1 q u (by omega) z
  · rw [e (1410 + d) (by omega) (by omega)]
    have hd := hj.2.2.2 d u (by omega)
    by_cases z : d = a
    · rw [z] at hd ⊢
      rw [e0]
      omega
    · rw [e (1450 + d) (by omega) (by omega)]
      exact hd
theorem jk_replace {W : Int → Int} {a : Int} (hj : jN W) (hN : iN W) (hc : sReplT W a = 0) : jN (sRepl W a) := by
  have hr := (cReplT_range W a).2.2 hc
  have hp := sRepl_pre hN ⟨hr.1, hr.2.1⟩ hr.2.2.1
  have hD := hN.2.2.2.2.2.1
  have h15 := hD.2.1
  have h14 := hN.2.2.2.2.1.2.1
  obtain ⟨u1, u2, -⟩ := hD.2.2 a hr.1 hr.2.1
  obtain ⟨s1, s2, s3, s4, -⟩ := hN.2.2.2.2.2.2.1
  obtain ⟨a1, a2, -⟩ := hN.lot u1 u2
  unfold sRepl
  refine jN.brk ?_ hp.2.2.2
  have e : ∀ j, j ≠ 1490 + a → sU W (1490 + a) 0 j = W j := fun j u => sU_ne _ _ u
  have hj2 : jN (sU W (1490 + a) 0) := hj.of3 (fun j u v => e j (by omega)) (fun j u v => e j (by omega)) (fun j u v => e j (by omega)) (e _ (by omega)) (e _ (by omega))
  refine jN.lot3 hj2 ⟨u1, by rw [e 1614 (by omega)]; exact u2⟩ (fun z => ?_)
  rw [e (730 + W (1370 + a)) (by omega)] at z
  rw [hj.2.2.1 _ u1 u2 z]
  have hm := Int.mul_nonneg a2 (show 0 ≤ W 89 by omega)
  have := hr.2.2.1
  exact sMin_0 (by omega)
theorem jk_low {W W' : Int → Int} (hj : jN W) (e : ∀ j, 90 ≤ j → W' j = W j) : jN W' := hj.of (fun j a b => e j (by omega)) (e _ (by omega)) (e _ (by omega))
theorem jk_fire {W : Int → Int} {a b c d : Int} (hj : jN W) (hN : iN W) (hc : sFireT W a b c d = 0) : jN (sFire W a b c d) := by
  have hr := (sFireT_range W a b c d).2.2 hc
  have hf := hN.2.2.2.2.2.2.1.2.2.2.2.2.1
  exact hj.fire hN (by omega) (by omega) (by omega) (by omega)
/-! ===== the same of what is saved ===== -/
def jOk (W : Int → Int) (n : Int) (SV : Int → Int) : Prop := jN W ∧ ∀ i, 0 ≤ i → i < n → jN (sW SV i)
theorem jOk.svC {n m : Int} {SV W : Int → Int} (h : ∀ i, 0 ≤ i → i < n → jN (sW SV i)) (h0 : 0 ≤ m) (hm : m ≤ n) (hW : jN W) : ∀ i, 0 ≤ i → i < m + 1 → jN (sW (sSvC SV W m 1618) i) := fun i a b => by
  by_cases e : i = m
  · subst e
    exact hW.cg (fun j p q => by rw [sW_in p q, sSvC_in (by omega) (by omega), show i * 1618 + j - i * 1618 = j by omega])
  · exact (h i a (by omega)).cg (fun j p q => by rw [sW_in p q, sW_in p q, sSvC_out (by omega)])
theorem jOk.svS {SV : Int → Int} (h : ∀ i, 0 ≤ i → i < 6 → jN (sW SV i)) : ∀ i, 0 ≤ i → i < 5 → jN (sW (sSvS SV 8090) i) := fun i a b => (h (i + 1) (by omega) (by omega)).cg (fun j p q => by rw [sW_in p q, sW_in p q, sSvS_in (by omega) (by omega), show i * 1618 + j + 1618 = (i + 1) * 1618 + j by omega])
theorem jOk.op {W W' SV : Int → Int} {n : Int} (h : jOk W n SV) (hn : 0 ≤ n ∧ n ≤ 6) (hj : jN W') : jOk W' (sCnt n) (sSvd SV W n) := by
  refine ⟨hj, ?_⟩
  by_cases e : n = 6
  · subst e
    rw [show sCnt 6 = 5 + 1 by rfl, show sSvd SV W 6 = sSvC (sSvS SV 8090) W 5 1618 by rfl]
    exact jOk.svC (jOk.svS h.2) (by omega) (Int.le_refl _) h.1
  · rw [show sCnt n = n + 1 by unfold sCnt; rw [if_neg e], show sSvd SV W n = sSvC SV W n 1618 by unfold sSvd; rw [if_neg e]]
    exact jOk.svC h.2 hn.1 (Int.le_refl _) h.1
theorem jOk.undo {W SV : Int → Int} {n : Int} (h : jOk W n SV) (hn : 0 < n) : jOk (sBack SV W (n - 1) 1618) (n - 1) SV := by
  refine ⟨(h.2 (n - 1) (by omega) (by omega)).cg (fun j p q => ?_), fun i a b => h.2 i a (by omega)⟩
  rw [sW_in p q]
  simp only [sBack]
  rw [if_pos ⟨p, q⟩]
theorem jOk_0 : jOk sW0 0 (fun _ => 0) := ⟨jN_sW0, fun i a b => by omega⟩
