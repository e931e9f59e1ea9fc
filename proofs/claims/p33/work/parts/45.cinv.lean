def gFm (M : Nat → Prop) (K N : Nat → Nat) (I : Nat → Nat → Int) (A : Nat → Int → Int) (R : Nat → Nat → Option Nat) (Q : Nat → Int → Option Nat) (K' N' : Nat → Nat) (I' : Nat → Nat → Int) (A' : Nat → Int → Int) (R' : Nat → Nat → Option Nat) (Q' : Nat → Int → Option Nat) : Prop := ∀ b, M b → K' b = K b ∧ N' b = N b ∧ (∀ f, I' f b = I f b) ∧ A' b = A b ∧ (∀ f, R' f b = R f b) ∧ Q' b = Q b
theorem gFm.rfl {M : Nat → Prop} {K N : Nat → Nat} {I : Nat → Nat → Int} {A : Nat → Int → Int} {R : Nat → Nat → Option Nat} {Q : Nat → Int → Option Nat} : gFm M K N I A R Q K N I A R Q := fun b _ => ⟨Eq.refl _, Eq.refl _, fun _ => Eq.refl _, Eq.refl _, fun _ => Eq.refl _, Eq.refl _⟩
theorem gFm.trans {M : Nat → Prop} {K0 N0 : Nat → Nat} {I0 : Nat → Nat → Int} {A0 : Nat → Int → Int} {R0 : Nat → Nat → Option Nat} {Q0 : Nat → Int → Option Nat} {K1 N1 : Nat → Nat} {I1 : Nat → Nat → Int} {A1 : Nat → Int → Int} {R1 : Nat → Nat → Option Nat} {Q1 : Nat → Int → Option Nat} {K2 N2 : Nat → Nat} {I2 : Nat → Nat → Int} {A2 : Nat → Int → Int} {R2 : Nat → Nat → Option Nat} {Q2 : Nat → Int → Option Nat} (h1 : gFm M K0 N0 I0 A0 R0 Q0 K1 N1 I1 A1 R1 Q1) (h2 : gFm M K1 N1 I1 A1 R1 Q1 K2 N2 I2 A2 R2 Q2) : gFm M K0 N0 I0 A0 R0 Q0 K2 N2 I2 A2 R2 Q2 := fun b hb => by
  obtain ⟨p1, p2, p3, p4, p5, p6⟩ := h1 b hb
  obtain ⟨q1, q2, q3, q4, q5, q6⟩ := h2 b hb
  exact ⟨q1.trans p1, q2.trans p2, fun f => (q3 f).trans (p3 f), q4.trans p4, fun f => (q5 f).trans (p5 f), q6.trans p6⟩
/-- a factory of the class: its cells, what it holds; M: cells of others -/
def cI (K N : Nat → Nat) (I : Nat → Nat → Int) (A : Nat → Int → Int) (R : Nat → Nat → Option Nat) (Q : Nat → Int → Option Nat) (G : Nat → Nat × Int) (M : Nat → Prop) (x s h hq sc sg ar : Nat) (W : Int → Int) (n : Int) (SV T : Int → Int) (len : Int) : Prop :=
  (K x = 10 ∧ R 180 x = some s ∧ R 181 x = some h ∧ R 182 x = some sc) ∧ (K h = 4 ∧ R 60 h = some hq ∧ K hq = 20 ∧ N hq = 6 ∧ I 61 h = n ∧ 0 ≤ n ∧ n ≤ 6) ∧ (cS K N R sc sg ar ∧ I 141 sc = len ∧ A sg = T) ∧ cSt K N I R Q G s ∧ cSv K N I A R Q G s W ∧ cHs K N I A R Q G s hq n SV ∧ ((G x).1 = x ∧ (G h).1 = h ∧ (G hq).1 = hq ∧ (G sc).1 = sc ∧ (G sg).1 = sg ∧ (G ar).1 = ar ∧ ∀ b, K b = 0 → G b = (b, 0)) ∧ ∀ b, M b → K b ≠ 0 ∧ (b ≠ s ∧ ∀ i, 0 ≤ i → i < 6 → Q hq i ≠ some b) ∧ (G b).1 = b ∧ b ≠ x ∧ b ≠ h ∧ b ≠ hq ∧ b ≠ sc ∧ b ≠ sg ∧ b ≠ ar
/-- the factory's own State changes -/
theorem cI.st {K N : Nat → Nat} {I : Nat → Nat → Int} {A : Nat → Int → Int} {R : Nat → Nat → Option Nat} {Q : Nat → Int → Option Nat} {G : Nat → Nat × Int} {M : Nat → Prop} {x s h hq sc sg ar : Nat} {W SV T : Int → Int} {n len : Int} {W' : Int → Int} {I' : Nat → Nat → Int} {A' : Nat → Int → Int} (hI : cI K N I A R Q G M x s h hq sc sg ar W n SV T len) (hf : cFr G s I I' A A') (hv : cSv K N I' A' R Q G s W') : cI K N I' A' R Q G M x s h hq sc sg ar W' n SV T len ∧ gFm M K N I A R Q K N I' A' R Q := by
  obtain ⟨⟨x1, x2, x3, x4⟩, ⟨h1, h2, h3, h4, h5, h6, h7⟩, ⟨c1, c2, c3⟩, st, sv, hs, ⟨g1, g2, g3, g4, g5, g6, g7⟩, hM⟩ := hI
  have ks := st.1.1
  have c0 := c1
  obtain ⟨d1, d2, d3, d4, d5, d6, d7⟩ := c0
  have ne : ∀ b, (G b).1 = b → K b ≠ 9 → (G b).1 ≠ s := fun b e k z => k (by rw [← e, z]; exact ks)
  refine ⟨⟨⟨x1, x2, x3, x4⟩, ⟨h1, h2, h3, h4, (hf.1 61 h (ne h g2 (by rw [h1]; decide))).trans h5, h6, h7⟩, ⟨c1, (hf.1 141 sc (ne sc g4 (by rw [d1]; decide))).trans c2, (hf.2.2 sg (ne sg g5 (by rw [d3]; decide))).trans c3⟩, st.fr hf, hv, hs.fr h7 hf, ⟨g1, g2, g3, g4, g5, g6, g7⟩, hM⟩, fun b hb => ?_⟩
  obtain ⟨m1, m2, m3, m4⟩ := hM b hb
  have mne : (G b).1 ≠ s := by rw [m3]; exact m2.1
  exact ⟨rfl, rfl, fun f => hf.1 f b mne, hf.2.2 b mne, fun _ => rfl, rfl⟩
theorem cI.ex {K N : Nat → Nat} {I : Nat → Nat → Int} {A : Nat → Int → Int} {R : Nat → Nat → Option Nat} {Q : Nat → Int → Option Nat} {G : Nat → Nat × Int} {K1 N1 : Nat → Nat} {I1 : Nat → Nat → Int} {A1 : Nat → Int → Int} {R1 : Nat → Nat → Option Nat} {Q1 : Nat → Int → Option Nat} {G1 : Nat → Nat × Int} {M : Nat → Prop} {x s h hq sc sg ar : Nat} {W SV T : Int → Int} {n len : Int} {SV' : Int → Int} {n' : Int} (hI : cI K N I A R Q G M x s h hq sc sg ar W n SV T len) (hx : gEx hq K N I A R Q G K1 N1 I1 A1 R1 Q1 G1) (hn : 0 ≤ n' ∧ n' ≤ 6) (hH : cHs K1 N1 I1 A1 R1 Q1 G1 s hq n' SV') (hn2 : I1 61 h = n') (hz : ∀ b, K1 b = 0 → G1 b = (b, 0)) (hqs : ∀ i, 0 ≤ i → i < 6 → ∀ t, Q1 hq i = some t → K t = 0 ∨ ∃ j, 0 ≤ j ∧ j < 6 ∧ Q hq j = some t) : cI K1 N1 I1 A1 R1 Q1 G1 M x s h hq sc sg ar W n' SV' T len ∧ gFm M K N I A R Q K1 N1 I1 A1 R1 Q1 := by
  obtain ⟨⟨x1, x2, x3, x4⟩, ⟨h1, h2, h3, h4, h5, h6, h7⟩, ⟨⟨d1, d2, d3, d4, d5, d6, d7⟩, c2, c3⟩, st, sv, hs, ⟨g1, g2, g3, g4, g5, g6, g7⟩, hM⟩ := hI
  have ha : sKd (K hq) := by rw [h3]; unfold sKd; omega
  have ex := hx x (by rw [x1]; decide)
  have ex2 := ex.2.2.2 (fun e => by rw [e, h3] at x1; cases x1)
  have eh := hx h (by rw [h1]; decide)
  have eh2 := eh.2.2.2 (fun e => by rw [e, h3] at h1; cases h1)
  have eq := hx hq (by rw [h3]; decide)
  have ec := hx sc (by rw [d1]; decide)
  have ec2 := ec.2.2.2 (fun e => by rw [e, h3] at d1; cases d1)
  have eg := hx sg (by rw [d3]; decide)
  have eg2 := eg.2.2.2 (fun e => by rw [e, h3] at d3; cases d3)
  have ea := hx ar (by rw [d6]; decide)
  refine ⟨⟨⟨ex.1.trans x1, (ex2.2.2.1 _).trans x2, (ex2.2.2.1 _).trans x3, (ex2.2.2.1 _).trans x4⟩, ⟨eh.1.trans h1, (eh2.2.2.1 _).trans h2, eq.1.trans h3, eq.2.1.trans h4, hn2, hn.1, hn.2⟩, ⟨⟨ec.1.trans d1, (ec2.2.2.1 _).trans d2, eg.1.trans d3, eg.2.1.trans d4, (ec2.2.2.1 _).trans d5, ea.1.trans d6, ea.2.1.trans d7⟩, (ec2.1 _).trans c2, eg2.2.1.trans c3⟩, st.keep hx ha, sv.keep st.1 hx ha, hH, ⟨by rw [ex.2.2.1]; exact g1, by rw [eh.2.2.1]; exact g2, by rw [eq.2.2.1]; exact g3, by rw [ec.2.2.1]; exact g4, by rw [eg.2.2.1]; exact g5, by rw [ea.2.2.1]; exact g6, hz⟩, fun b hb => ?_⟩, fun b hb => ?_⟩
  · obtain ⟨m1, m2, m3, m4⟩ := hM b hb
    have e := hx b m1
    exact ⟨by rw [e.1]; exact m1, ⟨m2.1, fun i a c z => (hqs i a c b z).elim m1 (fun ⟨j, u, v, y⟩ => m2.2 j u v y)⟩, by rw [e.2.2.1]; exact m3, m4⟩
  · obtain ⟨m1, m2, m3, m4, m5, m6, m7, m8, m9⟩ := hM b hb
    have e := hx b m1
    obtain ⟨q1, q2, q3, q4⟩ := e.2.2.2 m6
    exact ⟨e.1, e.2.1, q1, q2, q3, q4⟩
/-- the count alone -/
theorem cI.cnt {K N : Nat → Nat} {I : Nat → Nat → Int} {A : Nat → Int → Int} {R : Nat → Nat → Option Nat} {Q : Nat → Int → Option Nat} {G : Nat → Nat × Int} {M : Nat → Prop} {x s h hq sc sg ar : Nat} {W SV T : Int → Int} {n len : Int} {n' : Int} {SV' : Int → Int} {I' : Nat → Nat → Int} (hI : cI K N I A R Q G M x s h hq sc sg ar W n SV T len) (e : I' = g_up I 61 h n') (hn : 0 ≤ n' ∧ n' ≤ 6) (hH : cHs K N I' A R Q G s hq n' SV') : cI K N I' A R Q G M x s h hq sc sg ar W n' SV' T len ∧ gFm M K N I A R Q K N I' A R Q := by
  obtain ⟨⟨x1, x2, x3, x4⟩, ⟨h1, h2, h3, h4, h5, h6, h7⟩, ⟨c1, c2, c3⟩, st, sv, hs, g, hM⟩ := hI
  have hx : gEx h K N I A R Q G K N I' A R Q G := gEx.upI e
  have ha : sKd (K h) := by rw [h1]; unfold sKd; omega
  have hc : sc ≠ h := fun z => by
    have := c1.1
    rw [z, h1] at this; cases this
  refine ⟨⟨⟨x1, x2, x3, x4⟩, ⟨h1, h2, h3, h4, by rw [e]; simp [g_up], hn.1, hn.2⟩, ⟨c1, by rw [e, g_up_ne2 _ _ hc]; exact c2, c3⟩, st.keep hx ha, sv.keep st.1 hx ha, hH, g, hM⟩, fun b hb => ⟨rfl, rfl, fun f => ?_, rfl, fun _ => rfl, rfl⟩⟩
  rw [e]
  exact g_up_ne2 _ _ (hM b hb).2.2.2.2.1
theorem cHs.cnt {K N : Nat → Nat} {I : Nat → Nat → Int} {A : Nat → Int → Int} {R : Nat → Nat → Option Nat} {Q : Nat → Int → Option Nat} {G : Nat → Nat × Int} {I' : Nat → Nat → Int} {s h hq : Nat} {n v : Int} {SV : Int → Int} (hH : cHs K N I A R Q G s hq n SV) (hn : n ≤ 6) (hk : K h = 4) (e : I' = g_up I 61 h v) : cHs K N I' A R Q G s hq n SV := hH.keep (a := h) hn (gEx.upI e) (by rw [hk]; unfold sKd; omega) rfl
set_option maxHeartbeats 1000000 in
set_option maxRecDepth 100000 in
theorem lp_H_move {Y : gEnv} {X : gCtx} {K N : Nat → Nat} {I : Nat → Nat → Int} {A : Nat → Int → Int} {R : Nat → Nat → Option Nat} {Q : Nat → Int → Option Nat} {h hq : Nat} (hKh : K h = 4) (hRh : R 60 h = some hq) (hKq : K hq = 20) (hNq : N hq = 6) (t : Int → Nat) (ht : ∀ i, 0 ≤ i → i < 6 → Q hq i = some (t i) ∧ K (t i) = 9) : ∀ (f m : Nat) (i : Int) (Q1 : Nat → Int → Option Nat), m < f → 1 ≤ i → i + m = 6 → (∀ b, b ≠ hq → Q1 b = Q b) → (∀ j, 0 ≤ j → j < i - 1 → Q1 hq j = Q hq (j + 1)) → (∀ j, i - 1 ≤ j → j < 6 → Q1 hq j = Q hq j) → gJ Y X yX5_moveOldestToEnd cX5_moveOldestToEnd 3 none ({ frames := 0, cells := 0, slots := 0, locals := 0 } : Room) (fun v K' N' I' A' R' Q' => v = none ∧ K' = K ∧ N' = N ∧ I' = I ∧ A' = A ∧ R' = R ∧ (∀ b, b ≠ hq → Q' b = Q b) ∧ (∀ i, 0 ≤ i → i < 5 → Q' hq i = Q hq (i + 1)) ∧ Q' hq 5 = Q hq 0) gno 0 0 9 [(0, .ref h), (1, .ref (t 0)), (2, vi i)] [] K N I A R Q1 := by
  intro f
  induction f with
  | zero => intro m i Q1 h; omega
  | succ f ih =>
  intro m i Q1 hf hi hm q0 q1 q2
  refine g_iload_n dX5_moveOldestToEnd_9 rfl rfl ?_
  refine g_aload_n dX5_moveOldestToEnd_10 rfl rfl ?_
  refine g_get_History_saved dX5_moveOldestToEnd_11 mw_262 (by assumption) hRh ?_
  refine g_alen_State dX5_moveOldestToEnd_14 (by assumption) ?_
  refine g_icmp_ge (tgt := 38) dX5_moveOldestToEnd_15 (by decide) (by omega) (by omega) (fun c_15 => ?_) (fun c_15 => ?_)
  · refine g_aload_n dX5_moveOldestToEnd_38 rfl rfl ?_
    refine g_get_History_saved dX5_moveOldestToEnd_39 mw_262 (by assumption) hRh ?_
    refine g_aload_n dX5_moveOldestToEnd_42 rfl rfl ?_
    refine g_get_History_saved dX5_moveOldestToEnd_43 mw_262 (by assumption) hRh ?_
    refine g_alen_State dX5_moveOldestToEnd_46 (by assumption) ?_
    refine g_iconst dX5_moveOldestToEnd_47 ?_
    refine g_isub dX5_moveOldestToEnd_48 ?_
    refine g_aload_n dX5_moveOldestToEnd_49 rfl rfl ?_
    refine g_aast_State dX5_moveOldestToEnd_50 (by assumption) (by omega) (by omega) (ht 0 (by omega) (by omega)).2 (fun Q50 hQ50 => ?_)
    exact g_vret dX5_moveOldestToEnd_51 rfl (by decide) (by decide) ⟨rfl, rfl, rfl, rfl, rfl, rfl, fun b hb => by rw [hQ50, g_uq_off _ _ _ hb]; exact q0 b hb, fun j a b => by rw [hQ50, g_uq_at, if_neg (by omega)]; exact q1 j a (by omega), by rw [hQ50, g_uq_at, if_pos (by omega)]; exact (ht 0 (by omega) (by omega)).1.symm⟩
  · refine g_aload_n dX5_moveOldestToEnd_18 rfl rfl ?_
    refine g_get_History_saved dX5_moveOldestToEnd_19 mw_262 (by assumption) hRh ?_
    refine g_iload_n dX5_moveOldestToEnd_22 rfl rfl ?_
    refine g_iconst dX5_moveOldestToEnd_23 ?_
    refine g_isub dX5_moveOldestToEnd_24 ?_
    refine g_aload_n dX5_moveOldestToEnd_25 rfl rfl ?_
    refine g_get_History_saved dX5_moveOldestToEnd_26 mw_262 (by assumption) hRh ?_
    refine g_iload_n dX5_moveOldestToEnd_29 rfl rfl ?_
    refine g_aald_State dX5_moveOldestToEnd_30 (by assumption) (by omega) (by omega) ((q2 i (by omega) (by omega)).trans (ht i (by omega) (by omega)).1) ?_
    refine g_aast_State dX5_moveOldestToEnd_31 (by assumption) (by omega) (by omega) (ht i (by omega) (by omega)).2 (fun Q31 hQ31 => ?_)
    refine g_iinc dX5_moveOldestToEnd_32 rfl (by decide) ?_
    refine g_goto (tgt := 9) dX5_moveOldestToEnd_35 (by decide) ?_
    exact g_locs (by exact ⟨rfl, rfl, rfl, trivial⟩) (ih (m - 1) (i + 1) Q31 (by omega) (by omega) (by omega) (fun b hb => by rw [hQ31, g_uq_off _ _ _ hb]; exact q0 b hb) (fun j a b => by
      rw [hQ31, g_uq_at]
      by_cases e : j = i - 1
      · rw [if_pos e, e, Int.sub_add_cancel]; exact (ht i (by omega) (by omega)).1.symm
      · rw [if_neg e]; exact q1 j a (by omega)) (fun j a b => by
      rw [hQ31, g_uq_at, if_neg (by omega)]; exact q2 j (by omega) b))
set_option maxHeartbeats 1000000 in
set_option maxRecDepth 100000 in
theorem k_H_move (Y : gEnv) {K N : Nat → Nat} {I : Nat → Nat → Int} {A : Nat → Int → Int} {R : Nat → Nat → Option Nat} {Q : Nat → Int → Option Nat} {h hq : Nat} (hKh : K h = 4) (hRh : R 60 h = some hq) (hKq : K hq = 20) (hNq : N hq = 6) (t : Int → Nat) (ht : ∀ i, 0 ≤ i → i < 6 → Q hq i = some (t i) ∧ K (t i) = 9) : gC Y yX5_moveOldestToEnd cX5_moveOldestToEnd 3 none ({ frames := 0, cells := 0, slots := 0, locals := 0 } : Room) [.ref h] K N I A R Q (fun v K' N' I' A' R' Q' => v = none ∧ K' = K ∧ N' = N ∧ I' = I ∧ A' = A ∧ R' = R ∧ (∀ b, b ≠ hq → Q' b = Q b) ∧ (∀ i, 0 ≤ i → i < 5 → Q' hq i = Q hq (i + 1)) ∧ Q' hq 5 = Q hq 0) gno := by
  refine gC_of (by decide) (Nat.le_of_ble_eq_true rfl) (fun X => ?_)
  refine g_aload_n dX5_moveOldestToEnd_0 rfl rfl ?_
  refine g_get_History_saved dX5_moveOldestToEnd_1 mw_262 (by assumption) hRh ?_
  refine g_iconst dX5_moveOldestToEnd_4 ?_
  refine g_aald_State dX5_moveOldestToEnd_5 (by assumption) (by omega) (by omega) (ht 0 (by omega) (by omega)).1 ?_
  refine g_astore_n dX5_moveOldestToEnd_6 rfl (by decide) ?_
  refine g_iconst dX5_moveOldestToEnd_7 ?_
  refine g_istore_n dX5_moveOldestToEnd_8 rfl (by decide) ?_
  exact g_locs (by exact ⟨rfl, rfl, rfl, trivial⟩) (lp_H_move hKh hRh hKq hNq t ht _ 5 1 Q (Nat.lt_succ_self _) (by omega) (by omega) (fun _ _ => rfl) (fun j a b => by omega) (fun _ _ _ => rfl))
set_option maxHeartbeats 1000000 in
set_option maxRecDepth 100000 in
theorem jp_H_save55 {Y : gEnv} {X : gCtx} {po : gPo} {K N : Nat → Nat} {I : Nat → Nat → Int} {A : Nat → Int → Int} {R : Nat → Nat → Option Nat} {Q : Nat → Int → Option Nat} {G : Nat → Nat × Int} {M : Nat → Prop} {x s h hq sc sg ar : Nat} {W SV T : Int → Int} {n len : Int} (hI : cI K N I A R Q G M x s h hq sc sg ar W n SV T len) (hn : n < 6) {t : Nat} (ht : Q hq n = some t) (hpo : ∀ (v : Option Value) (K' N' : Nat → Nat) (I' : Nat → Nat → Int) (A' : Nat → Int → Int) (R' : Nat → Nat → Option Nat) (Q' : Nat → Int → Option Nat) (G' : Nat → Nat × Int), v = none → cI K' N' I' A' R' Q' G' M x s h hq sc sg ar W (n + 1) (sSvC SV W n 1618) T len → gFm M K N I A R Q K' N' I' A' R' Q' → po v K' N' I' A' R' Q') {k m : Nat} (hk : k ≤ 317) (hm : m ≤ 1957) : gJ Y X yX5_save cX5_save 2 none ({ frames := 3, cells := 317, slots := 1957, locals := 163 } : Room) po gno k m 55 [(0, .ref h), (1, .ref s)] [] K N I A R Q := by
  obtain ⟨⟨x1, x2, x3, x4⟩, ⟨h1, h2, h3, h4, h5, h6, h7⟩, ⟨c1, c2, c3⟩, st, sv, hs, ⟨g1, g2, g3, g4, g5, g6, g7⟩, hM⟩ := id hI
  obtain ⟨w1, w2, ev0, kq0, nq0, w3, w4⟩ := id sv
  obtain ⟨t1, t2, t3⟩ := hs.1 n h6 hn t ht
  obtain ⟨t4, t5, ev, kq, nq, t6⟩ := t1
  refine g_aload_n dX5_save_55 rfl rfl ?_
  refine g_get_History_saved dX5_save_56 mw_262 (by assumption) h2 ?_
  refine g_aload_n dX5_save_59 rfl rfl ?_
  skip
  refine g_get_History_count dX5_save_60 mw_263 (by assumption) ?_
  skip
  refine g_aald_State dX5_save_63 (by assumption) (by omega) (by omega) (by rw [h5]; exact ht) ?_
  refine g_aload_n dX5_save_64 rfl rfl ?_
  refine g_callVw (i := 8) rfl (gK0 t4.1) (g_at8 t4.1) (k_S_copyFrom Y (fun e => t2 e.symm) t4 st.1 w2 w1 t6 w3 w4) u_X10_copyFrom mw_435 dX5_save_65 rfl rfl ⟨Nat.le_of_ble_eq_true rfl, Nat.le_of_ble_eq_true rfl⟩ ⟨by show _ ≤ (317 : Nat); dsimp only; omega, by show _ ≤ (1957 : Nat); dsimp only; omega⟩ (Nat.le_of_ble_eq_true rfl) (fun v65 I65 A65 h65 => ?_)
  obtain ⟨rfl, p1, p2, p3⟩ := h65
  have f61 : I65 61 h = I 61 h := p1.1 61 h (fun e => by
    rw [g2] at e
    have z := t4.1
    rw [← e, h1] at z; cases z)
  refine g_aload_n dX5_save_68 rfl rfl ?_
  refine g_dup dX5_save_69 rfl ?_
  refine g_get_History_count dX5_save_70 mw_263 (by assumption) ?_
  refine g_iconst dX5_save_73 ?_
  refine g_iadd dX5_save_74 ?_
  refine g_put_History_count dX5_save_75 mw_263 (by assumption) (fun I75 hI75 => ?_)
  exact g_vret dX5_save_78 rfl (by show _ ≤ (317 : Nat); dsimp only; omega) (by show _ ≤ (1957 : Nat); dsimp only; omega) (by
      have hH1 := hs.copy ⟨h6, hn⟩ ht w1 t6 p1 p2 p3
      have hks : K s = 9 := st.1.1
      have nes : s ≠ t := fun e => t2 e.symm
      have hI1 : cI K N I65 A65 R Q G M x s h hq sc sg ar W n SV T len := by
        have ne : ∀ b, (G b).1 = b → K b ≠ 9 → (G b).1 ≠ t := fun b e k z => k (by rw [← e, z]; exact t4.1)
        refine ⟨⟨x1, x2, x3, x4⟩, ⟨h1, h2, h3, h4, f61.trans h5, h6, h7⟩, ⟨c1, (p1.1 141 sc (ne sc g4 (by rw [c1.1]; decide))).trans c2, (p1.2.2 sg (ne sg g5 (by rw [c1.2.2.1]; decide))).trans c3⟩, st.fr p1, sv.fr st.1 nes p1, ⟨fun i a b u e => ?_, fun i a b => ?_⟩, ⟨g1, g2, g3, g4, g5, g6, g7⟩, hM⟩
        · obtain ⟨u1, u2, u3⟩ := hs.1 i a b u e
          exact ⟨u1.fr p1, u2, u3⟩
        · obtain ⟨u, e, u2⟩ := hs.2 i a b
          obtain ⟨u3, u4, u5⟩ := hs.1 i a (by omega) u e
          refine ⟨u, e, u2.fr u3.1 (fun z => ?_) p1⟩
          rw [z] at u5
          have := u5 n h6 hn ht
          omega
      have hfm : gFm M K N I A R Q K N I65 A65 R Q := fun b hb => by
        obtain ⟨m1, m2, m3, m4⟩ := hM b hb
        have ne : (G b).1 ≠ t := fun z => m2.2 n h6 hn (by rw [ht, ← z, m3])
        exact ⟨rfl, rfl, fun f => p1.1 f b ne, p1.2.2 b ne, fun _ => rfl, rfl⟩
      obtain ⟨r1, r2⟩ := hI1.cnt (n' := n + 1) (SV' := sSvC SV W n 1618) (I' := I75) (by rw [hI75, f61, h5]) (by omega) (hH1.cnt (by omega) h1 hI75)
      exact hpo none _ _ _ _ _ _ G rfl r1 (hfm.trans r2))
set_option maxHeartbeats 1000000 in
set_option maxRecDepth 100000 in
theorem jp_H_save27 {Y : gEnv} {X : gCtx} {po : gPo} {K N : Nat → Nat} {I : Nat → Nat → Int} {A : Nat → Int → Int} {R : Nat → Nat → Option Nat} {Q : Nat → Int → Option Nat} {G : Nat → Nat × Int} {M : Nat → Prop} {x s h hq sc sg ar : Nat} {W SV T : Int → Int} {n len : Int} (hI : cI K N I A R Q G M x s h hq sc sg ar W n SV T len) (hn : n < 6) (hpo : ∀ (v : Option Value) (K' N' : Nat → Nat) (I' : Nat → Nat → Int) (A' : Nat → Int → Int) (R' : Nat → Nat → Option Nat) (Q' : Nat → Int → Option Nat) (G' : Nat → Nat × Int), v = none → cI K' N' I' A' R' Q' G' M x s h hq sc sg ar W (n + 1) (sSvC SV W n 1618) T len → gFm M K N I A R Q K' N' I' A' R' Q' → po v K' N' I' A' R' Q') : gJ Y X yX5_save cX5_save 2 none ({ frames := 3, cells := 317, slots := 1957, locals := 163 } : Room) po gno 0 0 27 [(0, .ref h), (1, .ref s)] [] K N I A R Q := by
  obtain ⟨⟨x1, x2, x3, x4⟩, ⟨h1, h2, h3, h4, h5, h6, h7⟩, ⟨c1, c2, c3⟩, st, sv, hs, ⟨g1, g2, g3, g4, g5, g6, g7⟩, hM⟩ := id hI
  refine g_aload_n dX5_save_27 rfl rfl ?_
  refine g_get_History_saved dX5_save_28 mw_262 (by assumption) h2 ?_
  refine g_aload_n dX5_save_31 rfl rfl ?_
  refine g_get_History_count dX5_save_32 mw_263 (by assumption) ?_
  refine g_aaldR_State dX5_save_35 (by assumption) (by omega) (by omega) ?_
  refine g_ifnonnull (tgt := 55) dX5_save_36 (by decide) (fun b_36 c_36 => ?_) (fun c_36 => ?_)
  · first
    | (exact jp_H_save55 hI hn (by rw [← h5]; assumption) hpo (by omega) (by omega))
    | (have e36 : Q hq n = none := by rw [← h5]; assumption
       have x54 : gEx hq K N I A R Q G K51 N51 I51 A51 R51 Q54 G51 := y52.trans (gEx.upQ hQ54) (Or.inl rfl)
       have qt : ∀ i, Q54 hq i = if i = n then some q47 else Q hq i := fun i => by rw [hQ54, g_uq_at, q2, h5]
       have hn47 : cSt K51 N51 I51 R51 Q54 G51 q47 := by
         have b1 := b51.sh
         obtain ⟨ev, kq, nq, b2, b3⟩ := b51.2.2.2.2.2.2.2.1
         have ho : cSt K51 N51 I51 R51 Q51 G51 q47 := ⟨b1.1, b1.2, ev, kq, nq, b2⟩
         exact ho.keep (A := A51) (N := N51) (gEx.upQ hQ54) (by rw [q1.1, h3]; unfold sKd; omega)
       have hH := hs.new (q := q47) ⟨h6, hn⟩ x54 h3 z47 st.1.1 hn47 qt e36
       have zz : ∀ b, K51 b = 0 → G51 b = (b, 0) := fun b hb => (z51 b hb).trans (gZn (K := K) (G := G) g7 (by decide) hK47 b ((x51.zero (hb)))) 
       obtain ⟨r1, r2⟩ := hI.ex x54 ⟨h6, h7⟩ hH (((x54 h (by rw [h1]; decide)).2.2.2 (fun e => by rw [e, h3] at h1; cases h1)).1 61 |>.trans h5) zz (fun i a c t z => if e : i = n then Or.inl (by rw [qt, if_pos e] at z; cases z; exact z47) else Or.inr ⟨i, a, c, by rw [qt, if_neg e] at z; exact z⟩)
       exact jp_H_save55 r1 hn (t := q47) (by rw [qt, if_pos rfl]) (fun v K' N' I' A' R' Q' G' e1 e2 e3 => hpo v K' N' I' A' R' Q' G' e1 e2 (r2.trans e3)) (by dsimp only; omega) (by dsimp only; omega))
  · refine g_aload_n dX5_save_39 rfl rfl ?_
    refine g_get_History_saved dX5_save_40 mw_262 (by assumption) h2 ?_
    refine g_aload_n dX5_save_43 rfl rfl ?_
    refine g_get_History_count dX5_save_44 mw_263 (by assumption) ?_
    refine g_new_State dX5_save_47 mw_260 mw_53 mw_21 (by decide) (by decide) (fun q47 K47 I47 R47 z47 hK47 hI47 hR47 => ?_)
    refine g_dup dX5_save_50 rfl ?_
    refine g_callI (k_N_State Y (G := va_up G q47 (q47, 0)) (by rw [hK47, va_up_self]) (va_up_self _ _ _) (fun f => by rw [hI47, g_z_eq])) u_X10_init mw_434 dX5_save_51 rfl rfl ⟨Nat.le_of_ble_eq_true rfl, Nat.le_of_ble_eq_true rfl⟩ ⟨Nat.le_of_ble_eq_true rfl, Nat.le_of_ble_eq_true rfl⟩ (Nat.le_of_ble_eq_true rfl) (fun v51 K51 N51 I51 A51 R51 Q51 h51 => ?_)
    obtain ⟨rfl, G51, x51, z51, b51⟩ := h51
    have y51 : gEx q47 K N I A R Q G K51 N51 I51 A51 R51 Q51 G51 := (gEx.new (g := (q47, 0)) z47 hK47 hI47 hR47).trans x51 (Or.inl rfl)
    have y52 : gEx hq K N I A R Q G K51 N51 I51 A51 R51 Q51 G51 := gEx.rfl.trans y51 (Or.inr z47)
    have q0 := y51 hq (by rw [h3]; decide)
    have q1 : K51 hq = K hq ∧ N51 hq = N hq := ⟨q0.1, q0.2.1⟩
    have qn : hq ≠ q47 := fun e => by rw [e, z47] at h3; cases h3
    have q2 := (q0.2.2.2 qn).2.2.2
    refine g_aast_State dX5_save_54 (by rw [q1.1]; exact h3) (by rw [q1.2, h4]; decide) (by rw [q1.2, h4, h5]; omega) b51.1 (fun Q54 hQ54 => ?_)
    first
    | (exact jp_H_save55 hI hn (by rw [← h5]; assumption) hpo (by omega) (by omega))
    | (have e36 : Q hq n = none := by rw [← h5]; assumption
       have x54 : gEx hq K N I A R Q G K51 N51 I51 A51 R51 Q54 G51 := y52.trans (gEx.upQ hQ54) (Or.inl rfl)
       have qt : ∀ i, Q54 hq i = if i = n then some q47 else Q hq i := fun i => by rw [hQ54, g_uq_at, q2, h5]
       have hn47 : cSt K51 N51 I51 R51 Q54 G51 q47 := by
         have b1 := b51.sh
         obtain ⟨ev, kq, nq, b2, b3⟩ := b51.2.2.2.2.2.2.2.1
         have ho : cSt K51 N51 I51 R51 Q51 G51 q47 := ⟨b1.1, b1.2, ev, kq, nq, b2⟩
         exact ho.keep (A := A51) (N := N51) (gEx.upQ hQ54) (by rw [q1.1, h3]; unfold sKd; omega)
       have hH := hs.new (q := q47) ⟨h6, hn⟩ x54 h3 z47 st.1.1 hn47 qt e36
       have zz : ∀ b, K51 b = 0 → G51 b = (b, 0) := fun b hb => (z51 b hb).trans (gZn (K := K) (G := G) g7 (by decide) hK47 b ((x51.zero (hb)))) 
       obtain ⟨r1, r2⟩ := hI.ex x54 ⟨h6, h7⟩ hH (((x54 h (by rw [h1]; decide)).2.2.2 (fun e => by rw [e, h3] at h1; cases h1)).1 61 |>.trans h5) zz (fun i a c t z => if e : i = n then Or.inl (by rw [qt, if_pos e] at z; cases z; exact z47) else Or.inr ⟨i, a, c, by rw [qt, if_neg e] at z; exact z⟩)
       exact jp_H_save55 r1 hn (t := q47) (by rw [qt, if_pos rfl]) (fun v K' N' I' A' R' Q' G' e1 e2 e3 => hpo v K' N' I' A' R' Q' G' e1 e2 (r2.trans e3)) (by dsimp only; omega) (by dsimp only; omega))
set_option maxHeartbeats 1000000 in
set_option maxRecDepth 100000 in
theorem k_H_save (Y : gEnv) {K N : Nat → Nat} {I : Nat → Nat → Int} {A : Nat → Int → Int} {R : Nat → Nat → Option Nat} {Q : Nat → Int → Option Nat} {G : Nat → Nat × Int} {M : Nat → Prop} {x s h hq sc sg ar : Nat} {W SV T : Int → Int} {n len : Int} (hI : cI K N I A R Q G M x s h hq sc sg ar W n SV T len) : gC Y yX5_save cX5_save 2 none ({ frames := 3, cells := 317, slots := 1957, locals := 163 } : Room) [.ref h, .ref s] K N I A R Q (fun v K' N' I' A' R' Q' => v = none ∧ ∃ G', cI K' N' I' A' R' Q' G' M x s h hq sc sg ar W (sCnt n) (sSvd SV W n) T len ∧ gFm M K N I A R Q K' N' I' A' R' Q') gno := by
  refine gC_of (by decide) (Nat.le_of_ble_eq_true rfl) (fun X => ?_)
  obtain ⟨⟨x1, x2, x3, x4⟩, ⟨h1, h2, h3, h4, h5, h6, h7⟩, ⟨c1, c2, c3⟩, st, sv, hs, ⟨g1, g2, g3, g4, g5, g6, g7⟩, hM⟩ := id hI
  refine g_aload_n dX5_save_0 rfl rfl ?_
  refine g_get_History_count dX5_save_1 mw_263 (by assumption) ?_
  refine g_aload_n dX5_save_4 rfl rfl ?_
  refine g_get_History_saved dX5_save_5 mw_262 (by assumption) h2 ?_
  refine g_alen_State dX5_save_8 (by assumption) ?_
  refine g_icmp_lt (tgt := 27) dX5_save_9 (by decide) (by omega) (by omega) (fun c_9 => ?_) (fun c_9 => ?_)
  · first
    | (exact jp_H_save27 hI (by omega) (fun v K' N' I' A' R' Q' G' e1 e2 e3 => ⟨e1, G', by rw [show sCnt n = n + 1 by unfold sCnt; rw [if_neg (by omega)], show sSvd SV W n = sSvC SV W n 1618 by unfold sSvd; rw [if_neg (by omega)]]; exact e2, e3⟩))
    | (have n6 : n = 6 := by omega
       subst n6
       have hH0 := hs.cnt (by omega) h1 hI24
       obtain ⟨r1, r2⟩ := hI.cnt (n' := 5) (SV' := SV) (by rw [hI24, h4]; rfl) (by omega) ⟨hH0.1, fun i a b => hH0.2 i a (by omega)⟩
       have x13 : gEx hq K N I24 A R Q G K N I24 A R Q13 G := gEx.own (fun _ _ _ => rfl) (fun _ _ => rfl) (fun _ _ _ => rfl) qa
       obtain ⟨r3, r4⟩ := r1.ex x13 (n' := 5) (SV' := sSvS SV 8090) (by omega) (hH0.rot x13 h3 qb qc) r1.2.1.2.2.2.2.1 g7 (fun i a c t z => Or.inr (if e : i < 5 then ⟨i + 1, by omega, by omega, by rw [qb i a e] at z; exact z⟩ else ⟨0, by omega, by omega, by rw [show i = 5 by omega, qc] at z; exact z⟩))
       exact jp_H_save27 r3 (by omega) (fun v K' N' I' A' R' Q' G' e1 e2 e3 => ⟨e1, G', by rw [show sCnt 6 = 5 + 1 by rfl, show sSvd SV W 6 = sSvC (sSvS SV 8090) W 5 1618 by rfl]; exact e2, (r2.trans r4).trans e3⟩))
  · refine g_aload_n dX5_save_12 rfl rfl ?_
    refine g_callV (i := 3) rfl (gK0 (by assumption)) (g_at3 (by assumption)) (k_H_move Y h1 h2 h3 h4 (fun i => (Q hq i).getD 0) (fun i a b => by
    obtain ⟨t, e, _⟩ := hs.2 i a (by omega)
    rw [e]
    exact ⟨rfl, (hs.1 i a b t e).1.1.1⟩)) u_X5_moveOldestToEnd mw_430 dX5_save_13 rfl rfl ⟨Nat.le_of_ble_eq_true rfl, Nat.le_of_ble_eq_true rfl⟩ ⟨Nat.le_of_ble_eq_true rfl, Nat.le_of_ble_eq_true rfl⟩ (Nat.le_of_ble_eq_true rfl) (fun v13 K13 N13 I13 A13 R13 Q13 h13 => ?_)
    obtain ⟨rfl, kE, nE, iE, aE, rE, qa, qb, qc⟩ := h13
    obtain rfl := kE.symm
    obtain rfl := nE.symm
    obtain rfl := iE.symm
    obtain rfl := aE.symm
    obtain rfl := rE.symm
    refine g_aload_n dX5_save_16 rfl rfl ?_
    refine g_aload_n dX5_save_17 rfl rfl ?_
    refine g_get_History_saved dX5_save_18 mw_262 (by assumption) h2 ?_
    refine g_alen_State dX5_save_21 (by assumption) ?_
    refine g_iconst dX5_save_22 ?_
    refine g_isub dX5_save_23 ?_
    refine g_put_History_count dX5_save_24 mw_263 (by assumption) (fun I24 hI24 => ?_)
    first
    | (exact jp_H_save27 hI (by omega) (fun v K' N' I' A' R' Q' G' e1 e2 e3 => ⟨e1, G', by rw [show sCnt n = n + 1 by unfold sCnt; rw [if_neg (by omega)], show sSvd SV W n = sSvC SV W n 1618 by unfold sSvd; rw [if_neg (by omega)]]; exact e2, e3⟩))
    | (have n6 : n = 6 := by omega
       subst n6
       have hH0 := hs.cnt (by omega) h1 hI24
       obtain ⟨r1, r2⟩ := hI.cnt (n' := 5) (SV' := SV) (by rw [hI24, h4]; rfl) (by omega) ⟨hH0.1, fun i a b => hH0.2 i a (by omega)⟩
       have x13 : gEx hq K N I24 A R Q G K N I24 A R Q13 G := gEx.own (fun _ _ _ => rfl) (fun _ _ => rfl) (fun _ _ _ => rfl) qa
       obtain ⟨r3, r4⟩ := r1.ex x13 (n' := 5) (SV' := sSvS SV 8090) (by omega) (hH0.rot x13 h3 qb qc) r1.2.1.2.2.2.2.1 g7 (fun i a c t z => Or.inr (if e : i < 5 then ⟨i + 1, by omega, by omega, by rw [qb i a e] at z; exact z⟩ else ⟨0, by omega, by omega, by rw [show i = 5 by omega, qc] at z; exact z⟩))
       exact jp_H_save27 r3 (by omega) (fun v K' N' I' A' R' Q' G' e1 e2 e3 => ⟨e1, G', by rw [show sCnt 6 = 5 + 1 by rfl, show sSvd SV W 6 = sSvC (sSvS SV 8090) W 5 1618 by rfl]; exact e2, (r2.trans r4).trans e3⟩))
