theorem cSv.own {K N : Nat → Nat} {I : Nat → Nat → Int} {A : Nat → Int → Int} {R : Nat → Nat → Option Nat} {Q : Nat → Int → Option Nat} {G : Nat → Nat × Int} {I' : Nat → Nat → Int} {A' : Nat → Int → Int} {t : Nat} {W : Int → Int} (h : cSv K N I A R Q G t W) (hs : cSh K N R Q G t) (hI : ∀ f q, (G q).1 = t → I' f q = I f q) (hA : ∀ q, (G q).1 = t → A' q = A q) : cSv K N I' A' R Q G t W := by
  obtain ⟨h1, h2, ev, kq, nq, h3, h4⟩ := h
  have hv : cV I' R Q t = cV I R Q t := by
    funext j
    simp only [cV]
    by_cases z : cF j = 999
    · rw [if_pos z, if_pos z]
    · rw [if_neg z, if_neg z]; exact hI _ _ (by rw [hs.cell z])
  refine ⟨h1, by rw [hv]; exact h2, ev, kq, nq, h3, ?_⟩
  obtain ⟨e1, e2, e3, e4, e5, e6, e7, e8, e9, e10, e11, e12⟩ := h3
  refine ⟨(hI 22 ev (by rw [e10])).trans h4.1, fun i a b => ?_⟩
  rw [hA kq (by rw [e11]), hA nq (by rw [e12])]
  exact h4.2 i a b
theorem cSt.own {K N : Nat → Nat} {I : Nat → Nat → Int} {R : Nat → Nat → Option Nat} {Q : Nat → Int → Option Nat} {G : Nat → Nat × Int} {I' : Nat → Nat → Int} {t : Nat} (h : cSt K N I R Q G t) (hI : ∀ f q, (G q).1 = t → I' f q = I f q) : cSt K N I' R Q G t := ⟨h.1, fun i a b => by
  rw [hI 120 _ (by rw [(h.1.2.2.2.1.2.2.2.2 i a b).2.2])]
  exact h.2.1 i a b, h.2.2⟩
theorem cHs.own {K N : Nat → Nat} {I : Nat → Nat → Int} {A : Nat → Int → Int} {R : Nat → Nat → Option Nat} {Q : Nat → Int → Option Nat} {G : Nat → Nat × Int} {I' : Nat → Nat → Int} {A' : Nat → Int → Int} {s hq : Nat} {n : Int} {SV : Int → Int} (h : cHs K N I A R Q G s hq n SV) (hn : n ≤ 6) (hI : ∀ t, K t = 9 → ∀ f q, (G q).1 = t → I' f q = I f q) (hA : ∀ t, K t = 9 → ∀ q, (G q).1 = t → A' q = A q) : cHs K N I' A' R Q G s hq n SV := ⟨fun i a b t e => by
    obtain ⟨h1, h2, h3⟩ := h.1 i a b t e
    exact ⟨h1.own (hI t h1.1.1), h2, h3⟩, fun i a b => by
    obtain ⟨t, e, h2⟩ := h.2 i a b
    obtain ⟨g1, g2, g3⟩ := h.1 i a (by omega) t e
    exact ⟨t, e, h2.own g1.1 (hI t g1.1.1) (hA t g1.1.1)⟩⟩
/-- changes outside the factory -/
theorem cI.own {K N : Nat → Nat} {I : Nat → Nat → Int} {A : Nat → Int → Int} {R : Nat → Nat → Option Nat} {Q : Nat → Int → Option Nat} {G : Nat → Nat × Int} {M : Nat → Prop} {x s h hq sc sg ar : Nat} {W SV T : Int → Int} {n len : Int} {I' : Nat → Nat → Int} {A' : Nat → Int → Int} (hI : cI K N I A R Q G M x s h hq sc sg ar W n SV T len) (hi : ∀ f b, ¬ M b → I' f b = I f b) (ha : ∀ b, ¬ M b → A' b = A b) : cI K N I' A' R Q G M x s h hq sc sg ar W n SV T len := by
  obtain ⟨⟨x1, x2, x3, x4⟩, ⟨h1, h2, h3, h4, h5, h6, h7⟩, ⟨c1, c2, c3⟩, st, sv, hs, gg, hM⟩ := id hI
  obtain ⟨h0, hag, ev, kq, nq, hev, hE⟩ := id sv
  have hsh := st.1
  have nm : ∀ t, K t = 9 → ∀ q, (G q).1 = t → ¬ M q := fun t ht q hq hm => by
    obtain ⟨m1, m2, m3, m4⟩ := hM q hm
    rw [m3] at hq
    exact m2 (by rw [hq]; exact ht)
  have mh : ¬ M h := fun e => (hM h e).2.2.2.2.1 rfl
  have mc : ¬ M sc := fun e => (hM sc e).2.2.2.2.2.2.1 rfl
  have mg : ¬ M sg := fun e => (hM sg e).2.2.2.2.2.2.2.1 rfl
  exact ⟨⟨x1, x2, x3, x4⟩, ⟨h1, h2, h3, h4, (hi 61 h mh).trans h5, h6, h7⟩, ⟨c1, (hi 141 sc mc).trans c2, (ha sg mg).trans c3⟩, st.own (fun f q e => hi f q (nm s st.1.1 q e)), sv.own st.1 (fun f q e => hi f q (nm s st.1.1 q e)) (fun q e => ha q (nm s st.1.1 q e)), hs.own h7 (fun t ht f q e => hi f q (nm t ht q e)) (fun t ht q e => ha q (nm t ht q e)), gg, hM⟩
/-- changes in the script -/
theorem cI.sc {K N : Nat → Nat} {I : Nat → Nat → Int} {A : Nat → Int → Int} {R : Nat → Nat → Option Nat} {Q : Nat → Int → Option Nat} {G : Nat → Nat × Int} {M : Nat → Prop} {x s h hq sc sg ar : Nat} {W SV T : Int → Int} {n len : Int} {T' : Int → Int} {len' : Int} {I' : Nat → Nat → Int} {A' : Nat → Int → Int} {R' : Nat → Nat → Option Nat} (hI : cI K N I A R Q G M x s h hq sc sg ar W n SV T len) (hi : ∀ f b, b ≠ sc → I' f b = I f b) (ha : ∀ b, b ≠ sg → b ≠ ar → A' b = A b) (hr : ∀ f b, (f ≠ 146 ∨ b ≠ sc) → R' f b = R f b) (hT : A' sg = T') (hL : I' 141 sc = len') : cI K N I' A' R' Q G M x s h hq sc sg ar W n SV T' len' ∧ gFm M K N I A R Q K N I' A' R' Q := by
  obtain ⟨⟨x1, x2, x3, x4⟩, ⟨h1, h2, h3, h4, h5, h6, h7⟩, ⟨c1, c2, c3⟩, st, sv, hs, gg, hM⟩ := id hI
  obtain ⟨h0, hag, ev, kq, nq, hev, hE⟩ := id sv
  have hsh := st.1
  obtain ⟨d1, d2, d3, d4, d5, d6, d7⟩ := id c1
  have hx : gEx sc K N I A R Q G K N I' A R' Q G := gEx.own hi (fun _ _ => rfl) (fun f b hb => hr f b (Or.inr hb)) (fun _ _ => rfl)
  have hk : sKd (K sc) := by rw [d1]; unfold sKd; omega
  have own : ∀ t, K t = 9 → ∀ q, (G q).1 = t → A' q = A q := fun t ht q hq => ha q (fun e => by
    rw [e, gg.2.2.2.2.1] at hq
    rw [← hq, d3] at ht; cases ht) (fun e => by
    rw [e, gg.2.2.2.2.2.1] at hq
    rw [← hq, d6] at ht; cases ht)
  have st1 := st.keep (A := A) (N := N) hx hk
  have hh := (hs.keep h7 hx hk rfl)
  refine ⟨⟨⟨x1, (hr _ _ (by omega)).trans x2, (hr _ _ (by omega)).trans x3, (hr _ _ (by omega)).trans x4⟩, ⟨h1, (hr _ _ (by omega)).trans h2, h3, h4, (hi 61 h (fun e => by rw [e, d1] at h1; cases h1)).trans h5, h6, h7⟩, ⟨⟨d1, (hr _ _ (by omega)).trans d2, d3, d4, (hr _ _ (by omega)).trans d5, d6, d7⟩, hL, hT⟩, st1, (sv.keep st.1 hx hk).own st1.1 (fun _ _ _ => rfl) (own s st.1.1), hh.own h7 (fun _ _ _ _ _ => rfl) own, gg, hM⟩, fun b hb => ?_⟩
  obtain ⟨m1, m2, m3, m4, m5, m6, m7, m8, m9⟩ := hM b hb
  exact ⟨rfl, rfl, fun f => hi f b m7, ha b m8 m9, fun f => hr f b (Or.inr m7), rfl⟩
theorem cI.sf {K N : Nat → Nat} {I : Nat → Nat → Int} {A : Nat → Int → Int} {R : Nat → Nat → Option Nat} {Q : Nat → Int → Option Nat} {G : Nat → Nat × Int} {M : Nat → Prop} {x s h hq sc sg ar : Nat} {W SV T : Int → Int} {n len : Int} {I' : Nat → Nat → Int} {A' : Nat → Int → Int} {R' : Nat → Nat → Option Nat} (hI : cI K N I A R Q G M x s h hq sc sg ar W n SV T len) (hf : cSf I I' A A' R R' sc ar) : cI K N I' A' R' Q G M x s h hq sc sg ar W n SV T len ∧ gFm M K N I A R Q K N I' A' R' Q := by
  obtain ⟨⟨x1, x2, x3, x4⟩, ⟨h1, h2, h3, h4, h5, h6, h7⟩, ⟨c1, c2, c3⟩, st, sv, hs, gg, hM⟩ := id hI
  obtain ⟨h0, hag, ev, kq, nq, hev, hE⟩ := id sv
  have hsh := st.1
  exact hI.sc (fun f b e => hf.1 f b (Or.inl e)) (fun b _ e => hf.2.1 b e) (fun f b e => hf.2.2 f b e) ((hf.2.1 sg c1.ne).trans c3) ((hf.1 141 sc (by omega)).trans c2)
set_option maxHeartbeats 1000000 in
set_option maxRecDepth 100000 in
theorem jp_A_append_28 {Y : gEnv} {X : gCtx} {K N : Nat → Nat} {I : Nat → Nat → Int} {A : Nat → Int → Int} {R : Nat → Nat → Option Nat} {Q : Nat → Int → Option Nat} {G : Nat → Nat × Int} {M : Nat → Prop} {x s h hq sc sg ar : Nat} {W SV T : Int → Int} {n len : Int} (hI : cI K N I A R Q G M x s h hq sc sg ar W n SV T len) (a : Int) (ha : (-2147483648 ≤ a ∧ a ≤ 2147483647)) (hlen : 0 ≤ len ∧ len ≤ 100) (f0 : 32 ≤ a ∧ a ≤ 126) (z : Int) (hz : z = if len < 100 then 1 else 0) : gJ Y X yX12_append cX12_append 2 (some .int) ({ frames := 7, cells := 2, slots := 12, locals := 120 } : Room) (cOpP K N I A R Q M x s h hq sc sg ar (if ¬ (32 ≤ a ∧ a ≤ 126) then 1 else if len = 100 then 2 else 0) (vi (len + 1)) (W) (n) (SV) (sU T len a) ((len + 1))) (cOpX K N I A R Q (if ¬ (32 ≤ a ∧ a ≤ 126) then 1 else if len = 100 then 2 else 0) [xAr, xSt]) 1 6 28 [(0, .ref x), (1, vi a)] [vi z] K N I A R Q := by
  obtain ⟨⟨x1, x2, x3, x4⟩, ⟨h1, h2, h3, h4, h5, h6, h7⟩, ⟨c1, c2, c3⟩, st, sv, hs, gg, hM⟩ := id hI
  obtain ⟨h0, hag, ev, kq, nq, hev, hE⟩ := id sv
  have hsh := st.1
  skip
  refine g_callSXc (k_K_State Y _ (by first | omega | (split <;> omega))) u_X12_checkState mw_663 rfl dX12_append_28 rfl rfl ⟨Nat.le_of_ble_eq_true rfl, Nat.le_of_ble_eq_true rfl⟩ ⟨Nat.le_of_ble_eq_true rfl, Nat.le_of_ble_eq_true rfl⟩ (Nat.le_of_ble_eq_true rfl) (by decide) (fun E hh => by
    obtain ⟨q1, q2⟩ := hh
    have hc : ((if ¬ (32 ≤ a ∧ a ≤ 126) then 1 else if len = 100 then 2 else 0) : Int) = 2 := by repeat (first | omega | split)
    exact ⟨by rw [hc]; decide, by rw [hc, q2]; rfl, cSame.rfl⟩) (fun h28 => ?_)
  refine g_aload_n dX12_append_31 rfl rfl ?_
  refine g_get_TileFactory_script dX12_append_32 mw_350 (by assumption) x4 ?_
  refine g_iload_n dX12_append_35 rfl rfl ?_
  skip
  refine g_i2c dX12_append_36 (by omega) ?_
  refine g_callVw (i := 7) rfl (gK0 c1.1) (g_at7 c1.1) (k_C_add Y c1 (by omega) a (by omega)) u_X9_add mw_1106 dX12_append_37 rfl rfl ⟨Nat.le_of_ble_eq_true rfl, Nat.le_of_ble_eq_true rfl⟩ ⟨Nat.le_of_ble_eq_true rfl, Nat.le_of_ble_eq_true rfl⟩ (Nat.le_of_ble_eq_true rfl) (fun v37 I37 A37 h37 => ?_)
  obtain ⟨rfl, i37, a37⟩ := h37
  refine g_aload_n dX12_append_40 rfl rfl ?_
  refine g_get_TileFactory_script dX12_append_41 mw_350 (by assumption) x4 ?_
  refine g_get_Script_length dX12_append_44 mw_325 c1.1 ?_
  exact g_iret dX12_append_47 rfl (by decide) (by decide) (by
      have hc0 : ((if ¬ (32 ≤ a ∧ a ≤ 126) then 1 else if len = 100 then 2 else 0) : Int) = 0 := by repeat (first | omega | split)
      have eL : I37 141 sc = len + 1 := by rw [i37, c2]; simp [g_up]
      obtain ⟨r1, r2⟩ := hI.sc (I' := I37) (A' := A37) (R' := R) (T' := sU T len a) (len' := len + 1) (fun f b e => by rw [i37]; exact g_up_ne2 _ _ e) (fun b e _ => by rw [a37]; exact g_uq_off _ _ _ e) (fun _ _ _ => rfl) (by rw [a37, c2]; funext j; rw [g_uq_at, c3]; rfl) eL
      exact ⟨hc0, by rw [eL], G, r1, r2⟩)
set_option maxHeartbeats 1000000 in
set_option maxRecDepth 100000 in
theorem k_A_append (Y : gEnv) {K N : Nat → Nat} {I : Nat → Nat → Int} {A : Nat → Int → Int} {R : Nat → Nat → Option Nat} {Q : Nat → Int → Option Nat} {G : Nat → Nat × Int} {M : Nat → Prop} {x s h hq sc sg ar : Nat} {W SV T : Int → Int} {n len : Int} (hI : cI K N I A R Q G M x s h hq sc sg ar W n SV T len) (a : Int) (ha : (-2147483648 ≤ a ∧ a ≤ 2147483647)) (hlen : 0 ≤ len ∧ len ≤ 100) : gC Y yX12_append cX12_append 2 (some .int) ({ frames := 7, cells := 2, slots := 12, locals := 120 } : Room) [.ref x, vi a] K N I A R Q (cOpP K N I A R Q M x s h hq sc sg ar (if ¬ (32 ≤ a ∧ a ≤ 126) then 1 else if len = 100 then 2 else 0) (vi (len + 1)) (W) (n) (SV) (sU T len a) ((len + 1))) (cOpX K N I A R Q (if ¬ (32 ≤ a ∧ a ≤ 126) then 1 else if len = 100 then 2 else 0) [xAr, xSt]) := by
  refine gC_of (by decide) (Nat.le_of_ble_eq_true rfl) (fun X => ?_)
  obtain ⟨⟨x1, x2, x3, x4⟩, ⟨h1, h2, h3, h4, h5, h6, h7⟩, ⟨c1, c2, c3⟩, st, sv, hs, gg, hM⟩ := id hI
  obtain ⟨h0, hag, ev, kq, nq, hev, hE⟩ := id sv
  have hsh := st.1
  refine g_iload_n dX12_append_0 rfl rfl ?_
  refine g_bipush dX12_append_1 (by decide) ?_
  refine g_bipush dX12_append_3 (by decide) ?_
  refine g_callSp (k_isWithin Y _ _ _ (by omega) (by omega) (by omega)) u_X12_isWithin mw_524 rfl dX12_append_5 rfl rfl ⟨Nat.le_of_ble_eq_true rfl, Nat.le_of_ble_eq_true rfl⟩ ⟨Nat.le_of_ble_eq_true rfl, Nat.le_of_ble_eq_true rfl⟩ (Nat.le_of_ble_eq_true rfl) ?_
  refine g_callSXc (k_K_Argument Y _ (by first | omega | (split <;> omega))) u_X12_checkArgument mw_598 rfl dX12_append_8 rfl rfl ⟨Nat.le_of_ble_eq_true rfl, Nat.le_of_ble_eq_true rfl⟩ ⟨Nat.le_of_ble_eq_true rfl, Nat.le_of_ble_eq_true rfl⟩ (Nat.le_of_ble_eq_true rfl) (by decide) (fun E hh => by
    obtain ⟨q1, q2⟩ := hh
    have hc : ((if ¬ (32 ≤ a ∧ a ≤ 126) then 1 else if len = 100 then 2 else 0) : Int) = 1 := by repeat (first | omega | split)
    exact ⟨by rw [hc]; decide, by rw [hc, q2]; rfl, cSame.rfl⟩) (fun h8 => ?_)
  refine g_aload_n dX12_append_11 rfl rfl ?_
  refine g_get_TileFactory_script dX12_append_12 mw_350 (by assumption) x4 ?_
  refine g_get_Script_length dX12_append_15 mw_325 c1.1 ?_
  rw [c2]
  refine g_bipush dX12_append_18 (by decide) ?_
  refine g_icmp_ge (tgt := 27) dX12_append_20 (by decide) (by omega) (by omega) (fun c_20 => ?_) (fun c_20 => ?_)
  · refine g_iconst dX12_append_27 ?_
    exact jp_A_append_28 hI a ha hlen (by omega) _ (by repeat (first | omega | split))
  · refine g_iconst dX12_append_23 ?_
    refine g_goto (tgt := 28) dX12_append_24 (by decide) ?_
    exact jp_A_append_28 hI a ha hlen (by omega) _ (by repeat (first | omega | split))
set_option maxHeartbeats 1000000 in
set_option maxRecDepth 100000 in
theorem k_A_clear (Y : gEnv) {K N : Nat → Nat} {I : Nat → Nat → Int} {A : Nat → Int → Int} {R : Nat → Nat → Option Nat} {Q : Nat → Int → Option Nat} {G : Nat → Nat × Int} {M : Nat → Prop} {x s h hq sc sg ar : Nat} {W SV T : Int → Int} {n len : Int} (hI : cI K N I A R Q G M x s h hq sc sg ar W n SV T len)   : gC Y yX12_clear cX12_clear 2 (some .int) ({ frames := 1, cells := 0, slots := 0, locals := 12 } : Room) [.ref x] K N I A R Q (cOpP K N I A R Q M x s h hq sc sg ar (0) (vi len) (W) (n) (SV) (T) (0)) (cOpX K N I A R Q (0) ([] : List String)) := by
  refine gC_of (by decide) (Nat.le_of_ble_eq_true rfl) (fun X => ?_)
  obtain ⟨⟨x1, x2, x3, x4⟩, ⟨h1, h2, h3, h4, h5, h6, h7⟩, ⟨c1, c2, c3⟩, st, sv, hs, gg, hM⟩ := id hI
  obtain ⟨h0, hag, ev, kq, nq, hev, hE⟩ := id sv
  have hsh := st.1
  refine g_aload_n dX12_clear_0 rfl rfl ?_
  refine g_get_TileFactory_script dX12_clear_1 mw_350 (by assumption) x4 ?_
  refine g_get_Script_length dX12_clear_4 mw_325 c1.1 ?_
  refine g_istore_n dX12_clear_7 rfl (by decide) ?_
  refine g_aload_n dX12_clear_8 rfl rfl ?_
  refine g_get_TileFactory_script dX12_clear_9 mw_350 (by assumption) x4 ?_
  refine g_iconst dX12_clear_12 ?_
  refine g_put_Script_length dX12_clear_13 mw_325 c1.1 (fun I13 hI13 => ?_)
  refine g_iload_n dX12_clear_16 rfl rfl ?_
  exact g_iret dX12_clear_17 rfl (by decide) (by decide) (by
      obtain ⟨r1, r2⟩ := hI.sc (I' := I13) (A' := A) (R' := R) (T' := T) (len' := 0) (fun f b e => by rw [hI13]; exact g_up_ne2 _ _ e) (fun _ _ _ => rfl) (fun _ _ _ => rfl) c3 (by rw [hI13]; simp [g_up])
      exact ⟨rfl, by rw [c2], G, r1, r2⟩)
set_option maxHeartbeats 1000000 in
set_option maxRecDepth 100000 in
theorem k_A_firstError (Y : gEnv) {K N : Nat → Nat} {I : Nat → Nat → Int} {A : Nat → Int → Int} {R : Nat → Nat → Option Nat} {Q : Nat → Int → Option Nat} {G : Nat → Nat × Int} {M : Nat → Prop} {x s h hq sc sg ar : Nat} {W SV T : Int → Int} {n len : Int} (hI : cI K N I A R Q G M x s h hq sc sg ar W n SV T len)  (hlen : 0 ≤ len ∧ len ≤ 100) (hTr : ∀ j, 0 ≤ j → j < 100 → 0 ≤ T j ∧ T j ≤ 126) : gC Y yX12_firstError cX12_firstError 1 (some .int) ({ frames := 9, cells := 0, slots := 0, locals := 257 } : Room) [.ref x] K N I A R Q (cOpP K N I A R Q M x s h hq sc sg ar (0) (vi (sErr T len 101 0 0)) (W) (n) (SV) (T) (len)) (cOpX K N I A R Q (0) ([] : List String)) := by
  refine gC_of (by decide) (Nat.le_of_ble_eq_true rfl) (fun X => ?_)
  obtain ⟨⟨x1, x2, x3, x4⟩, ⟨h1, h2, h3, h4, h5, h6, h7⟩, ⟨c1, c2, c3⟩, st, sv, hs, gg, hM⟩ := id hI
  obtain ⟨h0, hag, ev, kq, nq, hev, hE⟩ := id sv
  have hsh := st.1
  refine g_aload_n dX12_firstError_0 rfl rfl ?_
  refine g_get_TileFactory_script dX12_firstError_1 mw_350 (by assumption) x4 ?_
  refine g_callVr (i := 7) rfl (gK0 c1.1) (g_at7 c1.1) (k_C_findError Y c1 (by rw [c3]; exact hTr) (by rw [c2]; exact hlen)) u_X9_findError mw_418 dX12_firstError_4 rfl rfl ⟨Nat.le_of_ble_eq_true rfl, Nat.le_of_ble_eq_true rfl⟩ ⟨Nat.le_of_ble_eq_true rfl, Nat.le_of_ble_eq_true rfl⟩ (Nat.le_of_ble_eq_true rfl) (fun v4 I4 A4 R4 h4 => ?_)
  obtain ⟨rfl, f4⟩ := h4
  rw [c3, c2]
  obtain ⟨r1, r2⟩ := hI.sf f4
  exact g_iret dX12_firstError_7 rfl (by decide) (by decide) ⟨rfl, rfl, G, r1, r2⟩
set_option maxHeartbeats 1000000 in
set_option maxRecDepth 100000 in
theorem k_A_fault0 (Y : gEnv) {K N : Nat → Nat} {I : Nat → Nat → Int} {A : Nat → Int → Int} {R : Nat → Nat → Option Nat} {Q : Nat → Int → Option Nat} {G : Nat → Nat × Int} {M : Nat → Prop} {x s h hq sc sg ar : Nat} {W SV T : Int → Int} {n len : Int} (hI : cI K N I A R Q G M x s h hq sc sg ar W n SV T len) (a : Int) (ha : (-2147483648 ≤ a ∧ a ≤ 2147483647)) (b : Int) (hb : (-2147483648 ≤ b ∧ b ≤ 2147483647)) (c : Int) (hc : (-2147483648 ≤ c ∧ c ≤ 2147483647)) (d : Int) (hd : (-2147483648 ≤ d ∧ d ≤ 2147483647)) : gC Y yX12_faultOfCommand cX12_faultOfCommand 6 (some (.object "TileFactory$Fault")) ({ frames := 3, cells := 0, slots := 0, locals := 73 } : Room) [.ref x, .ref (Y.2.2.1 (30 + 0)), vi a, vi b, vi c, vi d] K N I A R Q (g_pu (some (.ref (Y.2.2.1 (20 + (sFireT W a b c d).toNat)))) K N I A R Q) gno := by
  refine gC_of (by decide) (Nat.le_of_ble_eq_true rfl) (fun X => ?_)
  obtain ⟨⟨x1, x2, x3, x4⟩, ⟨h1, h2, h3, h4, h5, h6, h7⟩, ⟨c1, c2, c3⟩, st, sv, hs, gg, hM⟩ := id hI
  obtain ⟨h0, hag, ev, kq, nq, hev, hE⟩ := id sv
  have hsh := st.1
  refine g_switch dX12_faultOfCommand_0 mw_1136 ?_
  refine g_aload_n dX12_faultOfCommand_3 rfl rfl ?_
  refine g_callOrd (i := 0) (v := 0) (by decide) (k_J_ordinal Y (by decide)) mw_1138 dX12_faultOfCommand_4 ⟨Nat.le_of_ble_eq_true rfl, Nat.le_of_ble_eq_true rfl⟩ ⟨Nat.le_of_ble_eq_true rfl, Nat.le_of_ble_eq_true rfl⟩ (Nat.le_of_ble_eq_true rfl) ?_
  refine g_switchAt (v := 1) dX12_faultOfCommand_7 (by omega) rfl ?_
  refine g_tswIn (off := 32) (tgt := 40) dX12_faultOfCommand_8 (by omega) 0 (by omega) (by omega) rfl (by decide) ?_
  refine g_aload_n dX12_faultOfCommand_40 rfl rfl ?_
  refine g_get_TileFactory_state dX12_faultOfCommand_41 mw_348 (by assumption) x2 ?_
  refine g_iload_n dX12_faultOfCommand_44 rfl rfl ?_
  refine g_iload_n dX12_faultOfCommand_45 rfl rfl ?_
  refine g_iload dX12_faultOfCommand_46 rfl ?_
  refine g_iload dX12_faultOfCommand_48 rfl ?_
  refine g_callVp (i := 8) rfl (gK0 hsh.1) (g_at8 hsh.1) (k_S_fFire Y hsh hag h0 a b c d ha hb hc hd) u_X10_faultOfFiring mw_689 dX12_faultOfCommand_50 rfl rfl ⟨Nat.le_of_ble_eq_true rfl, Nat.le_of_ble_eq_true rfl⟩ ⟨Nat.le_of_ble_eq_true rfl, Nat.le_of_ble_eq_true rfl⟩ (Nat.le_of_ble_eq_true rfl) ?_
  exact g_aret dX12_faultOfCommand_53 rfl (Or.inl ⟨_, rfl⟩) (by decide) (by decide) ⟨rfl, rfl, rfl, rfl, rfl, rfl, rfl⟩
set_option maxHeartbeats 1000000 in
set_option maxRecDepth 100000 in
theorem k_A_fault1 (Y : gEnv) {K N : Nat → Nat} {I : Nat → Nat → Int} {A : Nat → Int → Int} {R : Nat → Nat → Option Nat} {Q : Nat → Int → Option Nat} {G : Nat → Nat × Int} {M : Nat → Prop} {x s h hq sc sg ar : Nat} {W SV T : Int → Int} {n len : Int} (hI : cI K N I A R Q G M x s h hq sc sg ar W n SV T len) (a : Int) (ha : (-2147483648 ≤ a ∧ a ≤ 2147483647)) (b : Int) (c : Int) (d : Int) : gC Y yX12_faultOfCommand cX12_faultOfCommand 6 (some (.object "TileFactory$Fault")) ({ frames := 3, cells := 0, slots := 0, locals := 73 } : Room) [.ref x, .ref (Y.2.2.1 (30 + 1)), vi a, vi b, vi c, vi d] K N I A R Q (g_pu (some (.ref (Y.2.2.1 (20 + (cGradeF (sGradeT W a)).toNat)))) K N I A R Q) gno := by
  refine gC_of (by decide) (Nat.le_of_ble_eq_true rfl) (fun X => ?_)
  obtain ⟨⟨x1, x2, x3, x4⟩, ⟨h1, h2, h3, h4, h5, h6, h7⟩, ⟨c1, c2, c3⟩, st, sv, hs, gg, hM⟩ := id hI
  obtain ⟨h0, hag, ev, kq, nq, hev, hE⟩ := id sv
  have hsh := st.1
  refine g_switch dX12_faultOfCommand_0 mw_1136 ?_
  refine g_aload_n dX12_faultOfCommand_3 rfl rfl ?_
  refine g_callOrd (i := 1) (v := 1) (by decide) (k_J_ordinal Y (by decide)) mw_1138 dX12_faultOfCommand_4 ⟨Nat.le_of_ble_eq_true rfl, Nat.le_of_ble_eq_true rfl⟩ ⟨Nat.le_of_ble_eq_true rfl, Nat.le_of_ble_eq_true rfl⟩ (Nat.le_of_ble_eq_true rfl) ?_
  refine g_switchAt (v := 2) dX12_faultOfCommand_7 (by omega) rfl ?_
  refine g_tswIn (off := 46) (tgt := 54) dX12_faultOfCommand_8 (by omega) 1 (by omega) (by omega) rfl (by decide) ?_
  refine g_aload_n dX12_faultOfCommand_54 rfl rfl ?_
  refine g_get_TileFactory_state dX12_faultOfCommand_55 mw_348 (by assumption) x2 ?_
  refine g_iload_n dX12_faultOfCommand_58 rfl rfl ?_
  refine g_callVp (i := 8) rfl (gK0 hsh.1) (g_at8 hsh.1) (k_S_fGrade Y hsh hag h0.2.2.2.1 a ha) u_X10_faultOfGrading mw_770 dX12_faultOfCommand_59 rfl rfl ⟨Nat.le_of_ble_eq_true rfl, Nat.le_of_ble_eq_true rfl⟩ ⟨Nat.le_of_ble_eq_true rfl, Nat.le_of_ble_eq_true rfl⟩ (Nat.le_of_ble_eq_true rfl) ?_
  exact g_aret dX12_faultOfCommand_62 rfl (Or.inl ⟨_, rfl⟩) (by decide) (by decide) ⟨rfl, rfl, rfl, rfl, rfl, rfl, rfl⟩
set_option maxHeartbeats 1000000 in
set_option maxRecDepth 100000 in
theorem k_A_fault2 (Y : gEnv) {K N : Nat → Nat} {I : Nat → Nat → Int} {A : Nat → Int → Int} {R : Nat → Nat → Option Nat} {Q : Nat → Int → Option Nat} {G : Nat → Nat × Int} {M : Nat → Prop} {x s h hq sc sg ar : Nat} {W SV T : Int → Int} {n len : Int} (hI : cI K N I A R Q G M x s h hq sc sg ar W n SV T len) (a : Int) (b : Int) (c : Int) (d : Int) : gC Y yX12_faultOfCommand cX12_faultOfCommand 6 (some (.object "TileFactory$Fault")) ({ frames := 3, cells := 0, slots := 0, locals := 73 } : Room) [.ref x, .ref (Y.2.2.1 (30 + 2)), vi a, vi b, vi c, vi d] K N I A R Q (g_pu (some (.ref (Y.2.2.1 (20 + ((0 : Int)).toNat)))) K N I A R Q) gno := by
  refine gC_of (by decide) (Nat.le_of_ble_eq_true rfl) (fun X => ?_)
  obtain ⟨⟨x1, x2, x3, x4⟩, ⟨h1, h2, h3, h4, h5, h6, h7⟩, ⟨c1, c2, c3⟩, st, sv, hs, gg, hM⟩ := id hI
  obtain ⟨h0, hag, ev, kq, nq, hev, hE⟩ := id sv
  have hsh := st.1
  refine g_switch dX12_faultOfCommand_0 mw_1136 ?_
  refine g_aload_n dX12_faultOfCommand_3 rfl rfl ?_
  refine g_callOrd (i := 2) (v := 2) (by decide) (k_J_ordinal Y (by decide)) mw_1138 dX12_faultOfCommand_4 ⟨Nat.le_of_ble_eq_true rfl, Nat.le_of_ble_eq_true rfl⟩ ⟨Nat.le_of_ble_eq_true rfl, Nat.le_of_ble_eq_true rfl⟩ (Nat.le_of_ble_eq_true rfl) ?_
  refine g_switchAt (v := 3) dX12_faultOfCommand_7 (by omega) rfl ?_
  refine g_tswIn (off := 55) (tgt := 63) dX12_faultOfCommand_8 (by omega) 2 (by omega) (by omega) rfl (by decide) ?_
  refine g_fault (i := 0) dX12_faultOfCommand_63 mw_1144 (by decide) rfl ?_
  exact g_aret dX12_faultOfCommand_66 rfl (Or.inl ⟨_, rfl⟩) (by decide) (by decide) ⟨rfl, rfl, rfl, rfl, rfl, rfl, rfl⟩
set_option maxHeartbeats 1000000 in
set_option maxRecDepth 100000 in
theorem k_A_fault3 (Y : gEnv) {K N : Nat → Nat} {I : Nat → Nat → Int} {A : Nat → Int → Int} {R : Nat → Nat → Option Nat} {Q : Nat → Int → Option Nat} {G : Nat → Nat × Int} {M : Nat → Prop} {x s h hq sc sg ar : Nat} {W SV T : Int → Int} {n len : Int} (hI : cI K N I A R Q G M x s h hq sc sg ar W n SV T len) (a : Int) (ha : (-2147483648 ≤ a ∧ a ≤ 2147483647)) (b : Int) (hb : (-2147483648 ≤ b ∧ b ≤ 2147483647)) (c : Int) (hc : (-2147483648 ≤ c ∧ c ≤ 2147483647)) (d : Int) : gC Y yX12_faultOfCommand cX12_faultOfCommand 6 (some (.object "TileFactory$Fault")) ({ frames := 3, cells := 0, slots := 0, locals := 73 } : Room) [.ref x, .ref (Y.2.2.1 (30 + 3)), vi a, vi b, vi c, vi d] K N I A R Q (g_pu (some (.ref (Y.2.2.1 (20 + (sDeliverT W a b c).toNat)))) K N I A R Q) gno := by
  refine gC_of (by decide) (Nat.le_of_ble_eq_true rfl) (fun X => ?_)
  obtain ⟨⟨x1, x2, x3, x4⟩, ⟨h1, h2, h3, h4, h5, h6, h7⟩, ⟨c1, c2, c3⟩, st, sv, hs, gg, hM⟩ := id hI
  obtain ⟨h0, hag, ev, kq, nq, hev, hE⟩ := id sv
  have hsh := st.1
  refine g_switch dX12_faultOfCommand_0 mw_1136 ?_
  refine g_aload_n dX12_faultOfCommand_3 rfl rfl ?_
  refine g_callOrd (i := 3) (v := 3) (by decide) (k_J_ordinal Y (by decide)) mw_1138 dX12_faultOfCommand_4 ⟨Nat.le_of_ble_eq_true rfl, Nat.le_of_ble_eq_true rfl⟩ ⟨Nat.le_of_ble_eq_true rfl, Nat.le_of_ble_eq_true rfl⟩ (Nat.le_of_ble_eq_true rfl) ?_
  refine g_switchAt (v := 4) dX12_faultOfCommand_7 (by omega) rfl ?_
  refine g_tswIn (off := 59) (tgt := 67) dX12_faultOfCommand_8 (by omega) 3 (by omega) (by omega) rfl (by decide) ?_
  refine g_aload_n dX12_faultOfCommand_67 rfl rfl ?_
  refine g_get_TileFactory_state dX12_faultOfCommand_68 mw_348 (by assumption) x2 ?_
  refine g_iload_n dX12_faultOfCommand_71 rfl rfl ?_
  refine g_iload_n dX12_faultOfCommand_72 rfl rfl ?_
  refine g_iload dX12_faultOfCommand_73 rfl ?_
  refine g_callVp (i := 8) rfl (gK0 hsh.1) (g_at8 hsh.1) (k_S_fDeliver Y hsh hag h0 a b c ha hb hc) u_X10_faultOfDelivery mw_809 dX12_faultOfCommand_75 rfl rfl ⟨Nat.le_of_ble_eq_true rfl, Nat.le_of_ble_eq_true rfl⟩ ⟨Nat.le_of_ble_eq_true rfl, Nat.le_of_ble_eq_true rfl⟩ (Nat.le_of_ble_eq_true rfl) ?_
  exact g_aret dX12_faultOfCommand_78 rfl (Or.inl ⟨_, rfl⟩) (by decide) (by decide) ⟨rfl, rfl, rfl, rfl, rfl, rfl, rfl⟩
set_option maxHeartbeats 1000000 in
set_option maxRecDepth 100000 in
theorem k_A_fault4 (Y : gEnv) {K N : Nat → Nat} {I : Nat → Nat → Int} {A : Nat → Int → Int} {R : Nat → Nat → Option Nat} {Q : Nat → Int → Option Nat} {G : Nat → Nat × Int} {M : Nat → Prop} {x s h hq sc sg ar : Nat} {W SV T : Int → Int} {n len : Int} (hI : cI K N I A R Q G M x s h hq sc sg ar W n SV T len) (a : Int) (ha : (-2147483648 ≤ a ∧ a ≤ 2147483647)) (b : Int) (hb : (-2147483648 ≤ b ∧ b ≤ 2147483647)) (c : Int) (hc : (-2147483648 ≤ c ∧ c ≤ 2147483647)) (d : Int) (hd : (-2147483648 ≤ d ∧ d ≤ 2147483647)) : gC Y yX12_faultOfCommand cX12_faultOfCommand 6 (some (.object "TileFactory$Fault")) ({ frames := 3, cells := 0, slots := 0, locals := 73 } : Room) [.ref x, .ref (Y.2.2.1 (30 + 4)), vi a, vi b, vi c, vi d] K N I A R Q (g_pu (some (.ref (Y.2.2.1 (20 + (sDropT W a b c d).toNat)))) K N I A R Q) gno := by
  refine gC_of (by decide) (Nat.le_of_ble_eq_true rfl) (fun X => ?_)
  obtain ⟨⟨x1, x2, x3, x4⟩, ⟨h1, h2, h3, h4, h5, h6, h7⟩, ⟨c1, c2, c3⟩, st, sv, hs, gg, hM⟩ := id hI
  obtain ⟨h0, hag, ev, kq, nq, hev, hE⟩ := id sv
  have hsh := st.1
  refine g_switch dX12_faultOfCommand_0 mw_1136 ?_
  refine g_aload_n dX12_faultOfCommand_3 rfl rfl ?_
  refine g_callOrd (i := 4) (v := 4) (by decide) (k_J_ordinal Y (by decide)) mw_1138 dX12_faultOfCommand_4 ⟨Nat.le_of_ble_eq_true rfl, Nat.le_of_ble_eq_true rfl⟩ ⟨Nat.le_of_ble_eq_true rfl, Nat.le_of_ble_eq_true rfl⟩ (Nat.le_of_ble_eq_true rfl) ?_
  refine g_switchAt (v := 0) dX12_faultOfCommand_7 (by omega) rfl ?_
  refine g_tswOut (tgt := 79) dX12_faultOfCommand_8 (by omega) (by omega) (by decide) ?_
  refine g_aload_n dX12_faultOfCommand_79 rfl rfl ?_
  refine g_get_TileFactory_state dX12_faultOfCommand_80 mw_348 (by assumption) x2 ?_
  refine g_iload_n dX12_faultOfCommand_83 rfl rfl ?_
  refine g_iload_n dX12_faultOfCommand_84 rfl rfl ?_
  refine g_iload dX12_faultOfCommand_85 rfl ?_
  refine g_iload dX12_faultOfCommand_87 rfl ?_
  refine g_callVp (i := 8) rfl (gK0 hsh.1) (g_at8 hsh.1) (k_S_fDrop Y hsh hag h0 a b c d ha hb hc hd) u_X10_faultOfDropping mw_855 dX12_faultOfCommand_89 rfl rfl ⟨Nat.le_of_ble_eq_true rfl, Nat.le_of_ble_eq_true rfl⟩ ⟨Nat.le_of_ble_eq_true rfl, Nat.le_of_ble_eq_true rfl⟩ (Nat.le_of_ble_eq_true rfl) ?_
  exact g_aret dX12_faultOfCommand_92 rfl (Or.inl ⟨_, rfl⟩) (by decide) (by decide) ⟨rfl, rfl, rfl, rfl, rfl, rfl, rfl⟩
set_option maxHeartbeats 1000000 in
set_option maxRecDepth 100000 in
theorem k_A_run1 (Y : gEnv) {K N : Nat → Nat} {I : Nat → Nat → Int} {A : Nat → Int → Int} {R : Nat → Nat → Option Nat} {Q : Nat → Int → Option Nat} {G : Nat → Nat × Int} {M : Nat → Prop} {x s h hq sc sg ar : Nat} {W SV T : Int → Int} {n len : Int} (hI : cI K N I A R Q G M x s h hq sc sg ar W n SV T len) {S : sSt} (hP : cPs Y I A R sc ar S) (hS : sInv S) (hk : sKind S = 0) (hz : iZ W) (hN : sCode W S = 0 → iN (sApp W S)) (hw : S.1 = 1) : gC Y yX12_runCommand cX12_runCommand 6 (some .boolean) ({ frames := 4, cells := 0, slots := 0, locals := 189 } : Room) [.ref x, .ref (Y.2.2.1 (30 + 0))] K N I A R Q (g_wr K N R Q (fun v I' A' => v = some (vi (if 0 < sCode W S then 0 else 1)) ∧ cI K N I' A' R Q G M x s h hq sc sg ar (if 0 < sCode W S then W else sApp W S) n SV T len ∧ gFm M K N I A R Q K N I' A' R Q ∧ I' 142 sc = I 142 sc)) gno := by
  refine gC_of (by decide) (Nat.le_of_ble_eq_true rfl) (fun X => ?_)
  refine gJ_st (fun hst => ?_)
  obtain ⟨U, H, hst⟩ := hst
  obtain ⟨⟨x1, x2, x3, x4⟩, ⟨h1, h2, h3, h4, h5, h6, h7⟩, ⟨c1, c2, c3⟩, st, sv, hs, gg, hM⟩ := id hI
  obtain ⟨h0, hag, ev, kq, nq, hev, hE⟩ := id sv
  have hsh := st.1
  obtain ⟨p1, p2, p3, p4⟩ := id hP
  obtain ⟨s1, s2, s3, s4, s5, s6⟩ := id hS
  obtain ⟨k1, k2, k3⟩ := sNeed_ok hk
  have hh1 : S.2.2.1 = 1 := by omega
  have k5 : sNeed S.1 = 4 := by rw [hw]; rfl
  have k4 : S.2.1 = 4 + 1 := by omega
  have n15 : 0 ≤ W 1615 ∧ W 1615 ≤ 40 := ⟨h0.2.2.2.2.2.1.1, h0.2.2.2.2.2.1.2.1⟩
  have g0 := s6 hh1 0 (by omega) (by omega)
  have a0 : A ar 0 = S.2.2.2 0 := p4 0 (by omega) (by omega) (by omega)
  have g1 := s6 hh1 1 (by omega) (by omega)
  have a1 : A ar 1 = S.2.2.2 1 := p4 1 (by omega) (by omega) (by omega)
  have g2 := s6 hh1 2 (by omega) (by omega)
  have a2 : A ar 2 = S.2.2.2 2 := p4 2 (by omega) (by omega) (by omega)
  have g3 := s6 hh1 3 (by omega) (by omega)
  have a3 : A ar 3 = S.2.2.2 3 := p4 3 (by omega) (by omega) (by omega)
  have eC : sCode W S = sFireT W (S.2.2.2 0) (S.2.2.2 1) (S.2.2.2 2) (S.2.2.2 3) := (by simp only [sCode]; first | (rw [if_pos hw]; done))
  have eA : sApp W S = sFire W (S.2.2.2 0) (S.2.2.2 1) (S.2.2.2 2) (S.2.2.2 3) := by simp only [sApp]; rw [if_pos hw]
  have rg := sFireT_range W (S.2.2.2 0) (S.2.2.2 1) (S.2.2.2 2) (S.2.2.2 3)
  rw [eC, eA]
  rw [eC, eA] at hN
  refine g_aload_n dX12_runCommand_0 rfl rfl ?_
  refine g_get_TileFactory_script dX12_runCommand_1 mw_350 (by assumption) x4 ?_
  refine g_iconst dX12_runCommand_4 ?_
  refine g_callVp (i := 7) rfl (gK0 c1.1) (g_at7 c1.1) (k_C_argument Y c1 0 (by omega)) u_X9_argument mw_1128 dX12_runCommand_5 rfl rfl ⟨Nat.le_of_ble_eq_true rfl, Nat.le_of_ble_eq_true rfl⟩ ⟨Nat.le_of_ble_eq_true rfl, Nat.le_of_ble_eq_true rfl⟩ (Nat.le_of_ble_eq_true rfl) ?_
  rw [a0]
  refine g_istore_n dX12_runCommand_8 rfl (by decide) ?_
  refine g_aload_n dX12_runCommand_9 rfl rfl ?_
  refine g_get_TileFactory_script dX12_runCommand_10 mw_350 (by assumption) x4 ?_
  refine g_iconst dX12_runCommand_13 ?_
  refine g_callVp (i := 7) rfl (gK0 c1.1) (g_at7 c1.1) (k_C_argument Y c1 1 (by omega)) u_X9_argument mw_1128 dX12_runCommand_14 rfl rfl ⟨Nat.le_of_ble_eq_true rfl, Nat.le_of_ble_eq_true rfl⟩ ⟨Nat.le_of_ble_eq_true rfl, Nat.le_of_ble_eq_true rfl⟩ (Nat.le_of_ble_eq_true rfl) ?_
  rw [a1]
  refine g_istore_n dX12_runCommand_17 rfl (by decide) ?_
  refine g_aload_n dX12_runCommand_18 rfl rfl ?_
  refine g_get_TileFactory_script dX12_runCommand_19 mw_350 (by assumption) x4 ?_
  refine g_iconst dX12_runCommand_22 ?_
  refine g_callVp (i := 7) rfl (gK0 c1.1) (g_at7 c1.1) (k_C_argument Y c1 2 (by omega)) u_X9_argument mw_1128 dX12_runCommand_23 rfl rfl ⟨Nat.le_of_ble_eq_true rfl, Nat.le_of_ble_eq_true rfl⟩ ⟨Nat.le_of_ble_eq_true rfl, Nat.le_of_ble_eq_true rfl⟩ (Nat.le_of_ble_eq_true rfl) ?_
  rw [a2]
  refine g_istore dX12_runCommand_26 (by decide) ?_
  refine g_aload_n dX12_runCommand_28 rfl rfl ?_
  refine g_get_TileFactory_script dX12_runCommand_29 mw_350 (by assumption) x4 ?_
  refine g_iconst dX12_runCommand_32 ?_
  refine g_callVp (i := 7) rfl (gK0 c1.1) (g_at7 c1.1) (k_C_argument Y c1 3 (by omega)) u_X9_argument mw_1128 dX12_runCommand_33 rfl rfl ⟨Nat.le_of_ble_eq_true rfl, Nat.le_of_ble_eq_true rfl⟩ ⟨Nat.le_of_ble_eq_true rfl, Nat.le_of_ble_eq_true rfl⟩ (Nat.le_of_ble_eq_true rfl) ?_
  rw [a3]
  refine g_istore dX12_runCommand_36 (by decide) ?_
  refine g_aload_n dX12_runCommand_38 rfl rfl ?_
  refine g_ifnull (z := (some (Y.2.2.1 (30 + 0)))) (tgt := 59) dX12_runCommand_39 (by decide) (fun c_39 => ?_) (fun b_39 c_39 => ?_)
  · first
    | (cases c_39; done)
    | (have e56 : ¬ (sFireT W (S.2.2.2 0) (S.2.2.2 1) (S.2.2.2 2) (S.2.2.2 3)).toNat = 0 := fun e => c_56 (by rw [e])
       have hc1 : 0 < sFireT W (S.2.2.2 0) (S.2.2.2 1) (S.2.2.2 2) (S.2.2.2 3) := by have := rg; omega
       refine g_iconst dX12_runCommand_59 ?_
       exact g_zret dX12_runCommand_60 rfl (by omega) (by decide) (by decide) ⟨rfl, rfl, rfl, rfl, by rw [if_pos hc1], by rw [if_pos hc1]; exact hI, gFm.rfl, rfl⟩)
  · refine g_aload_n dX12_runCommand_42 rfl rfl ?_
    refine g_aload_n dX12_runCommand_43 rfl rfl ?_
    refine g_iload_n dX12_runCommand_44 rfl rfl ?_
    refine g_iload_n dX12_runCommand_45 rfl rfl ?_
    refine g_iload dX12_runCommand_46 rfl ?_
    refine g_iload dX12_runCommand_48 rfl ?_
    refine g_callVp (i := 9) rfl (gK0 x1) (g_at9 x1) (k_A_fault0 Y hI (S.2.2.2 0) (by omega) (S.2.2.2 1) (by omega) (S.2.2.2 2) (by omega) (S.2.2.2 3) (by omega)) u_X12_faultOfCommand mw_1132 dX12_runCommand_50 rfl rfl ⟨Nat.le_of_ble_eq_true rfl, Nat.le_of_ble_eq_true rfl⟩ ⟨Nat.le_of_ble_eq_true rfl, Nat.le_of_ble_eq_true rfl⟩ (Nat.le_of_ble_eq_true rfl) ?_
    refine g_fault (i := 0) dX12_runCommand_53 mw_1144 (by decide) rfl ?_
    refine g_acmp_eq (tgt := 61) dX12_runCommand_56 (by decide) (fun c_56 => ?_) (fun c_56 => ?_)
    · have e56 := gFault_ne (i := (sFireT W (S.2.2.2 0) (S.2.2.2 1) (S.2.2.2 2) (S.2.2.2 3)).toNat) (j := 0) hst (by omega) (by decide) c_56
      have hc0 : sFireT W (S.2.2.2 0) (S.2.2.2 1) (S.2.2.2 2) (S.2.2.2 3) = 0 := by omega
      have hok := rg.2.2 hc0
      skip
      refine g_switch dX12_runCommand_61 mw_1136 ?_
      refine g_aload_n dX12_runCommand_64 rfl rfl ?_
      refine g_callOrd (i := 0) (v := 0) (by decide) (k_J_ordinal Y (by decide)) mw_1138 dX12_runCommand_65 ⟨Nat.le_of_ble_eq_true rfl, Nat.le_of_ble_eq_true rfl⟩ ⟨Nat.le_of_ble_eq_true rfl, Nat.le_of_ble_eq_true rfl⟩ (Nat.le_of_ble_eq_true rfl) ?_
      refine g_switchAt (v := 1) dX12_runCommand_68 (by omega) rfl ?_
      refine g_tswIn (off := 31) (tgt := 100) dX12_runCommand_69 (by omega) 0 (by omega) (by omega) rfl (by decide) ?_
      refine g_aload_n dX12_runCommand_100 rfl rfl ?_
      refine g_get_TileFactory_state dX12_runCommand_101 mw_348 (by assumption) x2 ?_
      refine g_iload_n dX12_runCommand_104 rfl rfl ?_
      refine g_iload_n dX12_runCommand_105 rfl rfl ?_
      refine g_iload dX12_runCommand_106 rfl ?_
      refine g_iload dX12_runCommand_108 rfl ?_
      refine g_callVw (i := 8) rfl (gK0 hsh.1) (g_at8 hsh.1) (k_S_makeFiring Y hsh hag hev hE st.2.1 h0 _ _ _ _ (by omega) (by omega) (by omega) (by omega) (by have := h0.2.2.2.2.2.2.1.2.2.2.2.2.1; omega)) u_X10_makeFiring mw_713 dX12_runCommand_110 rfl rfl ⟨Nat.le_of_ble_eq_true rfl, Nat.le_of_ble_eq_true rfl⟩ ⟨Nat.le_of_ble_eq_true rfl, Nat.le_of_ble_eq_true rfl⟩ (Nat.le_of_ble_eq_true rfl) (fun v110 I110 A110 h110 => ?_)
      obtain ⟨rfl, q1, q2, q3⟩ := h110
      refine g_pop dX12_runCommand_113 rfl ?_
      refine g_goto (tgt := 169) dX12_runCommand_114 (by decide) ?_
      refine g_iconst dX12_runCommand_169 ?_
      exact g_zret dX12_runCommand_170 rfl (by omega) (by decide) (by decide) (by
      obtain ⟨t1, t2⟩ := hI.st q1 (W' := sFire W (S.2.2.2 0) (S.2.2.2 1) (S.2.2.2 2) (S.2.2.2 3)) ⟨hN hc0, q2, ev, kq, nq, hev, q3⟩
      exact ⟨rfl, rfl, rfl, rfl, by rw [if_neg (by omega)], by rw [if_neg (by omega)]; exact t1, t2, q1.1 142 sc (by rw [gg.2.2.2.1]; intro z; rw [z] at c1; have := c1.1; rw [st.1.1] at this; cases this)⟩)
    · first
      | (cases c_39; done)
      | (have e56 : ¬ (sFireT W (S.2.2.2 0) (S.2.2.2 1) (S.2.2.2 2) (S.2.2.2 3)).toNat = 0 := fun e => c_56 (by rw [e])
         have hc1 : 0 < sFireT W (S.2.2.2 0) (S.2.2.2 1) (S.2.2.2 2) (S.2.2.2 3) := by have := rg; omega
         refine g_iconst dX12_runCommand_59 ?_
         exact g_zret dX12_runCommand_60 rfl (by omega) (by decide) (by decide) ⟨rfl, rfl, rfl, rfl, by rw [if_pos hc1], by rw [if_pos hc1]; exact hI, gFm.rfl, rfl⟩)
set_option maxHeartbeats 1000000 in
set_option maxRecDepth 100000 in
theorem k_A_run2 (Y : gEnv) {K N : Nat → Nat} {I : Nat → Nat → Int} {A : Nat → Int → Int} {R : Nat → Nat → Option Nat} {Q : Nat → Int → Option Nat} {G : Nat → Nat × Int} {M : Nat → Prop} {x s h hq sc sg ar : Nat} {W SV T : Int → Int} {n len : Int} (hI : cI K N I A R Q G M x s h hq sc sg ar W n SV T len) {S : sSt} (hP : cPs Y I A R sc ar S) (hS : sInv S) (hk : sKind S = 0) (hz : iZ W) (hN : sCode W S = 0 → iN (sApp W S)) (hw : S.1 = 2) : gC Y yX12_runCommand cX12_runCommand 6 (some .boolean) ({ frames := 4, cells := 0, slots := 0, locals := 189 } : Room) [.ref x, .ref (Y.2.2.1 (30 + 1))] K N I A R Q (g_wr K N R Q (fun v I' A' => v = some (vi (if 0 < sCode W S then 0 else 1)) ∧ cI K N I' A' R Q G M x s h hq sc sg ar (if 0 < sCode W S then W else sApp W S) n SV T len ∧ gFm M K N I A R Q K N I' A' R Q ∧ I' 142 sc = I 142 sc)) gno := by
  refine gC_of (by decide) (Nat.le_of_ble_eq_true rfl) (fun X => ?_)
  refine gJ_st (fun hst => ?_)
  obtain ⟨U, H, hst⟩ := hst
  obtain ⟨⟨x1, x2, x3, x4⟩, ⟨h1, h2, h3, h4, h5, h6, h7⟩, ⟨c1, c2, c3⟩, st, sv, hs, gg, hM⟩ := id hI
  obtain ⟨h0, hag, ev, kq, nq, hev, hE⟩ := id sv
  have hsh := st.1
  obtain ⟨p1, p2, p3, p4⟩ := id hP
  obtain ⟨s1, s2, s3, s4, s5, s6⟩ := id hS
  obtain ⟨k1, k2, k3⟩ := sNeed_ok hk
  have hh1 : S.2.2.1 = 1 := by omega
  have k5 : sNeed S.1 = 1 := by rw [hw]; rfl
  have k4 : S.2.1 = 1 + 1 := by omega
  have n15 : 0 ≤ W 1615 ∧ W 1615 ≤ 40 := ⟨h0.2.2.2.2.2.1.1, h0.2.2.2.2.2.1.2.1⟩
  have g0 := s6 hh1 0 (by omega) (by omega)
  have a0 : A ar 0 = S.2.2.2 0 := p4 0 (by omega) (by omega) (by omega)
  have eC : sCode W S = sGradeT W (S.2.2.2 0) := (by simp only [sCode]; first | (rw [if_neg (by omega), if_pos hw]; done))
  have eA : sApp W S = sGrade W (S.2.2.2 0) := by simp only [sApp]; rw [if_neg (by omega), if_pos hw]
  have rg := cGradeT_range W (S.2.2.2 0)
  rw [eC, eA]
  rw [eC, eA] at hN
  refine g_aload_n dX12_runCommand_0 rfl rfl ?_
  refine g_get_TileFactory_script dX12_runCommand_1 mw_350 (by assumption) x4 ?_
  refine g_iconst dX12_runCommand_4 ?_
  refine g_callVp (i := 7) rfl (gK0 c1.1) (g_at7 c1.1) (k_C_argument Y c1 0 (by omega)) u_X9_argument mw_1128 dX12_runCommand_5 rfl rfl ⟨Nat.le_of_ble_eq_true rfl, Nat.le_of_ble_eq_true rfl⟩ ⟨Nat.le_of_ble_eq_true rfl, Nat.le_of_ble_eq_true rfl⟩ (Nat.le_of_ble_eq_true rfl) ?_
  rw [a0]
  refine g_istore_n dX12_runCommand_8 rfl (by decide) ?_
  refine g_aload_n dX12_runCommand_9 rfl rfl ?_
  refine g_get_TileFactory_script dX12_runCommand_10 mw_350 (by assumption) x4 ?_
  refine g_iconst dX12_runCommand_13 ?_
  refine g_callVp (i := 7) rfl (gK0 c1.1) (g_at7 c1.1) (k_C_argument Y c1 1 (by omega)) u_X9_argument mw_1128 dX12_runCommand_14 rfl rfl ⟨Nat.le_of_ble_eq_true rfl, Nat.le_of_ble_eq_true rfl⟩ ⟨Nat.le_of_ble_eq_true rfl, Nat.le_of_ble_eq_true rfl⟩ (Nat.le_of_ble_eq_true rfl) ?_
  refine g_istore_n dX12_runCommand_17 rfl (by decide) ?_
  refine g_aload_n dX12_runCommand_18 rfl rfl ?_
  refine g_get_TileFactory_script dX12_runCommand_19 mw_350 (by assumption) x4 ?_
  refine g_iconst dX12_runCommand_22 ?_
  refine g_callVp (i := 7) rfl (gK0 c1.1) (g_at7 c1.1) (k_C_argument Y c1 2 (by omega)) u_X9_argument mw_1128 dX12_runCommand_23 rfl rfl ⟨Nat.le_of_ble_eq_true rfl, Nat.le_of_ble_eq_true rfl⟩ ⟨Nat.le_of_ble_eq_true rfl, Nat.le_of_ble_eq_true rfl⟩ (Nat.le_of_ble_eq_true rfl) ?_
  refine g_istore dX12_runCommand_26 (by decide) ?_
  refine g_aload_n dX12_runCommand_28 rfl rfl ?_
  refine g_get_TileFactory_script dX12_runCommand_29 mw_350 (by assumption) x4 ?_
  refine g_iconst dX12_runCommand_32 ?_
  refine g_callVp (i := 7) rfl (gK0 c1.1) (g_at7 c1.1) (k_C_argument Y c1 3 (by omega)) u_X9_argument mw_1128 dX12_runCommand_33 rfl rfl ⟨Nat.le_of_ble_eq_true rfl, Nat.le_of_ble_eq_true rfl⟩ ⟨Nat.le_of_ble_eq_true rfl, Nat.le_of_ble_eq_true rfl⟩ (Nat.le_of_ble_eq_true rfl) ?_
  refine g_istore dX12_runCommand_36 (by decide) ?_
  refine g_aload_n dX12_runCommand_38 rfl rfl ?_
  refine g_ifnull (z := (some (Y.2.2.1 (30 + 1)))) (tgt := 59) dX12_runCommand_39 (by decide) (fun c_39 => ?_) (fun b_39 c_39 => ?_)
  · first
    | (cases c_39; done)
    | (have e56 : ¬ (cGradeF (sGradeT W (S.2.2.2 0))).toNat = 0 := fun e => c_56 (by rw [e])
       have hc1 : 0 < sGradeT W (S.2.2.2 0) := by unfold cGradeF at e56; have := rg; split at e56 <;> omega
       refine g_iconst dX12_runCommand_59 ?_
       exact g_zret dX12_runCommand_60 rfl (by omega) (by decide) (by decide) ⟨rfl, rfl, rfl, rfl, by rw [if_pos hc1], by rw [if_pos hc1]; exact hI, gFm.rfl, rfl⟩)
  · refine g_aload_n dX12_runCommand_42 rfl rfl ?_
    refine g_aload_n dX12_runCommand_43 rfl rfl ?_
    refine g_iload_n dX12_runCommand_44 rfl rfl ?_
    refine g_iload_n dX12_runCommand_45 rfl rfl ?_
    refine g_iload dX12_runCommand_46 rfl ?_
    refine g_iload dX12_runCommand_48 rfl ?_
    refine g_callVp (i := 9) rfl (gK0 x1) (g_at9 x1) (k_A_fault1 Y hI (S.2.2.2 0) (by omega) (A ar 1) (A ar 2) (A ar 3)) u_X12_faultOfCommand mw_1132 dX12_runCommand_50 rfl rfl ⟨Nat.le_of_ble_eq_true rfl, Nat.le_of_ble_eq_true rfl⟩ ⟨Nat.le_of_ble_eq_true rfl, Nat.le_of_ble_eq_true rfl⟩ (Nat.le_of_ble_eq_true rfl) ?_
    refine g_fault (i := 0) dX12_runCommand_53 mw_1144 (by decide) rfl ?_
    refine g_acmp_eq (tgt := 61) dX12_runCommand_56 (by decide) (fun c_56 => ?_) (fun c_56 => ?_)
    · have e56 := gFault_ne (i := (cGradeF (sGradeT W (S.2.2.2 0))).toNat) (j := 0) hst (by unfold cGradeF; have := rg; split <;> omega) (by decide) c_56
      have hc0 : sGradeT W (S.2.2.2 0) = 0 := cGradeF_zero rg.1 (by have q : 0 ≤ cGradeF (sGradeT W (S.2.2.2 0)) := (by unfold cGradeF; have := rg; split <;> omega); omega)
      have hok := rg.2.2 hc0
      skip
      refine g_switch dX12_runCommand_61 mw_1136 ?_
      refine g_aload_n dX12_runCommand_64 rfl rfl ?_
      refine g_callOrd (i := 1) (v := 1) (by decide) (k_J_ordinal Y (by decide)) mw_1138 dX12_runCommand_65 ⟨Nat.le_of_ble_eq_true rfl, Nat.le_of_ble_eq_true rfl⟩ ⟨Nat.le_of_ble_eq_true rfl, Nat.le_of_ble_eq_true rfl⟩ (Nat.le_of_ble_eq_true rfl) ?_
      refine g_switchAt (v := 2) dX12_runCommand_68 (by omega) rfl ?_
      refine g_tswIn (off := 48) (tgt := 117) dX12_runCommand_69 (by omega) 1 (by omega) (by omega) rfl (by decide) ?_
      refine g_aload_n dX12_runCommand_117 rfl rfl ?_
      refine g_get_TileFactory_state dX12_runCommand_118 mw_348 (by assumption) x2 ?_
      refine g_iload_n dX12_runCommand_121 rfl rfl ?_
      refine g_callVw (i := 8) rfl (gK0 hsh.1) (g_at8 hsh.1) (k_S_gradeBench Y hsh hag hev hE h0 _ (by omega) hz) u_X10_gradeBench mw_774 dX12_runCommand_122 rfl rfl ⟨Nat.le_of_ble_eq_true rfl, Nat.le_of_ble_eq_true rfl⟩ ⟨Nat.le_of_ble_eq_true rfl, Nat.le_of_ble_eq_true rfl⟩ (Nat.le_of_ble_eq_true rfl) (fun v122 I122 A122 h122 => ?_)
      obtain ⟨rfl, q1, q2, q3⟩ := h122
      refine g_pop dX12_runCommand_125 rfl ?_
      refine g_goto (tgt := 169) dX12_runCommand_126 (by decide) ?_
      refine g_iconst dX12_runCommand_169 ?_
      exact g_zret dX12_runCommand_170 rfl (by omega) (by decide) (by decide) (by
      obtain ⟨t1, t2⟩ := hI.st q1 (W' := sGrade W (S.2.2.2 0)) ⟨hN hc0, q2, ev, kq, nq, hev, q3⟩
      exact ⟨rfl, rfl, rfl, rfl, by rw [if_neg (by omega)], by rw [if_neg (by omega)]; exact t1, t2, q1.1 142 sc (by rw [gg.2.2.2.1]; intro z; rw [z] at c1; have := c1.1; rw [st.1.1] at this; cases this)⟩)
    · first
      | (cases c_39; done)
      | (have e56 : ¬ (cGradeF (sGradeT W (S.2.2.2 0))).toNat = 0 := fun e => c_56 (by rw [e])
         have hc1 : 0 < sGradeT W (S.2.2.2 0) := by unfold cGradeF at e56; have := rg; split at e56 <;> omega
         refine g_iconst dX12_runCommand_59 ?_
         exact g_zret dX12_runCommand_60 rfl (by omega) (by decide) (by decide) ⟨rfl, rfl, rfl, rfl, by rw [if_pos hc1], by rw [if_pos hc1]; exact hI, gFm.rfl, rfl⟩)
set_option maxHeartbeats 1000000 in
set_option maxRecDepth 100000 in
theorem k_A_run3 (Y : gEnv) {K N : Nat → Nat} {I : Nat → Nat → Int} {A : Nat → Int → Int} {R : Nat → Nat → Option Nat} {Q : Nat → Int → Option Nat} {G : Nat → Nat × Int} {M : Nat → Prop} {x s h hq sc sg ar : Nat} {W SV T : Int → Int} {n len : Int} (hI : cI K N I A R Q G M x s h hq sc sg ar W n SV T len) {S : sSt} (hP : cPs Y I A R sc ar S) (hS : sInv S) (hk : sKind S = 0) (hz : iZ W) (hN : sCode W S = 0 → iN (sApp W S)) (hw : S.1 = 3) : gC Y yX12_runCommand cX12_runCommand 6 (some .boolean) ({ frames := 4, cells := 0, slots := 0, locals := 189 } : Room) [.ref x, .ref (Y.2.2.1 (30 + 2))] K N I A R Q (g_wr K N R Q (fun v I' A' => v = some (vi (if 0 < sCode W S then 0 else 1)) ∧ cI K N I' A' R Q G M x s h hq sc sg ar (if 0 < sCode W S then W else sApp W S) n SV T len ∧ gFm M K N I A R Q K N I' A' R Q ∧ I' 142 sc = I 142 sc)) gno := by
  refine gC_of (by decide) (Nat.le_of_ble_eq_true rfl) (fun X => ?_)
  refine gJ_st (fun hst => ?_)
  obtain ⟨U, H, hst⟩ := hst
  obtain ⟨⟨x1, x2, x3, x4⟩, ⟨h1, h2, h3, h4, h5, h6, h7⟩, ⟨c1, c2, c3⟩, st, sv, hs, gg, hM⟩ := id hI
  obtain ⟨h0, hag, ev, kq, nq, hev, hE⟩ := id sv
  have hsh := st.1
  obtain ⟨p1, p2, p3, p4⟩ := id hP
  obtain ⟨s1, s2, s3, s4, s5, s6⟩ := id hS
  obtain ⟨k1, k2, k3⟩ := sNeed_ok hk
  have hh1 : S.2.2.1 = 1 := by omega
  have k5 : sNeed S.1 = 0 := by rw [hw]; rfl
  have k4 : S.2.1 = 0 + 1 := by omega
  have n15 : 0 ≤ W 1615 ∧ W 1615 ≤ 40 := ⟨h0.2.2.2.2.2.1.1, h0.2.2.2.2.2.1.2.1⟩
  have eC : sCode W S = (0 : Int) := (by simp only [sCode]; first | (rw [if_neg (by omega), if_neg (by omega), if_neg (by omega), if_neg (by omega)]; done))
  have eA : sApp W S = sPack W := by simp only [sApp]; rw [if_neg (by omega), if_neg (by omega), if_pos hw]
  rw [eC, eA]
  rw [eC, eA] at hN
  refine g_aload_n dX12_runCommand_0 rfl rfl ?_
  refine g_get_TileFactory_script dX12_runCommand_1 mw_350 (by assumption) x4 ?_
  refine g_iconst dX12_runCommand_4 ?_
  refine g_callVp (i := 7) rfl (gK0 c1.1) (g_at7 c1.1) (k_C_argument Y c1 0 (by omega)) u_X9_argument mw_1128 dX12_runCommand_5 rfl rfl ⟨Nat.le_of_ble_eq_true rfl, Nat.le_of_ble_eq_true rfl⟩ ⟨Nat.le_of_ble_eq_true rfl, Nat.le_of_ble_eq_true rfl⟩ (Nat.le_of_ble_eq_true rfl) ?_
  refine g_istore_n dX12_runCommand_8 rfl (by decide) ?_
  refine g_aload_n dX12_runCommand_9 rfl rfl ?_
  refine g_get_TileFactory_script dX12_runCommand_10 mw_350 (by assumption) x4 ?_
  refine g_iconst dX12_runCommand_13 ?_
  refine g_callVp (i := 7) rfl (gK0 c1.1) (g_at7 c1.1) (k_C_argument Y c1 1 (by omega)) u_X9_argument mw_1128 dX12_runCommand_14 rfl rfl ⟨Nat.le_of_ble_eq_true rfl, Nat.le_of_ble_eq_true rfl⟩ ⟨Nat.le_of_ble_eq_true rfl, Nat.le_of_ble_eq_true rfl⟩ (Nat.le_of_ble_eq_true rfl) ?_
  refine g_istore_n dX12_runCommand_17 rfl (by decide) ?_
  refine g_aload_n dX12_runCommand_18 rfl rfl ?_
  refine g_get_TileFactory_script dX12_runCommand_19 mw_350 (by assumption) x4 ?_
  refine g_iconst dX12_runCommand_22 ?_
  refine g_callVp (i := 7) rfl (gK0 c1.1) (g_at7 c1.1) (k_C_argument Y c1 2 (by omega)) u_X9_argument mw_1128 dX12_runCommand_23 rfl rfl ⟨Nat.le_of_ble_eq_true rfl, Nat.le_of_ble_eq_true rfl⟩ ⟨Nat.le_of_ble_eq_true rfl, Nat.le_of_ble_eq_true rfl⟩ (Nat.le_of_ble_eq_true rfl) ?_
  refine g_istore dX12_runCommand_26 (by decide) ?_
  refine g_aload_n dX12_runCommand_28 rfl rfl ?_
  refine g_get_TileFactory_script dX12_runCommand_29 mw_350 (by assumption) x4 ?_
  refine g_iconst dX12_runCommand_32 ?_
  refine g_callVp (i := 7) rfl (gK0 c1.1) (g_at7 c1.1) (k_C_argument Y c1 3 (by omega)) u_X9_argument mw_1128 dX12_runCommand_33 rfl rfl ⟨Nat.le_of_ble_eq_true rfl, Nat.le_of_ble_eq_true rfl⟩ ⟨Nat.le_of_ble_eq_true rfl, Nat.le_of_ble_eq_true rfl⟩ (Nat.le_of_ble_eq_true rfl) ?_
  refine g_istore dX12_runCommand_36 (by decide) ?_
  refine g_aload_n dX12_runCommand_38 rfl rfl ?_
  refine g_ifnull (z := (some (Y.2.2.1 (30 + 2)))) (tgt := 59) dX12_runCommand_39 (by decide) (fun c_39 => ?_) (fun b_39 c_39 => ?_)
  · first
    | (cases c_39; done)
    | (have e56 : ¬ ((0 : Int)).toNat = 0 := fun e => c_56 (by rw [e])
       have hc1 : 0 < (0 : Int) := by exact absurd rfl e56
       refine g_iconst dX12_runCommand_59 ?_
       exact g_zret dX12_runCommand_60 rfl (by omega) (by decide) (by decide) ⟨rfl, rfl, rfl, rfl, by rw [if_pos hc1], by rw [if_pos hc1]; exact hI, gFm.rfl, rfl⟩)
  · refine g_aload_n dX12_runCommand_42 rfl rfl ?_
    refine g_aload_n dX12_runCommand_43 rfl rfl ?_
    refine g_iload_n dX12_runCommand_44 rfl rfl ?_
    refine g_iload_n dX12_runCommand_45 rfl rfl ?_
    refine g_iload dX12_runCommand_46 rfl ?_
    refine g_iload dX12_runCommand_48 rfl ?_
    refine g_callVp (i := 9) rfl (gK0 x1) (g_at9 x1) (k_A_fault2 Y hI (A ar 0) (A ar 1) (A ar 2) (A ar 3)) u_X12_faultOfCommand mw_1132 dX12_runCommand_50 rfl rfl ⟨Nat.le_of_ble_eq_true rfl, Nat.le_of_ble_eq_true rfl⟩ ⟨Nat.le_of_ble_eq_true rfl, Nat.le_of_ble_eq_true rfl⟩ (Nat.le_of_ble_eq_true rfl) ?_
    refine g_fault (i := 0) dX12_runCommand_53 mw_1144 (by decide) rfl ?_
    refine g_acmp_eq (tgt := 61) dX12_runCommand_56 (by decide) (fun c_56 => ?_) (fun c_56 => ?_)
    · have hc0 : (0 : Int) = 0 := rfl
      refine g_switch dX12_runCommand_61 mw_1136 ?_
      refine g_aload_n dX12_runCommand_64 rfl rfl ?_
      refine g_callOrd (i := 2) (v := 2) (by decide) (k_J_ordinal Y (by decide)) mw_1138 dX12_runCommand_65 ⟨Nat.le_of_ble_eq_true rfl, Nat.le_of_ble_eq_true rfl⟩ ⟨Nat.le_of_ble_eq_true rfl, Nat.le_of_ble_eq_true rfl⟩ (Nat.le_of_ble_eq_true rfl) ?_
      refine g_switchAt (v := 3) dX12_runCommand_68 (by omega) rfl ?_
      refine g_tswIn (off := 60) (tgt := 129) dX12_runCommand_69 (by omega) 2 (by omega) (by omega) rfl (by decide) ?_
      refine g_aload_n dX12_runCommand_129 rfl rfl ?_
      refine g_get_TileFactory_state dX12_runCommand_130 mw_348 (by assumption) x2 ?_
      refine g_callVw (i := 8) rfl (gK0 hsh.1) (g_at8 hsh.1) (k_S_packLots Y hsh hag h0) u_X10_packLots mw_402 dX12_runCommand_133 rfl rfl ⟨Nat.le_of_ble_eq_true rfl, Nat.le_of_ble_eq_true rfl⟩ ⟨Nat.le_of_ble_eq_true rfl, Nat.le_of_ble_eq_true rfl⟩ (Nat.le_of_ble_eq_true rfl) (fun v133 I133 A133 h133 => ?_)
      obtain ⟨rfl, q0, q4, q1, q2⟩ := h133
      obtain rfl := q0.symm
      refine g_pop dX12_runCommand_136 rfl ?_
      refine g_goto (tgt := 169) dX12_runCommand_137 (by decide) ?_
      refine g_iconst dX12_runCommand_169 ?_
      exact g_zret dX12_runCommand_170 rfl (by omega) (by decide) (by decide) (by
      obtain ⟨t1, t2⟩ := hI.st q1 (W' := sPack W) ⟨hN hc0, q2, ev, kq, nq, hev, cE.of hE h0.2.2.2.2.2.2.2.2 (q4 ev) (fun j a b => sPack_ev W h0.2.2.2.2.1.2.1 (by omega))⟩
      exact ⟨rfl, rfl, rfl, rfl, by rw [if_neg (by omega)], by rw [if_neg (by omega)]; exact t1, t2, q1.1 142 sc (by rw [gg.2.2.2.1]; intro z; rw [z] at c1; have := c1.1; rw [st.1.1] at this; cases this)⟩)
    · first
      | (cases c_39; done)
      | (have e56 : ¬ ((0 : Int)).toNat = 0 := fun e => c_56 (by rw [e])
         have hc1 : 0 < (0 : Int) := by exact absurd rfl e56
         refine g_iconst dX12_runCommand_59 ?_
         exact g_zret dX12_runCommand_60 rfl (by omega) (by decide) (by decide) ⟨rfl, rfl, rfl, rfl, by rw [if_pos hc1], by rw [if_pos hc1]; exact hI, gFm.rfl, rfl⟩)
set_option maxHeartbeats 1000000 in
set_option maxRecDepth 100000 in
theorem k_A_run4 (Y : gEnv) {K N : Nat → Nat} {I : Nat → Nat → Int} {A : Nat → Int → Int} {R : Nat → Nat → Option Nat} {Q : Nat → Int → Option Nat} {G : Nat → Nat × Int} {M : Nat → Prop} {x s h hq sc sg ar : Nat} {W SV T : Int → Int} {n len : Int} (hI : cI K N I A R Q G M x s h hq sc sg ar W n SV T len) {S : sSt} (hP : cPs Y I A R sc ar S) (hS : sInv S) (hk : sKind S = 0) (hz : iZ W) (hN : sCode W S = 0 → iN (sApp W S)) (hw : S.1 = 4) : gC Y yX12_runCommand cX12_runCommand 6 (some .boolean) ({ frames := 4, cells := 0, slots := 0, locals := 189 } : Room) [.ref x, .ref (Y.2.2.1 (30 + 3))] K N I A R Q (g_wr K N R Q (fun v I' A' => v = some (vi (if 0 < sCode W S then 0 else 1)) ∧ cI K N I' A' R Q G M x s h hq sc sg ar (if 0 < sCode W S then W else sApp W S) n SV T len ∧ gFm M K N I A R Q K N I' A' R Q ∧ I' 142 sc = I 142 sc)) gno := by
  refine gC_of (by decide) (Nat.le_of_ble_eq_true rfl) (fun X => ?_)
  refine gJ_st (fun hst => ?_)
  obtain ⟨U, H, hst⟩ := hst
  obtain ⟨⟨x1, x2, x3, x4⟩, ⟨h1, h2, h3, h4, h5, h6, h7⟩, ⟨c1, c2, c3⟩, st, sv, hs, gg, hM⟩ := id hI
  obtain ⟨h0, hag, ev, kq, nq, hev, hE⟩ := id sv
  have hsh := st.1
  obtain ⟨p1, p2, p3, p4⟩ := id hP
  obtain ⟨s1, s2, s3, s4, s5, s6⟩ := id hS
  obtain ⟨k1, k2, k3⟩ := sNeed_ok hk
  have hh1 : S.2.2.1 = 1 := by omega
  have k5 : sNeed S.1 = 3 := by rw [hw]; rfl
  have k4 : S.2.1 = 3 + 1 := by omega
  have n15 : 0 ≤ W 1615 ∧ W 1615 ≤ 40 := ⟨h0.2.2.2.2.2.1.1, h0.2.2.2.2.2.1.2.1⟩
  have g0 := s6 hh1 0 (by omega) (by omega)
  have a0 : A ar 0 = S.2.2.2 0 := p4 0 (by omega) (by omega) (by omega)
  have g1 := s6 hh1 1 (by omega) (by omega)
  have a1 : A ar 1 = S.2.2.2 1 := p4 1 (by omega) (by omega) (by omega)
  have g2 := s6 hh1 2 (by omega) (by omega)
  have a2 : A ar 2 = S.2.2.2 2 := p4 2 (by omega) (by omega) (by omega)
  have eC : sCode W S = sDeliverT W (S.2.2.2 0) (S.2.2.2 1) (S.2.2.2 2) := (by simp only [sCode]; first | (rw [if_neg (by omega), if_neg (by omega), if_pos hw]; done))
  have eA : sApp W S = sDel W (S.2.2.2 0) (S.2.2.2 1) (S.2.2.2 2) := by simp only [sApp]; rw [if_neg (by omega), if_neg (by omega), if_neg (by omega), if_pos hw]
  have rg := sDeliverT_range W (S.2.2.2 0) (S.2.2.2 1) (S.2.2.2 2)
  rw [eC, eA]
  rw [eC, eA] at hN
  refine g_aload_n dX12_runCommand_0 rfl rfl ?_
  refine g_get_TileFactory_script dX12_runCommand_1 mw_350 (by assumption) x4 ?_
  refine g_iconst dX12_runCommand_4 ?_
  refine g_callVp (i := 7) rfl (gK0 c1.1) (g_at7 c1.1) (k_C_argument Y c1 0 (by omega)) u_X9_argument mw_1128 dX12_runCommand_5 rfl rfl ⟨Nat.le_of_ble_eq_true rfl, Nat.le_of_ble_eq_true rfl⟩ ⟨Nat.le_of_ble_eq_true rfl, Nat.le_of_ble_eq_true rfl⟩ (Nat.le_of_ble_eq_true rfl) ?_
  rw [a0]
  refine g_istore_n dX12_runCommand_8 rfl (by decide) ?_
  refine g_aload_n dX12_runCommand_9 rfl rfl ?_
  refine g_get_TileFactory_script dX12_runCommand_10 mw_350 (by assumption) x4 ?_
  refine g_iconst dX12_runCommand_13 ?_
  refine g_callVp (i := 7) rfl (gK0 c1.1) (g_at7 c1.1) (k_C_argument Y c1 1 (by omega)) u_X9_argument mw_1128 dX12_runCommand_14 rfl rfl ⟨Nat.le_of_ble_eq_true rfl, Nat.le_of_ble_eq_true rfl⟩ ⟨Nat.le_of_ble_eq_true rfl, Nat.le_of_ble_eq_true rfl⟩ (Nat.le_of_ble_eq_true rfl) ?_
  rw [a1]
  refine g_istore_n dX12_runCommand_17 rfl (by decide) ?_
  refine g_aload_n dX12_runCommand_18 rfl rfl ?_
  refine g_get_TileFactory_script dX12_runCommand_19 mw_350 (by assumption) x4 ?_
  refine g_iconst dX12_runCommand_22 ?_
  refine g_callVp (i := 7) rfl (gK0 c1.1) (g_at7 c1.1) (k_C_argument Y c1 2 (by omega)) u_X9_argument mw_1128 dX12_runCommand_23 rfl rfl ⟨Nat.le_of_ble_eq_true rfl, Nat.le_of_ble_eq_true rfl⟩ ⟨Nat.le_of_ble_eq_true rfl, Nat.le_of_ble_eq_true rfl⟩ (Nat.le_of_ble_eq_true rfl) ?_
  rw [a2]
  refine g_istore dX12_runCommand_26 (by decide) ?_
  refine g_aload_n dX12_runCommand_28 rfl rfl ?_
  refine g_get_TileFactory_script dX12_runCommand_29 mw_350 (by assumption) x4 ?_
  refine g_iconst dX12_runCommand_32 ?_
  refine g_callVp (i := 7) rfl (gK0 c1.1) (g_at7 c1.1) (k_C_argument Y c1 3 (by omega)) u_X9_argument mw_1128 dX12_runCommand_33 rfl rfl ⟨Nat.le_of_ble_eq_true rfl, Nat.le_of_ble_eq_true rfl⟩ ⟨Nat.le_of_ble_eq_true rfl, Nat.le_of_ble_eq_true rfl⟩ (Nat.le_of_ble_eq_true rfl) ?_
  refine g_istore dX12_runCommand_36 (by decide) ?_
  refine g_aload_n dX12_runCommand_38 rfl rfl ?_
  refine g_ifnull (z := (some (Y.2.2.1 (30 + 3)))) (tgt := 59) dX12_runCommand_39 (by decide) (fun c_39 => ?_) (fun b_39 c_39 => ?_)
  · first
    | (cases c_39; done)
    | (have e56 : ¬ (sDeliverT W (S.2.2.2 0) (S.2.2.2 1) (S.2.2.2 2)).toNat = 0 := fun e => c_56 (by rw [e])
       have hc1 : 0 < sDeliverT W (S.2.2.2 0) (S.2.2.2 1) (S.2.2.2 2) := by have := rg; omega
       refine g_iconst dX12_runCommand_59 ?_
       exact g_zret dX12_runCommand_60 rfl (by omega) (by decide) (by decide) ⟨rfl, rfl, rfl, rfl, by rw [if_pos hc1], by rw [if_pos hc1]; exact hI, gFm.rfl, rfl⟩)
  · refine g_aload_n dX12_runCommand_42 rfl rfl ?_
    refine g_aload_n dX12_runCommand_43 rfl rfl ?_
    refine g_iload_n dX12_runCommand_44 rfl rfl ?_
    refine g_iload_n dX12_runCommand_45 rfl rfl ?_
    refine g_iload dX12_runCommand_46 rfl ?_
    refine g_iload dX12_runCommand_48 rfl ?_
    refine g_callVp (i := 9) rfl (gK0 x1) (g_at9 x1) (k_A_fault3 Y hI (S.2.2.2 0) (by omega) (S.2.2.2 1) (by omega) (S.2.2.2 2) (by omega) (A ar 3)) u_X12_faultOfCommand mw_1132 dX12_runCommand_50 rfl rfl ⟨Nat.le_of_ble_eq_true rfl, Nat.le_of_ble_eq_true rfl⟩ ⟨Nat.le_of_ble_eq_true rfl, Nat.le_of_ble_eq_true rfl⟩ (Nat.le_of_ble_eq_true rfl) ?_
    refine g_fault (i := 0) dX12_runCommand_53 mw_1144 (by decide) rfl ?_
    refine g_acmp_eq (tgt := 61) dX12_runCommand_56 (by decide) (fun c_56 => ?_) (fun c_56 => ?_)
    · have e56 := gFault_ne (i := (sDeliverT W (S.2.2.2 0) (S.2.2.2 1) (S.2.2.2 2)).toNat) (j := 0) hst (by omega) (by decide) c_56
      have hc0 : sDeliverT W (S.2.2.2 0) (S.2.2.2 1) (S.2.2.2 2) = 0 := by omega
      have hok := rg.2.2 hc0
      have hlf := (sLotFor_range h0.2.2.2.2.1.1 (S.2.2.2 0) (S.2.2.2 1) (S.2.2.2 2)).resolve_left (by omega)
      refine g_switch dX12_runCommand_61 mw_1136 ?_
      refine g_aload_n dX12_runCommand_64 rfl rfl ?_
      refine g_callOrd (i := 3) (v := 3) (by decide) (k_J_ordinal Y (by decide)) mw_1138 dX12_runCommand_65 ⟨Nat.le_of_ble_eq_true rfl, Nat.le_of_ble_eq_true rfl⟩ ⟨Nat.le_of_ble_eq_true rfl, Nat.le_of_ble_eq_true rfl⟩ (Nat.le_of_ble_eq_true rfl) ?_
      refine g_switchAt (v := 4) dX12_runCommand_68 (by omega) rfl ?_
      refine g_tswIn (off := 71) (tgt := 140) dX12_runCommand_69 (by omega) 3 (by omega) (by omega) rfl (by decide) ?_
      refine g_aload_n dX12_runCommand_140 rfl rfl ?_
      refine g_get_TileFactory_state dX12_runCommand_141 mw_348 (by assumption) x2 ?_
      refine g_iload_n dX12_runCommand_144 rfl rfl ?_
      refine g_iload_n dX12_runCommand_145 rfl rfl ?_
      refine g_iload dX12_runCommand_146 rfl ?_
      refine g_callVw (i := 8) rfl (gK0 hsh.1) (g_at8 hsh.1) (k_S_makeDelivery Y hsh hag hev hE h0 _ _ _ (by omega) (by omega) (by omega) (by have := h0.2.2.2.2.2.1.2.1; omega) hlf) u_X10_makeDelivery mw_827 dX12_runCommand_148 rfl rfl ⟨Nat.le_of_ble_eq_true rfl, Nat.le_of_ble_eq_true rfl⟩ ⟨Nat.le_of_ble_eq_true rfl, Nat.le_of_ble_eq_true rfl⟩ (Nat.le_of_ble_eq_true rfl) (fun v148 I148 A148 h148 => ?_)
      obtain ⟨rfl, q1, q2, q3⟩ := h148
      refine g_pop dX12_runCommand_151 rfl ?_
      refine g_goto (tgt := 169) dX12_runCommand_152 (by decide) ?_
      refine g_iconst dX12_runCommand_169 ?_
      exact g_zret dX12_runCommand_170 rfl (by omega) (by decide) (by decide) (by
      obtain ⟨t1, t2⟩ := hI.st q1 (W' := sDel W (S.2.2.2 0) (S.2.2.2 1) (S.2.2.2 2)) ⟨hN hc0, q2, ev, kq, nq, hev, q3⟩
      exact ⟨rfl, rfl, rfl, rfl, by rw [if_neg (by omega)], by rw [if_neg (by omega)]; exact t1, t2, q1.1 142 sc (by rw [gg.2.2.2.1]; intro z; rw [z] at c1; have := c1.1; rw [st.1.1] at this; cases this)⟩)
    · first
      | (cases c_39; done)
      | (have e56 : ¬ (sDeliverT W (S.2.2.2 0) (S.2.2.2 1) (S.2.2.2 2)).toNat = 0 := fun e => c_56 (by rw [e])
         have hc1 : 0 < sDeliverT W (S.2.2.2 0) (S.2.2.2 1) (S.2.2.2 2) := by have := rg; omega
         refine g_iconst dX12_runCommand_59 ?_
         exact g_zret dX12_runCommand_60 rfl (by omega) (by decide) (by decide) ⟨rfl, rfl, rfl, rfl, by rw [if_pos hc1], by rw [if_pos hc1]; exact hI, gFm.rfl, rfl⟩)
set_option maxHeartbeats 1000000 in
set_option maxRecDepth 100000 in
theorem k_A_run5 (Y : gEnv) {K N : Nat → Nat} {I : Nat → Nat → Int} {A : Nat → Int → Int} {R : Nat → Nat → Option Nat} {Q : Nat → Int → Option Nat} {G : Nat → Nat × Int} {M : Nat → Prop} {x s h hq sc sg ar : Nat} {W SV T : Int → Int} {n len : Int} (hI : cI K N I A R Q G M x s h hq sc sg ar W n SV T len) {S : sSt} (hP : cPs Y I A R sc ar S) (hS : sInv S) (hk : sKind S = 0) (hz : iZ W) (hN : sCode W S = 0 → iN (sApp W S)) (hw : S.1 = 5) : gC Y yX12_runCommand cX12_runCommand 6 (some .boolean) ({ frames := 4, cells := 0, slots := 0, locals := 189 } : Room) [.ref x, .ref (Y.2.2.1 (30 + 4))] K N I A R Q (g_wr K N R Q (fun v I' A' => v = some (vi (if 0 < sCode W S then 0 else 1)) ∧ cI K N I' A' R Q G M x s h hq sc sg ar (if 0 < sCode W S then W else sApp W S) n SV T len ∧ gFm M K N I A R Q K N I' A' R Q ∧ I' 142 sc = I 142 sc)) gno := by
  refine gC_of (by decide) (Nat.le_of_ble_eq_true rfl) (fun X => ?_)
  refine gJ_st (fun hst => ?_)
  obtain ⟨U, H, hst⟩ := hst
  obtain ⟨⟨x1, x2, x3, x4⟩, ⟨h1, h2, h3, h4, h5, h6, h7⟩, ⟨c1, c2, c3⟩, st, sv, hs, gg, hM⟩ := id hI
  obtain ⟨h0, hag, ev, kq, nq, hev, hE⟩ := id sv
  have hsh := st.1
  obtain ⟨p1, p2, p3, p4⟩ := id hP
  obtain ⟨s1, s2, s3, s4, s5, s6⟩ := id hS
  obtain ⟨k1, k2, k3⟩ := sNeed_ok hk
  have hh1 : S.2.2.1 = 1 := by omega
  have k5 : sNeed S.1 = 4 := by rw [hw]; rfl
  have k4 : S.2.1 = 4 + 1 := by omega
  have n15 : 0 ≤ W 1615 ∧ W 1615 ≤ 40 := ⟨h0.2.2.2.2.2.1.1, h0.2.2.2.2.2.1.2.1⟩
  have g0 := s6 hh1 0 (by omega) (by omega)
  have a0 : A ar 0 = S.2.2.2 0 := p4 0 (by omega) (by omega) (by omega)
  have g1 := s6 hh1 1 (by omega) (by omega)
  have a1 : A ar 1 = S.2.2.2 1 := p4 1 (by omega) (by omega) (by omega)
  have g2 := s6 hh1 2 (by omega) (by omega)
  have a2 : A ar 2 = S.2.2.2 2 := p4 2 (by omega) (by omega) (by omega)
  have g3 := s6 hh1 3 (by omega) (by omega)
  have a3 : A ar 3 = S.2.2.2 3 := p4 3 (by omega) (by omega) (by omega)
  have eC : sCode W S = sDropT W (S.2.2.2 0) (S.2.2.2 1) (S.2.2.2 2) (S.2.2.2 3) := (by simp only [sCode]; first | (rw [if_neg (by omega), if_neg (by omega), if_neg (by omega), if_pos hw]; done))
  have eA : sApp W S = sDrop W (S.2.2.2 0) (S.2.2.2 1) (S.2.2.2 2) (S.2.2.2 3) := by simp only [sApp]; rw [if_neg (by omega), if_neg (by omega), if_neg (by omega), if_neg (by omega)]
  have rg := sDropT_range W (S.2.2.2 0) (S.2.2.2 1) (S.2.2.2 2) (S.2.2.2 3)
  rw [eC, eA]
  rw [eC, eA] at hN
  refine g_aload_n dX12_runCommand_0 rfl rfl ?_
  refine g_get_TileFactory_script dX12_runCommand_1 mw_350 (by assumption) x4 ?_
  refine g_iconst dX12_runCommand_4 ?_
  refine g_callVp (i := 7) rfl (gK0 c1.1) (g_at7 c1.1) (k_C_argument Y c1 0 (by omega)) u_X9_argument mw_1128 dX12_runCommand_5 rfl rfl ⟨Nat.le_of_ble_eq_true rfl, Nat.le_of_ble_eq_true rfl⟩ ⟨Nat.le_of_ble_eq_true rfl, Nat.le_of_ble_eq_true rfl⟩ (Nat.le_of_ble_eq_true rfl) ?_
  rw [a0]
  refine g_istore_n dX12_runCommand_8 rfl (by decide) ?_
  refine g_aload_n dX12_runCommand_9 rfl rfl ?_
  refine g_get_TileFactory_script dX12_runCommand_10 mw_350 (by assumption) x4 ?_
  refine g_iconst dX12_runCommand_13 ?_
  refine g_callVp (i := 7) rfl (gK0 c1.1) (g_at7 c1.1) (k_C_argument Y c1 1 (by omega)) u_X9_argument mw_1128 dX12_runCommand_14 rfl rfl ⟨Nat.le_of_ble_eq_true rfl, Nat.le_of_ble_eq_true rfl⟩ ⟨Nat.le_of_ble_eq_true rfl, Nat.le_of_ble_eq_true rfl⟩ (Nat.le_of_ble_eq_true rfl) ?_
  rw [a1]
  refine g_istore_n dX12_runCommand_17 rfl (by decide) ?_
  refine g_aload_n dX12_runCommand_18 rfl rfl ?_
  refine g_get_TileFactory_script dX12_runCommand_19 mw_350 (by assumption) x4 ?_
  refine g_iconst dX12_runCommand_22 ?_
  refine g_callVp (i := 7) rfl (gK0 c1.1) (g_at7 c1.1) (k_C_argument Y c1 2 (by omega)) u_X9_argument mw_1128 dX12_runCommand_23 rfl rfl ⟨Nat.le_of_ble_eq_true rfl, Nat.le_of_ble_eq_true rfl⟩ ⟨Nat.le_of_ble_eq_true rfl, Nat.le_of_ble_eq_true rfl⟩ (Nat.le_of_ble_eq_true rfl) ?_
  rw [a2]
  refine g_istore dX12_runCommand_26 (by decide) ?_
  refine g_aload_n dX12_runCommand_28 rfl rfl ?_
  refine g_get_TileFactory_script dX12_runCommand_29 mw_350 (by assumption) x4 ?_
  refine g_iconst dX12_runCommand_32 ?_
  refine g_callVp (i := 7) rfl (gK0 c1.1) (g_at7 c1.1) (k_C_argument Y c1 3 (by omega)) u_X9_argument mw_1128 dX12_runCommand_33 rfl rfl ⟨Nat.le_of_ble_eq_true rfl, Nat.le_of_ble_eq_true rfl⟩ ⟨Nat.le_of_ble_eq_true rfl, Nat.le_of_ble_eq_true rfl⟩ (Nat.le_of_ble_eq_true rfl) ?_
  rw [a3]
  refine g_istore dX12_runCommand_36 (by decide) ?_
  refine g_aload_n dX12_runCommand_38 rfl rfl ?_
  refine g_ifnull (z := (some (Y.2.2.1 (30 + 4)))) (tgt := 59) dX12_runCommand_39 (by decide) (fun c_39 => ?_) (fun b_39 c_39 => ?_)
  · first
    | (cases c_39; done)
    | (have e56 : ¬ (sDropT W (S.2.2.2 0) (S.2.2.2 1) (S.2.2.2 2) (S.2.2.2 3)).toNat = 0 := fun e => c_56 (by rw [e])
       have hc1 : 0 < sDropT W (S.2.2.2 0) (S.2.2.2 1) (S.2.2.2 2) (S.2.2.2 3) := by have := rg; omega
       refine g_iconst dX12_runCommand_59 ?_
       exact g_zret dX12_runCommand_60 rfl (by omega) (by decide) (by decide) ⟨rfl, rfl, rfl, rfl, by rw [if_pos hc1], by rw [if_pos hc1]; exact hI, gFm.rfl, rfl⟩)
  · refine g_aload_n dX12_runCommand_42 rfl rfl ?_
    refine g_aload_n dX12_runCommand_43 rfl rfl ?_
    refine g_iload_n dX12_runCommand_44 rfl rfl ?_
    refine g_iload_n dX12_runCommand_45 rfl rfl ?_
    refine g_iload dX12_runCommand_46 rfl ?_
    refine g_iload dX12_runCommand_48 rfl ?_
    refine g_callVp (i := 9) rfl (gK0 x1) (g_at9 x1) (k_A_fault4 Y hI (S.2.2.2 0) (by omega) (S.2.2.2 1) (by omega) (S.2.2.2 2) (by omega) (S.2.2.2 3) (by omega)) u_X12_faultOfCommand mw_1132 dX12_runCommand_50 rfl rfl ⟨Nat.le_of_ble_eq_true rfl, Nat.le_of_ble_eq_true rfl⟩ ⟨Nat.le_of_ble_eq_true rfl, Nat.le_of_ble_eq_true rfl⟩ (Nat.le_of_ble_eq_true rfl) ?_
    refine g_fault (i := 0) dX12_runCommand_53 mw_1144 (by decide) rfl ?_
    refine g_acmp_eq (tgt := 61) dX12_runCommand_56 (by decide) (fun c_56 => ?_) (fun c_56 => ?_)
    · have e56 := gFault_ne (i := (sDropT W (S.2.2.2 0) (S.2.2.2 1) (S.2.2.2 2) (S.2.2.2 3)).toNat) (j := 0) hst (by omega) (by decide) c_56
      have hc0 : sDropT W (S.2.2.2 0) (S.2.2.2 1) (S.2.2.2 2) (S.2.2.2 3) = 0 := by omega
      have hok := rg.2.2 hc0
      have hlf := (sFind_range h0.2.2.2.2.1.1 (S.2.2.2 0) (S.2.2.2 1) (S.2.2.2 2)).resolve_left (by omega)
      refine g_switch dX12_runCommand_61 mw_1136 ?_
      refine g_aload_n dX12_runCommand_64 rfl rfl ?_
      refine g_callOrd (i := 4) (v := 4) (by decide) (k_J_ordinal Y (by decide)) mw_1138 dX12_runCommand_65 ⟨Nat.le_of_ble_eq_true rfl, Nat.le_of_ble_eq_true rfl⟩ ⟨Nat.le_of_ble_eq_true rfl, Nat.le_of_ble_eq_true rfl⟩ (Nat.le_of_ble_eq_true rfl) ?_
      refine g_switchAt (v := 0) dX12_runCommand_68 (by omega) rfl ?_
      refine g_tswOut (tgt := 155) dX12_runCommand_69 (by omega) (by omega) (by decide) ?_
      refine g_aload_n dX12_runCommand_155 rfl rfl ?_
      refine g_get_TileFactory_state dX12_runCommand_156 mw_348 (by assumption) x2 ?_
      refine g_iload_n dX12_runCommand_159 rfl rfl ?_
      refine g_iload_n dX12_runCommand_160 rfl rfl ?_
      refine g_iload dX12_runCommand_161 rfl ?_
      refine g_iload dX12_runCommand_163 rfl ?_
      refine g_callVw (i := 8) rfl (gK0 hsh.1) (g_at8 hsh.1) (k_S_dropBox Y hsh hag hev hE h0 _ _ _ _ (by omega) (by omega) (by omega) (by omega) ⟨hlf.1, hlf.2.1⟩ (by omega)) u_X10_dropBox mw_859 dX12_runCommand_165 rfl rfl ⟨Nat.le_of_ble_eq_true rfl, Nat.le_of_ble_eq_true rfl⟩ ⟨Nat.le_of_ble_eq_true rfl, Nat.le_of_ble_eq_true rfl⟩ (Nat.le_of_ble_eq_true rfl) (fun v165 I165 A165 h165 => ?_)
      obtain ⟨rfl, q1, q2, q3⟩ := h165
      refine g_pop dX12_runCommand_168 rfl ?_
      refine g_iconst dX12_runCommand_169 ?_
      exact g_zret dX12_runCommand_170 rfl (by omega) (by decide) (by decide) (by
      obtain ⟨t1, t2⟩ := hI.st q1 (W' := sDrop W (S.2.2.2 0) (S.2.2.2 1) (S.2.2.2 2) (S.2.2.2 3)) ⟨hN hc0, q2, ev, kq, nq, hev, q3⟩
      exact ⟨rfl, rfl, rfl, rfl, by rw [if_neg (by omega)], by rw [if_neg (by omega)]; exact t1, t2, q1.1 142 sc (by rw [gg.2.2.2.1]; intro z; rw [z] at c1; have := c1.1; rw [st.1.1] at this; cases this)⟩)
    · first
      | (cases c_39; done)
      | (have e56 : ¬ (sDropT W (S.2.2.2 0) (S.2.2.2 1) (S.2.2.2 2) (S.2.2.2 3)).toNat = 0 := fun e => c_56 (by rw [e])
         have hc1 : 0 < sDropT W (S.2.2.2 0) (S.2.2.2 1) (S.2.2.2 2) (S.2.2.2 3) := by have := rg; omega
         refine g_iconst dX12_runCommand_59 ?_
         exact g_zret dX12_runCommand_60 rfl (by omega) (by decide) (by decide) ⟨rfl, rfl, rfl, rfl, by rw [if_pos hc1], by rw [if_pos hc1]; exact hI, gFm.rfl, rfl⟩)
set_option maxHeartbeats 1000000 in
set_option maxRecDepth 100000 in
theorem k_A_run (Y : gEnv) {K N : Nat → Nat} {I : Nat → Nat → Int} {A : Nat → Int → Int} {R : Nat → Nat → Option Nat} {Q : Nat → Int → Option Nat} {G : Nat → Nat × Int} {M : Nat → Prop} {x s h hq sc sg ar : Nat} {W SV T : Int → Int} {n len : Int} (hI : cI K N I A R Q G M x s h hq sc sg ar W n SV T len) {S : sSt} (hP : cPs Y I A R sc ar S) (hS : sInv S) (hk : sKind S = 0) (hz : iZ W) (hN : sCode W S = 0 → iN (sApp W S)) : gC Y yX12_runCommand cX12_runCommand 6 (some .boolean) ({ frames := 4, cells := 0, slots := 0, locals := 189 } : Room) [.ref x, va_rf (R 146 sc)] K N I A R Q (g_wr K N R Q (fun v I' A' => v = some (vi (if 0 < sCode W S then 0 else 1)) ∧ cI K N I' A' R Q G M x s h hq sc sg ar (if 0 < sCode W S then W else sApp W S) n SV T len ∧ gFm M K N I A R Q K N I' A' R Q ∧ I' 142 sc = I 142 sc)) gno := by
  have h1 := sNeed_ok hk
  have h2 := hS.1
  have h3 := hS.2.1
  have h4 : S.1 = 1 ∨ S.1 = 2 ∨ S.1 = 3 ∨ S.1 = 4 ∨ S.1 = 5 := by omega
  rw [hP.1]
  rcases h4 with h | h | h | h | h
  · have vv : sVr Y S.1 = some (Y.2.2.1 (30 + 0)) := by rw [h]; rfl
    rw [vv]
    exact k_A_run1 Y hI hP hS hk hz hN h
  · have vv : sVr Y S.1 = some (Y.2.2.1 (30 + 1)) := by rw [h]; rfl
    rw [vv]
    exact k_A_run2 Y hI hP hS hk hz hN h
  · have vv : sVr Y S.1 = some (Y.2.2.1 (30 + 2)) := by rw [h]; rfl
    rw [vv]
    exact k_A_run3 Y hI hP hS hk hz hN h
  · have vv : sVr Y S.1 = some (Y.2.2.1 (30 + 3)) := by rw [h]; rfl
    rw [vv]
    exact k_A_run4 Y hI hP hS hk hz hN h
  · have vv : sVr Y S.1 = some (Y.2.2.1 (30 + 4)) := by rw [h]; rfl
    rw [vv]
    exact k_A_run5 Y hI hP hS hk hz hN h
