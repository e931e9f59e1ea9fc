theorem cSv.own {K N : Nat → Nat} {I : Nat → Nat → Int} {A : Nat → Int → Int} {R : Nat → Nat → Option Nat} {Q : Nat → Int → Option Nat} {G : Nat → Nat × Int} {I' : Nat → Nat → Int} {A' : Nat → Int → Int} {t : Nat} {W : Int → Int} (h : cSv K N I A R Q G t W) (hs : cSh K N R Q G t) (hI : ∀ f q, (G q).1 = t → I' f q = I f q) (hA : ∀ q, (G q).1 = t → A' q = A q) : cSv K N I' A' R Q G t W := by
  obtain ⟨h1, h2, ev, kq, nq, h3, h4⟩ := h
  have hv : cV I' R Q t = cV I R Q t := by
    funext j
    simp only [cV]
    by_cases z : cF j = 999
    · rw [if_pos z, if_pos z]
    · rw [if_neg z, if_neg z]; exact hI _ _ (by rw [hs.cell z])
  refine ⟨h1, by rw [hv]; exact h2, ev, kq, nq, h3, ?_⟩
  obtain ⟨e1, e2, e3, e4, e5, e6, e7, e8, e9, e10, e11, e12⟩ := h3
  refine ⟨(hI 22 ev (by rw [e10])).trans h4.1, fun i a b => ?_⟩
  rw [hA kq (by rw [e11]), hA nq (by rw [e12])]
  exact h4.2 i a b
theorem cSt.own {K N : Nat → Nat} {I : Nat → Nat → Int} {R : Nat → Nat → Option Nat} {Q : Nat → Int → Option Nat} {G : Nat → Nat × Int} {I' : Nat → Nat → Int} {t : Nat} (h : cSt K N I R Q G t) (hI : ∀ f q, (G q).1 = t → I' f q = I f q) : cSt K N I' R Q G t := ⟨h.1, fun i a b => by
  rw [hI 120 _ (by rw [(h.1.2.2.2.1.2.2.2.2 i a b).2.2])]
  exact h.2.1 i a b, h.2.2⟩
theorem cHs.own {K N : Nat → Nat} {I : Nat → Nat → Int} {A : Nat → Int → Int} {R : Nat → Nat → Option Nat} {Q : Nat → Int → Option Nat} {G : Nat → Nat × Int} {I' : Nat → Nat → Int} {A' : Nat → Int → Int} {s hq : Nat} {n : Int} {SV : Int → Int} (h : cHs K N I A R Q G s hq n SV) (hn : n ≤ 6) (hI : ∀ t, K t = 9 → ∀ f q, (G q).1 = t → I' f q = I f q) (hA : ∀ t, K t = 9 → ∀ q, (G q).1 = t → A' q = A q) : cHs K N I' A' R Q G s hq n SV := ⟨fun i a b t e => by
    obtain ⟨h1, h2, h3⟩ := h.1 i a b t e
    exact ⟨h1.own (hI t h1.1.1), h2, h3⟩, fun i a b => by
    obtain ⟨t, e, h2⟩ := h.2 i a b
    obtain ⟨g1, g2, g3⟩ := h.1 i a (by omega) t e
    exact ⟨t, e, h2.own g1.1 (hI t g1.1.1) (hA t g1.1.1)⟩⟩
/-- changes in the script -/
theorem cI.sc {K N : Nat → Nat} {I : Nat → Nat → Int} {A : Nat → Int → Int} {R : Nat → Nat → Option Nat} {Q : Nat → Int → Option Nat} {G : Nat → Nat × Int} {M : Nat → Prop} {x s h hq sc sg ar : Nat} {W SV T : Int → Int} {n len : Int} {T' : Int → Int} {len' : Int} {I' : Nat → Nat → Int} {A' : Nat → Int → Int} {R' : Nat → Nat → Option Nat} (hI : cI K N I A R Q G M x s h hq sc sg ar W n SV T len) (hi : ∀ f b, b ≠ sc → I' f b = I f b) (ha : ∀ b, b ≠ sg → b ≠ ar → A' b = A b) (hr : ∀ f b, (f ≠ 146 ∨ b ≠ sc) → R' f b = R f b) (hT : A' sg = T') (hL : I' 141 sc = len') : cI K N I' A' R' Q G M x s h hq sc sg ar W n SV T' len' ∧ gFm M K N I A R Q K N I' A' R' Q := by
  obtain ⟨⟨x1, x2, x3, x4⟩, ⟨h1, h2, h3, h4, h5, h6, h7⟩, ⟨c1, c2, c3⟩, st, sv, hs, gg, hM⟩ := id hI
  obtain ⟨h0, hag, ev, kq, nq, hev, hE⟩ := id sv
  have hsh := st.1
  obtain ⟨d1, d2, d3, d4, d5, d6, d7⟩ := id c1
  have hx : gEx sc K N I A R Q G K N I' A R' Q G := gEx.own hi (fun _ _ => rfl) (fun f b hb => hr f b (Or.inr hb)) (fun _ _ => rfl)
  have hk : sKd (K sc) := by rw [d1]; unfold sKd; omega
  have own : ∀ t, K t = 9 → ∀ q, (G q).1 = t → A' q = A q := fun t ht q hq => ha q (fun e => by
    rw [e, gg.2.2.2.2.1] at hq
    rw [← hq, d3] at ht; cases ht) (fun e => by
    rw [e, gg.2.2.2.2.2.1] at hq
    rw [← hq, d6] at ht; cases ht)
  have st1 := st.keep (A := A) (N := N) hx hk
  have hh := (hs.keep h7 hx hk rfl)
  refine ⟨⟨⟨x1, (hr _ _ (by omega)).trans x2, (hr _ _ (by omega)).trans x3, (hr _ _ (by omega)).trans x4⟩, ⟨h1, (hr _ _ (by omega)).trans h2, h3, h4, (hi 61 h (fun e => by rw [e, d1] at h1; cases h1)).trans h5, h6, h7⟩, ⟨⟨d1, (hr _ _ (by omega)).trans d2, d3, d4, (hr _ _ (by omega)).trans d5, d6, d7⟩, hL, hT⟩, st1, (sv.keep st.1 hx hk).own st1.1 (fun _ _ _ => rfl) (own s st.1.1), hh.own h7 (fun _ _ _ _ _ => rfl) own, gg, hM⟩, fun b hb => ?_⟩
  obtain ⟨m1, m2, m3, m4, m5, m6, m7, m8, m9⟩ := hM b hb
  exact ⟨rfl, rfl, fun f => hi f b m7, ha b m8 m9, fun f => hr f b (Or.inr m7), rfl⟩
theorem cI.sf {K N : Nat → Nat} {I : Nat → Nat → Int} {A : Nat → Int → Int} {R : Nat → Nat → Option Nat} {Q : Nat → Int → Option Nat} {G : Nat → Nat × Int} {M : Nat → Prop} {x s h hq sc sg ar : Nat} {W SV T : Int → Int} {n len : Int} {I' : Nat → Nat → Int} {A' : Nat → Int → Int} {R' : Nat → Nat → Option Nat} (hI : cI K N I A R Q G M x s h hq sc sg ar W n SV T len) (hf : cSf I I' A A' R R' sc ar) : cI K N I' A' R' Q G M x s h hq sc sg ar W n SV T len ∧ gFm M K N I A R Q K N I' A' R' Q := by
  obtain ⟨⟨x1, x2, x3, x4⟩, ⟨h1, h2, h3, h4, h5, h6, h7⟩, ⟨c1, c2, c3⟩, st, sv, hs, gg, hM⟩ := id hI
  obtain ⟨h0, hag, ev, kq, nq, hev, hE⟩ := id sv
  have hsh := st.1
  exact hI.sc (fun f b e => hf.1 f b (Or.inl e)) (fun b _ e => hf.2.1 b e) (fun f b e => hf.2.2 f b e) ((hf.2.1 sg c1.ne).trans c3) ((hf.1 141 sc (by omega)).trans c2)
set_option maxHeartbeats 1000000 in
set_option maxRecDepth 100000 in
theorem k_A_firstError (Y : gEnv) {K N : Nat → Nat} {I : Nat → Nat → Int} {A : Nat → Int → Int} {R : Nat → Nat → Option Nat} {Q : Nat → Int → Option Nat} {G : Nat → Nat × Int} {M : Nat → Prop} {x s h hq sc sg ar : Nat} {W SV T : Int → Int} {n len : Int} (hI : cI K N I A R Q G M x s h hq sc sg ar W n SV T len)  (hlen : 0 ≤ len ∧ len ≤ 100) (hTr : ∀ j, 0 ≤ j → j < 100 → 0 ≤ T j ∧ T j ≤ 126) : gC Y yX12_firstError cX12_firstError 1 (some .int) ({ frames := 9, cells := 0, slots := 0, locals := 257 } : Room) [.ref x] K N I A R Q (cOpP K N I A R Q M x s h hq sc sg ar (0) (vi (sErr T len 101 0 0)) (W) (n) (SV) (T) (len)) (cOpX K N I A R Q (0) ([] : List String)) := by
  refine gC_of (by decide) (Nat.le_of_ble_eq_true rfl) (fun X => ?_)
  obtain ⟨⟨x1, x2, x3, x4⟩, ⟨h1, h2, h3, h4, h5, h6, h7⟩, ⟨c1, c2, c3⟩, st, sv, hs, gg, hM⟩ := id hI
  obtain ⟨h0, hag, ev, kq, nq, hev, hE⟩ := id sv
  have hsh := st.1
  refine g_aload_n dX12_firstError_0 rfl rfl ?_
  refine g_get_TileFactory_script dX12_firstError_1 mw_302 (by assumption) x4 ?_
  refine g_callVr (i := 7) rfl (gK0 c1.1) (g_at7 c1.1) (k_C_findError Y c1 (by rw [c3]; exact hTr) (by rw [c2]; exact hlen)) u_X9_findError mw_877 dX12_firstError_4 rfl rfl ⟨Nat.le_of_ble_eq_true rfl, Nat.le_of_ble_eq_true rfl⟩ ⟨Nat.le_of_ble_eq_true rfl, Nat.le_of_ble_eq_true rfl⟩ (Nat.le_of_ble_eq_true rfl) (fun v4 I4 A4 R4 h4 => ?_)
  obtain ⟨rfl, f4⟩ := h4
  rw [c3, c2]
  obtain ⟨r1, r2⟩ := hI.sf f4
  exact g_iret dX12_firstError_7 rfl (by decide) (by decide) ⟨rfl, rfl, G, r1, r2⟩
