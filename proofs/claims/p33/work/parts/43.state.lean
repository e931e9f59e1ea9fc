theorem gEx.zero {a q : Nat} {K0 N0 : Nat → Nat} {I0 : Nat → Nat → Int} {A0 : Nat → Int → Int} {R0 : Nat → Nat → Option Nat} {Q0 : Nat → Int → Option Nat} {G0 : Nat → Nat × Int} {K1 N1 : Nat → Nat} {I1 : Nat → Nat → Int} {A1 : Nat → Int → Int} {R1 : Nat → Nat → Option Nat} {Q1 : Nat → Int → Option Nat} {G1 : Nat → Nat × Int} (h : gEx a K0 N0 I0 A0 R0 Q0 G0 K1 N1 I1 A1 R1 Q1 G1) (hz : K1 q = 0) : K0 q = 0 := Decidable.byContradiction (fun e => e ((h q e).1.symm.trans hz))
theorem gEx.atI {q : Nat} {K N : Nat → Nat} {I : Nat → Nat → Int} {A : Nat → Int → Int} {R : Nat → Nat → Option Nat} {Q : Nat → Int → Option Nat} {G : Nat → Nat × Int} {I1 : Nat → Nat → Int} (hI : ∀ f b, b ≠ q → I1 f b = I f b) : gEx q K N I A R Q G K N I1 A R Q G := gEx.own hI (fun _ _ => Eq.refl _) (fun _ _ _ => Eq.refl _) (fun _ _ => Eq.refl _)
def cNw (K0 : Nat → Nat) (R : Nat → Nat → Option Nat) (s : Nat) : Prop := ∀ f, 160 ≤ f → f ≤ 164 → K0 (aArr R s f) = 0
theorem gZn {K0 K : Nat → Nat} {G G0 : Nat → Nat × Int} {q v : Nat} {g : Nat × Int} (h : ∀ b, K b = 0 → G b = G0 b) (hv : v ≠ 0) (hK : K0 = va_up K q v) : ∀ b, K0 b = 0 → va_up G q g b = G0 b := fun b hb => by
  by_cases e : b = q
  · rw [e, hK, va_up_self] at hb; exact absurd hb hv
  · rw [hK, va_up_ne _ _ e] at hb
    rw [va_up_ne _ _ e]; exact h b hb
def cStP (s : Nat) (K N : Nat → Nat) (I : Nat → Nat → Int) (A : Nat → Int → Int) (R : Nat → Nat → Option Nat) (Q : Nat → Int → Option Nat) (G : Nat → Nat × Int) : gPo := fun v K' N' I' A' R' Q' => v = none ∧ ∃ G' : Nat → Nat × Int, gEx s K N I A R Q G K' N' I' A' R' Q' G' ∧ (∀ b, K' b = 0 → G' b = G b) ∧ cBd K' N' I' R' Q' G' s 4 24 80 160 40
set_option maxHeartbeats 1000000 in
set_option maxRecDepth 100000 in
theorem lp_N_State4 {Y : gEnv} {X : gCtx} {K0 N0 : Nat → Nat} {I0 : Nat → Nat → Int} {A0 : Nat → Int → Int} {R0 : Nat → Nat → Option Nat} {Q0 : Nat → Int → Option Nat} {G0 : Nat → Nat × Int} {s : Nat} : ∀ (f m : Nat) (i : Int) (K N : Nat → Nat) (I : Nat → Nat → Int) (A : Nat → Int → Int) (R : Nat → Nat → Option Nat) (Q : Nat → Int → Option Nat) (G : Nat → Nat × Int) (k n : Nat), m < f → 0 ≤ i → i + m = 40 → cBd K N I R Q G s 4 24 80 160 i → gEx s K0 N0 I0 A0 R0 Q0 G0 K N I A R Q G → (∀ b, K b = 0 → G b = G0 b) → cNw K0 R s → k + m + 0 ≤ 316 → n + 5 * m + 0 ≤ 1943 → gJ Y X yX10_init cX10_init 3 none ({ frames := 2, cells := 316, slots := 1943, locals := 33 } : Room) (cStP s K0 N0 I0 A0 R0 Q0 G0) gno k n 224 [(0, .ref s), (1, vi i)] [] K N I A R Q := by
  intro f
  induction f with
  | zero => intro m i K N I A R Q G k n h; omega
  | succ f ih =>
  intro m i K N I A R Q G k n hf hi hm hB hX hZ hW hk hn
  obtain ⟨k0, g0, b0, b1, b2, b3, b4, ez, iz⟩ := id hB
  have ka := b4.2.1
  have kn := b4.2.2.1
  refine g_iload_n dX10_init_224 rfl rfl ?_
  refine g_aload_n dX10_init_225 rfl rfl ?_
  refine g_get_State_deliveries dX10_init_226 mw_211 k0 b4.1 ?_
  refine g_alen_Delivery dX10_init_229 b4.2.1 ?_
  refine g_icmp_ge (tgt := 252) dX10_init_230 (by decide) (by omega) (by omega) (fun c_230 => ?_) (fun c_230 => ?_)
  · exact g_vret dX10_init_252 rfl (by show _ ≤ (316 : Nat); omega) (by show _ ≤ (1943 : Nat); omega) (by
      obtain rfl : i = 40 := by omega
      exact ⟨rfl, G, hX, hZ, hB⟩)
  · refine g_aload_n dX10_init_233 rfl rfl ?_
    refine g_get_State_deliveries dX10_init_234 mw_211 k0 b4.1 ?_
    refine g_iload_n dX10_init_237 rfl rfl ?_
    refine g_new_Delivery dX10_init_238 mw_66 mw_178 mw_27 (by show _ ≤ (316 : Nat); omega) (by show _ ≤ (1943 : Nat); omega) (fun q238 K238 I238 R238 z238 hK238 hI238 hR238 => ?_)
    refine g_dup dX10_init_241 rfl ?_
    refine g_callIN (k_N_Delivery Y (by rw [hK238, va_up_self])) u_X1_init mw_179 dX10_init_242 rfl rfl ⟨Nat.le_of_ble_eq_true rfl, Nat.le_of_ble_eq_true rfl⟩ ⟨by show _ ≤ (316 : Nat); dsimp only; omega, by show _ ≤ (1943 : Nat); dsimp only; omega⟩ (Nat.le_of_ble_eq_true rfl) (fun v242 K242 N242 I242 A242 R242 Q242 h242 => ?_)
    obtain ⟨e1, e2, e3, e4, e5, e6, e7⟩ := h242
    subst e5
    obtain rfl := e1.symm
    obtain rfl := e2.symm
    obtain rfl := e3.symm
    obtain rfl := e4.symm
    obtain rfl := e7.symm
    refine g_aast_Delivery dX10_init_245 (by rw [hK238, va_up_ne _ _ (fun e => by rw [← e, b4.2.1] at z238; cases z238)]; exact b4.2.1) (by omega) (by omega) (by rw [hK238, va_up_self]) (fun Q245 hQ245 => ?_)
    refine g_iinc dX10_init_246 rfl (by decide) ?_
    refine g_goto (tgt := 224) dX10_init_249 (by decide) ?_
    have hx1 : gEx (aArr R s 164) K N I A R Q G K238 N I242 A R238 Q245 (va_up G q238 (s, i)) := ((gEx.new (g := (s, i)) z238 hK238 hI238 hR238).trans (gEx.atI (fun f b hb => by rw [e6])) (Or.inr z238)).trans (gEx.upQ hQ245) (Or.inl rfl)
    have hs1 : s ≠ aArr R s 164 := fun e => by rw [← e, k0] at ka; cases ka
    have hb1 := hB.add164 hx1 (fun j => by rw [hQ245, g_uq_at]) (by rw [hK238, va_up_self]) (va_up_self _ _ _) trivial
    have hr1 := ((hx1 s (by rw [k0]; decide)).2.2.2 hs1).2.2.1
    exact g_locs (by exact ⟨rfl, rfl, trivial⟩) (ih (m - 1) (i + 1) _ _ _ _ _ _ (va_up G q238 (s, i)) _ _ (by omega) (by omega) (by omega) hb1 (hX.trans hx1 (Or.inr (hW 164 (by decide) (by decide)))) (gZn hZ (by decide) hK238) (fun f a b => by unfold aArr; rw [hr1]; exact hW f a b) (by dsimp only; omega) (by dsimp only; omega))
set_option maxHeartbeats 1000000 in
set_option maxRecDepth 100000 in
theorem lp_N_State3 {Y : gEnv} {X : gCtx} {K0 N0 : Nat → Nat} {I0 : Nat → Nat → Int} {A0 : Nat → Int → Int} {R0 : Nat → Nat → Option Nat} {Q0 : Nat → Int → Option Nat} {G0 : Nat → Nat × Int} {s : Nat} : ∀ (f m : Nat) (i : Int) (K N : Nat → Nat) (I : Nat → Nat → Int) (A : Nat → Int → Int) (R : Nat → Nat → Option Nat) (Q : Nat → Int → Option Nat) (G : Nat → Nat × Int) (k n : Nat), m < f → 0 ≤ i → i + m = 160 → cBd K N I R Q G s 4 24 80 i 0 → gEx s K0 N0 I0 A0 R0 Q0 G0 K N I A R Q G → (∀ b, K b = 0 → G b = G0 b) → cNw K0 R s → k + m + 40 ≤ 316 → n + 6 * m + 200 ≤ 1943 → gJ Y X yX10_init cX10_init 3 none ({ frames := 2, cells := 316, slots := 1943, locals := 33 } : Room) (cStP s K0 N0 I0 A0 R0 Q0 G0) gno k n 194 [(0, .ref s), (1, vi i)] [] K N I A R Q := by
  intro f
  induction f with
  | zero => intro m i K N I A R Q G k n h; omega
  | succ f ih =>
  intro m i K N I A R Q G k n hf hi hm hB hX hZ hW hk hn
  obtain ⟨k0, g0, b0, b1, b2, b3, b4, ez, iz⟩ := id hB
  have ka := b3.2.1
  have kn := b3.2.2.1
  refine g_iload_n dX10_init_194 rfl rfl ?_
  refine g_aload_n dX10_init_195 rfl rfl ?_
  refine g_get_State_lots dX10_init_196 mw_209 k0 b3.1 ?_
  refine g_alen_Lot dX10_init_199 b3.2.1 ?_
  refine g_icmp_ge (tgt := 222) dX10_init_200 (by decide) (by omega) (by omega) (fun c_200 => ?_) (fun c_200 => ?_)
  · refine g_iconst dX10_init_222 ?_
    refine g_istore_n dX10_init_223 rfl (by decide) ?_
    obtain rfl : i = 160 := by omega
    exact g_locs (by exact ⟨rfl, rfl, trivial⟩) (lp_N_State4 _ 40 0 _ _ _ _ _ _ G k n (Nat.lt_succ_self _) (by omega) (by omega) hB hX hZ hW (by omega) (by omega))
  · refine g_aload_n dX10_init_203 rfl rfl ?_
    refine g_get_State_lots dX10_init_204 mw_209 k0 b3.1 ?_
    refine g_iload_n dX10_init_207 rfl rfl ?_
    refine g_new_Lot dX10_init_208 mw_64 mw_150 mw_26 (by show _ ≤ (316 : Nat); omega) (by show _ ≤ (1943 : Nat); omega) (fun q208 K208 I208 R208 z208 hK208 hI208 hR208 => ?_)
    refine g_dup dX10_init_211 rfl ?_
    refine g_callIN (k_N_Lot Y (by rw [hK208, va_up_self])) u_X6_init mw_151 dX10_init_212 rfl rfl ⟨Nat.le_of_ble_eq_true rfl, Nat.le_of_ble_eq_true rfl⟩ ⟨by show _ ≤ (316 : Nat); dsimp only; omega, by show _ ≤ (1943 : Nat); dsimp only; omega⟩ (Nat.le_of_ble_eq_true rfl) (fun v212 K212 N212 I212 A212 R212 Q212 h212 => ?_)
    obtain ⟨e1, e2, e3, e4, e5, e6, e7⟩ := h212
    subst e5
    obtain rfl := e1.symm
    obtain rfl := e2.symm
    obtain rfl := e3.symm
    obtain rfl := e4.symm
    obtain rfl := e7.symm
    refine g_aast_Lot dX10_init_215 (by rw [hK208, va_up_ne _ _ (fun e => by rw [← e, b3.2.1] at z208; cases z208)]; exact b3.2.1) (by omega) (by omega) (by rw [hK208, va_up_self]) (fun Q215 hQ215 => ?_)
    refine g_iinc dX10_init_216 rfl (by decide) ?_
    refine g_goto (tgt := 194) dX10_init_219 (by decide) ?_
    have hx1 : gEx (aArr R s 163) K N I A R Q G K208 N I212 A R208 Q215 (va_up G q208 (s, i)) := ((gEx.new (g := (s, i)) z208 hK208 hI208 hR208).trans (gEx.atI (fun f b hb => by rw [e6])) (Or.inr z208)).trans (gEx.upQ hQ215) (Or.inl rfl)
    have hs1 : s ≠ aArr R s 163 := fun e => by rw [← e, k0] at ka; cases ka
    have hb1 := hB.add163 hx1 (fun j => by rw [hQ215, g_uq_at]) (by rw [hK208, va_up_self]) (va_up_self _ _ _) trivial
    have hr1 := ((hx1 s (by rw [k0]; decide)).2.2.2 hs1).2.2.1
    exact g_locs (by exact ⟨rfl, rfl, trivial⟩) (ih (m - 1) (i + 1) _ _ _ _ _ _ (va_up G q208 (s, i)) _ _ (by omega) (by omega) (by omega) hb1 (hX.trans hx1 (Or.inr (hW 163 (by decide) (by decide)))) (gZn hZ (by decide) hK208) (fun f a b => by unfold aArr; rw [hr1]; exact hW f a b) (by dsimp only; omega) (by dsimp only; omega))
set_option maxHeartbeats 1000000 in
set_option maxRecDepth 100000 in
theorem lp_N_State2 {Y : gEnv} {X : gCtx} {K0 N0 : Nat → Nat} {I0 : Nat → Nat → Int} {A0 : Nat → Int → Int} {R0 : Nat → Nat → Option Nat} {Q0 : Nat → Int → Option Nat} {G0 : Nat → Nat × Int} {s : Nat} : ∀ (f m : Nat) (i : Int) (K N : Nat → Nat) (I : Nat → Nat → Int) (A : Nat → Int → Int) (R : Nat → Nat → Option Nat) (Q : Nat → Int → Option Nat) (G : Nat → Nat × Int) (k n : Nat), m < f → 0 ≤ i → i + m = 80 → cBd K N I R Q G s 4 24 i 0 0 → gEx s K0 N0 I0 A0 R0 Q0 G0 K N I A R Q G → (∀ b, K b = 0 → G b = G0 b) → cNw K0 R s → k + m + 200 ≤ 316 → n + 4 * m + 1160 ≤ 1943 → gJ Y X yX10_init cX10_init 3 none ({ frames := 2, cells := 316, slots := 1943, locals := 33 } : Room) (cStP s K0 N0 I0 A0 R0 Q0 G0) gno k n 164 [(0, .ref s), (1, vi i)] [] K N I A R Q := by
  intro f
  induction f with
  | zero => intro m i K N I A R Q G k n h; omega
  | succ f ih =>
  intro m i K N I A R Q G k n hf hi hm hB hX hZ hW hk hn
  obtain ⟨k0, g0, b0, b1, b2, b3, b4, ez, iz⟩ := id hB
  have ka := b2.2.1
  have kn := b2.2.2.1
  refine g_iload_n dX10_init_164 rfl rfl ?_
  refine g_aload_n dX10_init_165 rfl rfl ?_
  refine g_get_State_piles dX10_init_166 mw_208 k0 b2.1 ?_
  refine g_alen_Pile dX10_init_169 b2.2.1 ?_
  refine g_icmp_ge (tgt := 192) dX10_init_170 (by decide) (by omega) (by omega) (fun c_170 => ?_) (fun c_170 => ?_)
  · refine g_iconst dX10_init_192 ?_
    refine g_istore_n dX10_init_193 rfl (by decide) ?_
    obtain rfl : i = 80 := by omega
    exact g_locs (by exact ⟨rfl, rfl, trivial⟩) (lp_N_State3 _ 160 0 _ _ _ _ _ _ G k n (Nat.lt_succ_self _) (by omega) (by omega) hB hX hZ hW (by omega) (by omega))
  · refine g_aload_n dX10_init_173 rfl rfl ?_
    refine g_get_State_piles dX10_init_174 mw_208 k0 b2.1 ?_
    refine g_iload_n dX10_init_177 rfl rfl ?_
    refine g_new_Pile dX10_init_178 mw_62 mw_128 mw_25 (by show _ ≤ (316 : Nat); omega) (by show _ ≤ (1943 : Nat); omega) (fun q178 K178 I178 R178 z178 hK178 hI178 hR178 => ?_)
    refine g_dup dX10_init_181 rfl ?_
    refine g_callIN (k_N_Pile Y (by rw [hK178, va_up_self])) u_X7_init mw_129 dX10_init_182 rfl rfl ⟨Nat.le_of_ble_eq_true rfl, Nat.le_of_ble_eq_true rfl⟩ ⟨by show _ ≤ (316 : Nat); dsimp only; omega, by show _ ≤ (1943 : Nat); dsimp only; omega⟩ (Nat.le_of_ble_eq_true rfl) (fun v182 K182 N182 I182 A182 R182 Q182 h182 => ?_)
    obtain ⟨e1, e2, e3, e4, e5, e6, e7⟩ := h182
    subst e5
    obtain rfl := e1.symm
    obtain rfl := e2.symm
    obtain rfl := e3.symm
    obtain rfl := e4.symm
    obtain rfl := e7.symm
    refine g_aast_Pile dX10_init_185 (by rw [hK178, va_up_ne _ _ (fun e => by rw [← e, b2.2.1] at z178; cases z178)]; exact b2.2.1) (by omega) (by omega) (by rw [hK178, va_up_self]) (fun Q185 hQ185 => ?_)
    refine g_iinc dX10_init_186 rfl (by decide) ?_
    refine g_goto (tgt := 164) dX10_init_189 (by decide) ?_
    have hx1 : gEx (aArr R s 162) K N I A R Q G K178 N I182 A R178 Q185 (va_up G q178 (s, i)) := ((gEx.new (g := (s, i)) z178 hK178 hI178 hR178).trans (gEx.atI (fun f b hb => by rw [e6])) (Or.inr z178)).trans (gEx.upQ hQ185) (Or.inl rfl)
    have hs1 : s ≠ aArr R s 162 := fun e => by rw [← e, k0] at ka; cases ka
    have hb1 := hB.add162 hx1 (fun j => by rw [hQ185, g_uq_at]) (by rw [hK178, va_up_self]) (va_up_self _ _ _) trivial
    have hr1 := ((hx1 s (by rw [k0]; decide)).2.2.2 hs1).2.2.1
    exact g_locs (by exact ⟨rfl, rfl, trivial⟩) (ih (m - 1) (i + 1) _ _ _ _ _ _ (va_up G q178 (s, i)) _ _ (by omega) (by omega) (by omega) hb1 (hX.trans hx1 (Or.inr (hW 162 (by decide) (by decide)))) (gZn hZ (by decide) hK178) (fun f a b => by unfold aArr; rw [hr1]; exact hW f a b) (by dsimp only; omega) (by dsimp only; omega))
set_option maxHeartbeats 1000000 in
set_option maxRecDepth 100000 in
theorem lp_N_State1 {Y : gEnv} {X : gCtx} {K0 N0 : Nat → Nat} {I0 : Nat → Nat → Int} {A0 : Nat → Int → Int} {R0 : Nat → Nat → Option Nat} {Q0 : Nat → Int → Option Nat} {G0 : Nat → Nat × Int} {s : Nat} : ∀ (f m : Nat) (i : Int) (K N : Nat → Nat) (I : Nat → Nat → Int) (A : Nat → Int → Int) (R : Nat → Nat → Option Nat) (Q : Nat → Int → Option Nat) (G : Nat → Nat × Int) (k n : Nat), m < f → 0 ≤ i → i + m = 24 → cBd K N I R Q G s 4 i 0 0 0 → gEx s K0 N0 I0 A0 R0 Q0 G0 K N I A R Q G → (∀ b, K b = 0 → G b = G0 b) → cNw K0 R s → k + m + 280 ≤ 316 → n + 4 * m + 1480 ≤ 1943 → gJ Y X yX10_init cX10_init 3 none ({ frames := 2, cells := 316, slots := 1943, locals := 33 } : Room) (cStP s K0 N0 I0 A0 R0 Q0 G0) gno k n 104 [(0, .ref s), (1, vi i)] [] K N I A R Q := by
  intro f
  induction f with
  | zero => intro m i K N I A R Q G k n h; omega
  | succ f ih =>
  intro m i K N I A R Q G k n hf hi hm hB hX hZ hW hk hn
  obtain ⟨k0, g0, b0, b1, b2, b3, b4, ez, iz⟩ := id hB
  have ka := b1.2.1
  have kn := b1.2.2.1
  refine g_iload_n dX10_init_104 rfl rfl ?_
  refine g_aload_n dX10_init_105 rfl rfl ?_
  refine g_get_State_positions dX10_init_106 mw_206 k0 b1.1 ?_
  refine g_alen_Position dX10_init_109 b1.2.1 ?_
  refine g_icmp_ge (tgt := 162) dX10_init_110 (by decide) (by omega) (by omega) (fun c_110 => ?_) (fun c_110 => ?_)
  · refine g_iconst dX10_init_162 ?_
    refine g_istore_n dX10_init_163 rfl (by decide) ?_
    obtain rfl : i = 24 := by omega
    exact g_locs (by exact ⟨rfl, rfl, trivial⟩) (lp_N_State2 _ 80 0 _ _ _ _ _ _ G k n (Nat.lt_succ_self _) (by omega) (by omega) hB hX hZ hW (by omega) (by omega))
  · refine g_iload_n dX10_init_113 rfl rfl ?_
    refine g_bipush dX10_init_114 (by decide) ?_
    refine g_idiv dX10_init_116 (by omega) (by omega) (by omega) ?_
    rw [td_pos (by omega)]
    refine g_iconst dX10_init_117 ?_
    refine g_icmp_ne (tgt := 125) dX10_init_118 (by decide) (by omega) (by omega) (fun c_118 => ?_) (fun c_118 => ?_)
    · refine g_iconst dX10_init_125 ?_
      refine g_istore_n dX10_init_126 rfl (by decide) ?_
      refine g_aload_n dX10_init_127 rfl rfl ?_
      refine g_get_State_positions dX10_init_128 mw_206 k0 b1.1 ?_
      refine g_iload_n dX10_init_131 rfl rfl ?_
      refine g_new_Position dX10_init_132 mw_60 mw_108 mw_24 (by show _ ≤ (316 : Nat); omega) (by show _ ≤ (1943 : Nat); omega) (fun q132 K132 I132 R132 z132 hK132 hI132 hR132 => ?_)
      refine g_dup dX10_init_135 rfl ?_
      refine g_iload_n dX10_init_136 rfl rfl ?_
      refine g_if_eq (tgt := 151) dX10_init_137 (by decide) (by omega) (fun c_137 => ?_) (fun c_137 => ?_)
      · refine g_iconst dX10_init_151 ?_
        refine g_callI (k_N_Position Y (by rw [hK132, va_up_self]) _ (by omega)) u_X8_init mw_109 dX10_init_152 rfl rfl ⟨Nat.le_of_ble_eq_true rfl, Nat.le_of_ble_eq_true rfl⟩ ⟨by show _ ≤ (316 : Nat); dsimp only; omega, by show _ ≤ (1943 : Nat); dsimp only; omega⟩ (Nat.le_of_ble_eq_true rfl) (fun v152 K152 N152 I152 A152 R152 Q152 h152 => ?_)
        obtain ⟨e1, e2, e3, e4, e5, e6, e7⟩ := h152
        subst e5
        obtain rfl := e1.symm
        obtain rfl := e2.symm
        obtain rfl := e3.symm
        obtain rfl := e4.symm
        obtain rfl := e7.symm
        refine g_aast_Position dX10_init_155 (by rw [hK132, va_up_ne _ _ (fun e => by rw [← e, b1.2.1] at z132; cases z132)]; exact b1.2.1) (by omega) (by omega) (by rw [hK132, va_up_self]) (fun Q155 hQ155 => ?_)
        refine g_iinc dX10_init_156 rfl (by decide) ?_
        refine g_goto (tgt := 104) dX10_init_159 (by decide) ?_
        first
        | (exfalso; omega)
        | (have hx1 : gEx (aArr R s 161) K N I A R Q G K132 N I152 A R132 Q155 (va_up G q132 (s, i)) := ((gEx.new (g := (s, i)) z132 hK132 hI132 hR132).trans (gEx.atI (fun f b hb => by rw [e6]; simp [g_up, hb])) (Or.inr z132)).trans (gEx.upQ hQ155) (Or.inl rfl)
           have hs1 : s ≠ aArr R s 161 := fun e => by rw [← e, k0] at ka; cases ka
           have hb1 := hB.add161 hx1 (fun j => by rw [hQ155, g_uq_at]) (by rw [hK132, va_up_self]) (va_up_self _ _ _) ⟨by show I152 120 q132 = _; rw [e6]; simp only [g_up, if_true]; first | (rw [if_pos (by omega)]; omega) | (rw [if_neg (by omega)]; done), by show I152 121 q132 = 0; rw [e6]; simp [g_up, hI132, g_z], by show I152 122 q132 = 0; rw [e6]; simp [g_up, hI132, g_z], by show I152 123 q132 = 0; rw [e6]; simp [g_up, hI132, g_z]⟩
           have hr1 := ((hx1 s (by rw [k0]; decide)).2.2.2 hs1).2.2.1
           exact g_locs (by exact ⟨rfl, rfl, trivial⟩) (ih (m - 1) (i + 1) _ _ _ _ _ _ (va_up G q132 (s, i)) _ _ (by omega) (by omega) (by omega) hb1 (hX.trans hx1 (Or.inr (hW 161 (by decide) (by decide)))) (gZn hZ (by decide) hK132) (fun f a b => by unfold aArr; rw [hr1]; exact hW f a b) (by dsimp only; omega) (by dsimp only; omega)))
      · refine g_iconst dX10_init_140 ?_
        refine g_iload_n dX10_init_141 rfl rfl ?_
        refine g_bipush dX10_init_142 (by decide) ?_
        refine g_irem dX10_init_144 (by omega) (by omega) (by omega) ?_
        rw [Int.tmod_eq_emod_of_nonneg (by omega)]
        refine g_iconst dX10_init_145 ?_
        refine g_isub dX10_init_146 ?_
        refine g_imul dX10_init_147 ?_
        refine g_goto (tgt := 152) dX10_init_148 (by decide) ?_
        refine g_callI (k_N_Position Y (by rw [hK132, va_up_self]) _ (by omega)) u_X8_init mw_109 dX10_init_152 rfl rfl ⟨Nat.le_of_ble_eq_true rfl, Nat.le_of_ble_eq_true rfl⟩ ⟨by show _ ≤ (316 : Nat); dsimp only; omega, by show _ ≤ (1943 : Nat); dsimp only; omega⟩ (Nat.le_of_ble_eq_true rfl) (fun v152 K152 N152 I152 A152 R152 Q152 h152 => ?_)
        obtain ⟨e1, e2, e3, e4, e5, e6, e7⟩ := h152
        subst e5
        obtain rfl := e1.symm
        obtain rfl := e2.symm
        obtain rfl := e3.symm
        obtain rfl := e4.symm
        obtain rfl := e7.symm
        refine g_aast_Position dX10_init_155 (by rw [hK132, va_up_ne _ _ (fun e => by rw [← e, b1.2.1] at z132; cases z132)]; exact b1.2.1) (by omega) (by omega) (by rw [hK132, va_up_self]) (fun Q155 hQ155 => ?_)
        refine g_iinc dX10_init_156 rfl (by decide) ?_
        refine g_goto (tgt := 104) dX10_init_159 (by decide) ?_
        first
        | (exfalso; omega)
        | (have hx1 : gEx (aArr R s 161) K N I A R Q G K132 N I152 A R132 Q155 (va_up G q132 (s, i)) := ((gEx.new (g := (s, i)) z132 hK132 hI132 hR132).trans (gEx.atI (fun f b hb => by rw [e6]; simp [g_up, hb])) (Or.inr z132)).trans (gEx.upQ hQ155) (Or.inl rfl)
           have hs1 : s ≠ aArr R s 161 := fun e => by rw [← e, k0] at ka; cases ka
           have hb1 := hB.add161 hx1 (fun j => by rw [hQ155, g_uq_at]) (by rw [hK132, va_up_self]) (va_up_self _ _ _) ⟨by show I152 120 q132 = _; rw [e6]; simp only [g_up, if_true]; first | (rw [if_pos (by omega)]; omega) | (rw [if_neg (by omega)]; done), by show I152 121 q132 = 0; rw [e6]; simp [g_up, hI132, g_z], by show I152 122 q132 = 0; rw [e6]; simp [g_up, hI132, g_z], by show I152 123 q132 = 0; rw [e6]; simp [g_up, hI132, g_z]⟩
           have hr1 := ((hx1 s (by rw [k0]; decide)).2.2.2 hs1).2.2.1
           exact g_locs (by exact ⟨rfl, rfl, trivial⟩) (ih (m - 1) (i + 1) _ _ _ _ _ _ (va_up G q132 (s, i)) _ _ (by omega) (by omega) (by omega) hb1 (hX.trans hx1 (Or.inr (hW 161 (by decide) (by decide)))) (gZn hZ (by decide) hK132) (fun f a b => by unfold aArr; rw [hr1]; exact hW f a b) (by dsimp only; omega) (by dsimp only; omega)))
    · refine g_iconst dX10_init_121 ?_
      refine g_goto (tgt := 126) dX10_init_122 (by decide) ?_
      refine g_istore_n dX10_init_126 rfl (by decide) ?_
      refine g_aload_n dX10_init_127 rfl rfl ?_
      refine g_get_State_positions dX10_init_128 mw_206 k0 b1.1 ?_
      refine g_iload_n dX10_init_131 rfl rfl ?_
      refine g_new_Position dX10_init_132 mw_60 mw_108 mw_24 (by show _ ≤ (316 : Nat); omega) (by show _ ≤ (1943 : Nat); omega) (fun q132 K132 I132 R132 z132 hK132 hI132 hR132 => ?_)
      refine g_dup dX10_init_135 rfl ?_
      refine g_iload_n dX10_init_136 rfl rfl ?_
      refine g_if_eq (tgt := 151) dX10_init_137 (by decide) (by omega) (fun c_137 => ?_) (fun c_137 => ?_)
      · refine g_iconst dX10_init_151 ?_
        refine g_callI (k_N_Position Y (by rw [hK132, va_up_self]) _ (by omega)) u_X8_init mw_109 dX10_init_152 rfl rfl ⟨Nat.le_of_ble_eq_true rfl, Nat.le_of_ble_eq_true rfl⟩ ⟨by show _ ≤ (316 : Nat); dsimp only; omega, by show _ ≤ (1943 : Nat); dsimp only; omega⟩ (Nat.le_of_ble_eq_true rfl) (fun v152 K152 N152 I152 A152 R152 Q152 h152 => ?_)
        obtain ⟨e1, e2, e3, e4, e5, e6, e7⟩ := h152
        subst e5
        obtain rfl := e1.symm
        obtain rfl := e2.symm
        obtain rfl := e3.symm
        obtain rfl := e4.symm
        obtain rfl := e7.symm
        refine g_aast_Position dX10_init_155 (by rw [hK132, va_up_ne _ _ (fun e => by rw [← e, b1.2.1] at z132; cases z132)]; exact b1.2.1) (by omega) (by omega) (by rw [hK132, va_up_self]) (fun Q155 hQ155 => ?_)
        refine g_iinc dX10_init_156 rfl (by decide) ?_
        refine g_goto (tgt := 104) dX10_init_159 (by decide) ?_
        first
        | (exfalso; omega)
        | (have hx1 : gEx (aArr R s 161) K N I A R Q G K132 N I152 A R132 Q155 (va_up G q132 (s, i)) := ((gEx.new (g := (s, i)) z132 hK132 hI132 hR132).trans (gEx.atI (fun f b hb => by rw [e6]; simp [g_up, hb])) (Or.inr z132)).trans (gEx.upQ hQ155) (Or.inl rfl)
           have hs1 : s ≠ aArr R s 161 := fun e => by rw [← e, k0] at ka; cases ka
           have hb1 := hB.add161 hx1 (fun j => by rw [hQ155, g_uq_at]) (by rw [hK132, va_up_self]) (va_up_self _ _ _) ⟨by show I152 120 q132 = _; rw [e6]; simp only [g_up, if_true]; first | (rw [if_pos (by omega)]; omega) | (rw [if_neg (by omega)]; done), by show I152 121 q132 = 0; rw [e6]; simp [g_up, hI132, g_z], by show I152 122 q132 = 0; rw [e6]; simp [g_up, hI132, g_z], by show I152 123 q132 = 0; rw [e6]; simp [g_up, hI132, g_z]⟩
           have hr1 := ((hx1 s (by rw [k0]; decide)).2.2.2 hs1).2.2.1
           exact g_locs (by exact ⟨rfl, rfl, trivial⟩) (ih (m - 1) (i + 1) _ _ _ _ _ _ (va_up G q132 (s, i)) _ _ (by omega) (by omega) (by omega) hb1 (hX.trans hx1 (Or.inr (hW 161 (by decide) (by decide)))) (gZn hZ (by decide) hK132) (fun f a b => by unfold aArr; rw [hr1]; exact hW f a b) (by dsimp only; omega) (by dsimp only; omega)))
      · refine g_iconst dX10_init_140 ?_
        refine g_iload_n dX10_init_141 rfl rfl ?_
        refine g_bipush dX10_init_142 (by decide) ?_
        refine g_irem dX10_init_144 (by omega) (by omega) (by omega) ?_
        rw [Int.tmod_eq_emod_of_nonneg (by omega)]
        refine g_iconst dX10_init_145 ?_
        refine g_isub dX10_init_146 ?_
        refine g_imul dX10_init_147 ?_
        refine g_goto (tgt := 152) dX10_init_148 (by decide) ?_
        refine g_callI (k_N_Position Y (by rw [hK132, va_up_self]) _ (by omega)) u_X8_init mw_109 dX10_init_152 rfl rfl ⟨Nat.le_of_ble_eq_true rfl, Nat.le_of_ble_eq_true rfl⟩ ⟨by show _ ≤ (316 : Nat); dsimp only; omega, by show _ ≤ (1943 : Nat); dsimp only; omega⟩ (Nat.le_of_ble_eq_true rfl) (fun v152 K152 N152 I152 A152 R152 Q152 h152 => ?_)
        obtain ⟨e1, e2, e3, e4, e5, e6, e7⟩ := h152
        subst e5
        obtain rfl := e1.symm
        obtain rfl := e2.symm
        obtain rfl := e3.symm
        obtain rfl := e4.symm
        obtain rfl := e7.symm
        refine g_aast_Position dX10_init_155 (by rw [hK132, va_up_ne _ _ (fun e => by rw [← e, b1.2.1] at z132; cases z132)]; exact b1.2.1) (by omega) (by omega) (by rw [hK132, va_up_self]) (fun Q155 hQ155 => ?_)
        refine g_iinc dX10_init_156 rfl (by decide) ?_
        refine g_goto (tgt := 104) dX10_init_159 (by decide) ?_
        first
        | (exfalso; omega)
        | (have hx1 : gEx (aArr R s 161) K N I A R Q G K132 N I152 A R132 Q155 (va_up G q132 (s, i)) := ((gEx.new (g := (s, i)) z132 hK132 hI132 hR132).trans (gEx.atI (fun f b hb => by rw [e6]; simp [g_up, hb])) (Or.inr z132)).trans (gEx.upQ hQ155) (Or.inl rfl)
           have hs1 : s ≠ aArr R s 161 := fun e => by rw [← e, k0] at ka; cases ka
           have hb1 := hB.add161 hx1 (fun j => by rw [hQ155, g_uq_at]) (by rw [hK132, va_up_self]) (va_up_self _ _ _) ⟨by show I152 120 q132 = _; rw [e6]; simp only [g_up, if_true]; first | (rw [if_pos (by omega)]; omega) | (rw [if_neg (by omega)]; done), by show I152 121 q132 = 0; rw [e6]; simp [g_up, hI132, g_z], by show I152 122 q132 = 0; rw [e6]; simp [g_up, hI132, g_z], by show I152 123 q132 = 0; rw [e6]; simp [g_up, hI132, g_z]⟩
           have hr1 := ((hx1 s (by rw [k0]; decide)).2.2.2 hs1).2.2.1
           exact g_locs (by exact ⟨rfl, rfl, trivial⟩) (ih (m - 1) (i + 1) _ _ _ _ _ _ (va_up G q132 (s, i)) _ _ (by omega) (by omega) (by omega) hb1 (hX.trans hx1 (Or.inr (hW 161 (by decide) (by decide)))) (gZn hZ (by decide) hK132) (fun f a b => by unfold aArr; rw [hr1]; exact hW f a b) (by dsimp only; omega) (by dsimp only; omega)))
set_option maxHeartbeats 1000000 in
set_option maxRecDepth 100000 in
theorem lp_N_State0 {Y : gEnv} {X : gCtx} {K0 N0 : Nat → Nat} {I0 : Nat → Nat → Int} {A0 : Nat → Int → Int} {R0 : Nat → Nat → Option Nat} {Q0 : Nat → Int → Option Nat} {G0 : Nat → Nat × Int} {s : Nat} : ∀ (f m : Nat) (i : Int) (K N : Nat → Nat) (I : Nat → Nat → Int) (A : Nat → Int → Int) (R : Nat → Nat → Option Nat) (Q : Nat → Int → Option Nat) (G : Nat → Nat × Int) (k n : Nat), m < f → 0 ≤ i → i + m = 4 → cBd K N I R Q G s i 0 0 0 0 → gEx s K0 N0 I0 A0 R0 Q0 G0 K N I A R Q G → (∀ b, K b = 0 → G b = G0 b) → cNw K0 R s → k + m + 304 ≤ 316 → n + 4 * m + 1576 ≤ 1943 → gJ Y X yX10_init cX10_init 3 none ({ frames := 2, cells := 316, slots := 1943, locals := 33 } : Room) (cStP s K0 N0 I0 A0 R0 Q0 G0) gno k n 74 [(0, .ref s), (1, vi i)] [] K N I A R Q := by
  intro f
  induction f with
  | zero => intro m i K N I A R Q G k n h; omega
  | succ f ih =>
  intro m i K N I A R Q G k n hf hi hm hB hX hZ hW hk hn
  obtain ⟨k0, g0, b0, b1, b2, b3, b4, ez, iz⟩ := id hB
  have ka := b0.2.1
  have kn := b0.2.2.1
  refine g_iload_n dX10_init_74 rfl rfl ?_
  refine g_aload_n dX10_init_75 rfl rfl ?_
  refine g_get_State_glazes dX10_init_76 mw_204 k0 b0.1 ?_
  refine g_alen_Glaze dX10_init_79 b0.2.1 ?_
  refine g_icmp_ge (tgt := 102) dX10_init_80 (by decide) (by omega) (by omega) (fun c_80 => ?_) (fun c_80 => ?_)
  · refine g_iconst dX10_init_102 ?_
    refine g_istore_n dX10_init_103 rfl (by decide) ?_
    obtain rfl : i = 4 := by omega
    exact g_locs (by exact ⟨rfl, rfl, trivial⟩) (lp_N_State1 _ 24 0 _ _ _ _ _ _ G k n (Nat.lt_succ_self _) (by omega) (by omega) hB hX hZ hW (by omega) (by omega))
  · refine g_aload_n dX10_init_83 rfl rfl ?_
    refine g_get_State_glazes dX10_init_84 mw_204 k0 b0.1 ?_
    refine g_iload_n dX10_init_87 rfl rfl ?_
    refine g_new_Glaze dX10_init_88 mw_58 mw_85 mw_23 (by show _ ≤ (316 : Nat); omega) (by show _ ≤ (1943 : Nat); omega) (fun q88 K88 I88 R88 z88 hK88 hI88 hR88 => ?_)
    refine g_dup dX10_init_91 rfl ?_
    refine g_callIN (k_N_Glaze Y (by rw [hK88, va_up_self])) u_X4_init mw_86 dX10_init_92 rfl rfl ⟨Nat.le_of_ble_eq_true rfl, Nat.le_of_ble_eq_true rfl⟩ ⟨by show _ ≤ (316 : Nat); dsimp only; omega, by show _ ≤ (1943 : Nat); dsimp only; omega⟩ (Nat.le_of_ble_eq_true rfl) (fun v92 K92 N92 I92 A92 R92 Q92 h92 => ?_)
    obtain ⟨e1, e2, e3, e4, e5, e6, e7⟩ := h92
    subst e5
    obtain rfl := e1.symm
    obtain rfl := e2.symm
    obtain rfl := e3.symm
    obtain rfl := e4.symm
    obtain rfl := e7.symm
    refine g_aast_Glaze dX10_init_95 (by rw [hK88, va_up_ne _ _ (fun e => by rw [← e, b0.2.1] at z88; cases z88)]; exact b0.2.1) (by omega) (by omega) (by rw [hK88, va_up_self]) (fun Q95 hQ95 => ?_)
    refine g_iinc dX10_init_96 rfl (by decide) ?_
    refine g_goto (tgt := 74) dX10_init_99 (by decide) ?_
    have hx1 : gEx (aArr R s 160) K N I A R Q G K88 N I92 A R88 Q95 (va_up G q88 (s, i)) := ((gEx.new (g := (s, i)) z88 hK88 hI88 hR88).trans (gEx.atI (fun f b hb => by rw [e6]; simp [g_up, hb])) (Or.inr z88)).trans (gEx.upQ hQ95) (Or.inl rfl)
    have hs1 : s ≠ aArr R s 160 := fun e => by rw [← e, k0] at ka; cases ka
    have hb1 := hB.add160 hx1 (fun j => by rw [hQ95, g_uq_at]) (by rw [hK88, va_up_self]) (va_up_self _ _ _) ⟨by rw [e6]; simp [g_up], by rw [e6]; simp [g_up], by rw [e6]; simp [g_up], by rw [e6]; simp [g_up]⟩
    have hr1 := ((hx1 s (by rw [k0]; decide)).2.2.2 hs1).2.2.1
    exact g_locs (by exact ⟨rfl, rfl, trivial⟩) (ih (m - 1) (i + 1) _ _ _ _ _ _ (va_up G q88 (s, i)) _ _ (by omega) (by omega) (by omega) hb1 (hX.trans hx1 (Or.inr (hW 160 (by decide) (by decide)))) (gZn hZ (by decide) hK88) (fun f a b => by unfold aArr; rw [hr1]; exact hW f a b) (by dsimp only; omega) (by dsimp only; omega))
set_option maxHeartbeats 1000000 in
set_option maxRecDepth 100000 in
theorem k_N_State (Y : gEnv) {K N : Nat → Nat} {I : Nat → Nat → Int} {A : Nat → Int → Int} {R : Nat → Nat → Option Nat} {Q : Nat → Int → Option Nat} {s : Nat} {G : Nat → Nat × Int} (hK : K s = 9) (hG : G s = (s, 0)) (hz : ∀ f, I f s = 0) : gC Y yX10_init cX10_init 3 none ({ frames := 2, cells := 316, slots := 1943, locals := 33 } : Room) [.ref s] K N I A R Q (cStP s K N I A R Q G) gno := by
  refine gC_of (by decide) (Nat.le_of_ble_eq_true rfl) (fun X => ?_)
  refine g_aload_n dX10_init_0 rfl rfl ?_
  refine g_objInit dX10_init_1 mw_57 mw_50 mw_51 (by decide) (by decide) ?_
  refine g_aload_n dX10_init_4 rfl rfl ?_
  refine g_iconst dX10_init_5 ?_
  refine g_newq_Glaze (m := 4) dX10_init_6 mw_58 (by decide) (by decide) (by decide) (by decide) (fun q6 K6 N6 Q6 z6 hK6 hN6 hQ6 => ?_)
  have y9 : gEx q6 K N I A R Q G K6 N6 I A R Q6 (va_up G q6 (s, -1)) := gEx.newq z6 hK6 hN6 hQ6
  have k9 : K6 s = 9 := ((y9 s (by rw [hK]; decide)).1).trans hK
  have s9 : s ≠ q6 := fun e => by
    have h := hK
    rw [e, z6] at h; cases h
  refine g_put_State_glazes dX10_init_9 mw_204 k9 rfl rfl (fun R9 hR9 => ?_)
  have b0_9 : cRb K6 N6 I R9 Q6 (va_up G q6 (s, -1)) s 160 16 3 4 0 vGlz := cRb.begin hR9 (by rw [hK6, va_up_self]) (by rw [hN6, va_up_self]) (va_up_self _ _ _)
  have w9 : K q6 = 0 := gEx.zero (a := s) (gEx.rfl (a := s) (A := A) (I := I) (R := R) (Q := Q) (G := G) (N := N)) z6
  have x9 : gEx s K N I A R Q G K6 N6 I A R9 Q6 (va_up G q6 (s, -1)) := (gEx.trans gEx.rfl y9 (Or.inr w9)).trans (gEx.upR hR9) (Or.inl rfl)
  have g9 : ∀ b, K6 b = 0 → (va_up G q6 (s, -1)) b = G b := gZn (fun _ _ => rfl) (by decide) hK6
  refine g_aload_n dX10_init_12 rfl rfl ?_
  refine g_bipush dX10_init_13 (by decide) ?_
  refine g_newq_Position (m := 24) dX10_init_15 mw_60 (by decide) (by decide) (by decide) (by decide) (fun q15 K15 N15 Q15 z15 hK15 hN15 hQ15 => ?_)
  have y18 : gEx q15 K6 N6 I A R9 Q6 (va_up G q6 (s, -1)) K15 N15 I A R9 Q15 (va_up (va_up G q6 (s, -1)) q15 (s, -1)) := gEx.newq z15 hK15 hN15 hQ15
  have k18 : K15 s = 9 := ((y18 s (by rw [k9]; decide)).1).trans k9
  have s18 : s ≠ q15 := fun e => by
    have h := k9
    rw [e, z15] at h; cases h
  refine g_put_State_positions dX10_init_18 mw_206 k18 rfl rfl (fun R18 hR18 => ?_)
  have b0_18 := (b0_9.keep y18 (by rw [k9]; decide) s18 ⟨by decide, by rw [z15]; decide⟩ ⟨by decide, by rw [z15]; decide⟩).put (by decide) hR18
  have b1_18 : cRb K15 N15 I R18 Q15 (va_up (va_up G q6 (s, -1)) q15 (s, -1)) s 161 19 7 24 0 vPos := cRb.begin hR18 (by rw [hK15, va_up_self]) (by rw [hN15, va_up_self]) (va_up_self _ _ _)
  have w18 : K q15 = 0 := gEx.zero (a := s) x9 z15
  have x18 : gEx s K N I A R Q G K15 N15 I A R18 Q15 (va_up (va_up G q6 (s, -1)) q15 (s, -1)) := (gEx.trans x9 y18 (Or.inr w18)).trans (gEx.upR hR18) (Or.inl rfl)
  have g18 : ∀ b, K15 b = 0 → (va_up (va_up G q6 (s, -1)) q15 (s, -1)) b = G b := gZn g9 (by decide) hK15
  refine g_aload_n dX10_init_21 rfl rfl ?_
  refine g_bipush dX10_init_22 (by decide) ?_
  refine g_newq_Pile (m := 80) dX10_init_24 mw_62 (by decide) (by decide) (by decide) (by decide) (fun q24 K24 N24 Q24 z24 hK24 hN24 hQ24 => ?_)
  have y27 : gEx q24 K15 N15 I A R18 Q15 (va_up (va_up G q6 (s, -1)) q15 (s, -1)) K24 N24 I A R18 Q24 (va_up (va_up (va_up G q6 (s, -1)) q15 (s, -1)) q24 (s, -1)) := gEx.newq z24 hK24 hN24 hQ24
  have k27 : K24 s = 9 := ((y27 s (by rw [k18]; decide)).1).trans k18
  have s27 : s ≠ q24 := fun e => by
    have h := k18
    rw [e, z24] at h; cases h
  refine g_put_State_piles dX10_init_27 mw_208 k27 rfl rfl (fun R27 hR27 => ?_)
  have b0_27 := (b0_18.keep y27 (by rw [k18]; decide) s27 ⟨by decide, by rw [z24]; decide⟩ ⟨by decide, by rw [z24]; decide⟩).put (by decide) hR27
  have b1_27 := (b1_18.keep y27 (by rw [k18]; decide) s27 ⟨by decide, by rw [z24]; decide⟩ ⟨by decide, by rw [z24]; decide⟩).put (by decide) hR27
  have b2_27 : cRb K24 N24 I R27 Q24 (va_up (va_up (va_up G q6 (s, -1)) q15 (s, -1)) q24 (s, -1)) s 162 18 6 80 0 vAny := cRb.begin hR27 (by rw [hK24, va_up_self]) (by rw [hN24, va_up_self]) (va_up_self _ _ _)
  have w27 : K q24 = 0 := gEx.zero (a := s) x18 z24
  have x27 : gEx s K N I A R Q G K24 N24 I A R27 Q24 (va_up (va_up (va_up G q6 (s, -1)) q15 (s, -1)) q24 (s, -1)) := (gEx.trans x18 y27 (Or.inr w27)).trans (gEx.upR hR27) (Or.inl rfl)
  have g27 : ∀ b, K24 b = 0 → (va_up (va_up (va_up G q6 (s, -1)) q15 (s, -1)) q24 (s, -1)) b = G b := gZn g18 (by decide) hK24
  refine g_aload_n dX10_init_30 rfl rfl ?_
  refine g_sipush dX10_init_31 (by decide) ?_
  refine g_newq_Lot (m := 160) dX10_init_34 mw_64 (by decide) (by decide) (by decide) (by decide) (fun q34 K34 N34 Q34 z34 hK34 hN34 hQ34 => ?_)
  have y37 : gEx q34 K24 N24 I A R27 Q24 (va_up (va_up (va_up G q6 (s, -1)) q15 (s, -1)) q24 (s, -1)) K34 N34 I A R27 Q34 (va_up (va_up (va_up (va_up G q6 (s, -1)) q15 (s, -1)) q24 (s, -1)) q34 (s, -1)) := gEx.newq z34 hK34 hN34 hQ34
  have k37 : K34 s = 9 := ((y37 s (by rw [k27]; decide)).1).trans k27
  have s37 : s ≠ q34 := fun e => by
    have h := k27
    rw [e, z34] at h; cases h
  refine g_put_State_lots dX10_init_37 mw_209 k37 rfl rfl (fun R37 hR37 => ?_)
  have b0_37 := (b0_27.keep y37 (by rw [k27]; decide) s37 ⟨by decide, by rw [z34]; decide⟩ ⟨by decide, by rw [z34]; decide⟩).put (by decide) hR37
  have b1_37 := (b1_27.keep y37 (by rw [k27]; decide) s37 ⟨by decide, by rw [z34]; decide⟩ ⟨by decide, by rw [z34]; decide⟩).put (by decide) hR37
  have b2_37 := (b2_27.keep y37 (by rw [k27]; decide) s37 ⟨by decide, by rw [z34]; decide⟩ ⟨by decide, by rw [z34]; decide⟩).put (by decide) hR37
  have b3_37 : cRb K34 N34 I R37 Q34 (va_up (va_up (va_up (va_up G q6 (s, -1)) q15 (s, -1)) q24 (s, -1)) q34 (s, -1)) s 163 17 5 160 0 vAny := cRb.begin hR37 (by rw [hK34, va_up_self]) (by rw [hN34, va_up_self]) (va_up_self _ _ _)
  have w37 : K q34 = 0 := gEx.zero (a := s) x27 z34
  have x37 : gEx s K N I A R Q G K34 N34 I A R37 Q34 (va_up (va_up (va_up (va_up G q6 (s, -1)) q15 (s, -1)) q24 (s, -1)) q34 (s, -1)) := (gEx.trans x27 y37 (Or.inr w37)).trans (gEx.upR hR37) (Or.inl rfl)
  have g37 : ∀ b, K34 b = 0 → (va_up (va_up (va_up (va_up G q6 (s, -1)) q15 (s, -1)) q24 (s, -1)) q34 (s, -1)) b = G b := gZn g27 (by decide) hK34
  refine g_aload_n dX10_init_40 rfl rfl ?_
  refine g_bipush dX10_init_41 (by decide) ?_
  refine g_newq_Delivery (m := 40) dX10_init_43 mw_66 (by decide) (by decide) (by decide) (by decide) (fun q43 K43 N43 Q43 z43 hK43 hN43 hQ43 => ?_)
  have y46 : gEx q43 K34 N34 I A R37 Q34 (va_up (va_up (va_up (va_up G q6 (s, -1)) q15 (s, -1)) q24 (s, -1)) q34 (s, -1)) K43 N43 I A R37 Q43 (va_up (va_up (va_up (va_up (va_up G q6 (s, -1)) q15 (s, -1)) q24 (s, -1)) q34 (s, -1)) q43 (s, -1)) := gEx.newq z43 hK43 hN43 hQ43
  have k46 : K43 s = 9 := ((y46 s (by rw [k37]; decide)).1).trans k37
  have s46 : s ≠ q43 := fun e => by
    have h := k37
    rw [e, z43] at h; cases h
  refine g_put_State_deliveries dX10_init_46 mw_211 k46 rfl rfl (fun R46 hR46 => ?_)
  have b0_46 := (b0_37.keep y46 (by rw [k37]; decide) s46 ⟨by decide, by rw [z43]; decide⟩ ⟨by decide, by rw [z43]; decide⟩).put (by decide) hR46
  have b1_46 := (b1_37.keep y46 (by rw [k37]; decide) s46 ⟨by decide, by rw [z43]; decide⟩ ⟨by decide, by rw [z43]; decide⟩).put (by decide) hR46
  have b2_46 := (b2_37.keep y46 (by rw [k37]; decide) s46 ⟨by decide, by rw [z43]; decide⟩ ⟨by decide, by rw [z43]; decide⟩).put (by decide) hR46
  have b3_46 := (b3_37.keep y46 (by rw [k37]; decide) s46 ⟨by decide, by rw [z43]; decide⟩ ⟨by decide, by rw [z43]; decide⟩).put (by decide) hR46
  have b4_46 : cRb K43 N43 I R46 Q43 (va_up (va_up (va_up (va_up (va_up G q6 (s, -1)) q15 (s, -1)) q24 (s, -1)) q34 (s, -1)) q43 (s, -1)) s 164 15 1 40 0 vAny := cRb.begin hR46 (by rw [hK43, va_up_self]) (by rw [hN43, va_up_self]) (va_up_self _ _ _)
  have w46 : K q43 = 0 := gEx.zero (a := s) x37 z43
  have x46 : gEx s K N I A R Q G K43 N43 I A R46 Q43 (va_up (va_up (va_up (va_up (va_up G q6 (s, -1)) q15 (s, -1)) q24 (s, -1)) q34 (s, -1)) q43 (s, -1)) := (gEx.trans x37 y46 (Or.inr w46)).trans (gEx.upR hR46) (Or.inl rfl)
  have g46 : ∀ b, K43 b = 0 → (va_up (va_up (va_up (va_up (va_up G q6 (s, -1)) q15 (s, -1)) q24 (s, -1)) q34 (s, -1)) q43 (s, -1)) b = G b := gZn g37 (by decide) hK43
  refine g_aload_n dX10_init_49 rfl rfl ?_
  refine g_new_EventLog dX10_init_50 mw_68 mw_69 mw_22 (by decide) (by decide) (fun q50 K50 I50 R50 z50 hK50 hI50 hR50 => ?_)
  have y50 : gEx q50 K43 N43 I A R46 Q43 (va_up (va_up (va_up (va_up (va_up G q6 (s, -1)) q15 (s, -1)) q24 (s, -1)) q34 (s, -1)) q43 (s, -1)) K50 N43 I50 A R50 Q43 (va_up (va_up (va_up (va_up (va_up (va_up G q6 (s, -1)) q15 (s, -1)) q24 (s, -1)) q34 (s, -1)) q43 (s, -1)) q50 (s, 0)) := gEx.new z50 hK50 hI50 hR50
  have k50 : K50 s = 9 := ((y50 s (by rw [k46]; decide)).1).trans k46
  have kq50 : K50 q50 = 2 := by rw [hK50, va_up_self]
  have s50 : s ≠ q50 := fun e => by
    have h := k46
    rw [e, z50] at h; cases h
  refine g_dup dX10_init_53 rfl ?_
  refine g_callIN (k_N_EventLog Y (by rw [hK50, va_up_self])) u_X2_init mw_70 dX10_init_54 rfl rfl ⟨Nat.le_of_ble_eq_true rfl, Nat.le_of_ble_eq_true rfl⟩ ⟨Nat.le_of_ble_eq_true rfl, Nat.le_of_ble_eq_true rfl⟩ (Nat.le_of_ble_eq_true rfl) (fun v54 K54 N54 I54 A54 R54 Q54 h54 => ?_)
  obtain ⟨rfl, e1, e2, a, b, za, zb, hab, eK, eN, eA, eR⟩ := h54
  have zb1 : va_up K50 a 13 b = 0 := by rw [va_up_ne _ _ (fun e => hab e.symm)]; exact zb
  have y54 : gEx q50 K43 N43 I A R46 Q43 (va_up (va_up (va_up (va_up (va_up G q6 (s, -1)) q15 (s, -1)) q24 (s, -1)) q34 (s, -1)) q43 (s, -1)) K54 N54 I54 A54 R54 Q54 (va_up (va_up (va_up (va_up (va_up (va_up (va_up (va_up G q6 (s, -1)) q15 (s, -1)) q24 (s, -1)) q34 (s, -1)) q43 (s, -1)) q50 (s, 0)) a (s, 0)) b (s, 1)) := by
    subst e1 e2 eK eN eA eR
    exact (((y50.trans (gEx.newa za rfl rfl rfl) (Or.inl rfl)).trans (gEx.newa zb1 rfl rfl rfl) (Or.inl rfl)).trans (gEx.upR rfl) (Or.inl rfl)).trans (gEx.upR rfl) (Or.inl rfl)
  have k54 : K54 s = 9 := ((y54 s (by rw [k46]; decide)).1).trans k46
  have qa : q50 ≠ a := fun e => by rw [← e, kq50] at za; cases za
  have qb : q50 ≠ b := fun e => by rw [← e, kq50] at zb; cases zb
  have g54 : ∀ b', K54 b' = 0 → (va_up (va_up (va_up (va_up (va_up (va_up (va_up (va_up G q6 (s, -1)) q15 (s, -1)) q24 (s, -1)) q34 (s, -1)) q43 (s, -1)) q50 (s, 0)) a (s, 0)) b (s, 1)) b' = G b' := gZn (gZn (gZn g46 (by decide) hK50) (by decide) rfl) (by decide) eK
  refine g_put_State_events dX10_init_57 mw_213 k54 rfl rfl (fun R57 hR57 => ?_)
  have b0_57 := (b0_46.keep y54 (by rw [k46]; decide) s50 ⟨by decide, by rw [z50]; decide⟩ ⟨by decide, by rw [z50]; decide⟩).put (by decide) hR57
  have b1_57 := (b1_46.keep y54 (by rw [k46]; decide) s50 ⟨by decide, by rw [z50]; decide⟩ ⟨by decide, by rw [z50]; decide⟩).put (by decide) hR57
  have b2_57 := (b2_46.keep y54 (by rw [k46]; decide) s50 ⟨by decide, by rw [z50]; decide⟩ ⟨by decide, by rw [z50]; decide⟩).put (by decide) hR57
  have b3_57 := (b3_46.keep y54 (by rw [k46]; decide) s50 ⟨by decide, by rw [z50]; decide⟩ ⟨by decide, by rw [z50]; decide⟩).put (by decide) hR57
  have b4_57 := (b4_46.keep y54 (by rw [k46]; decide) s50 ⟨by decide, by rw [z50]; decide⟩ ⟨by decide, by rw [z50]; decide⟩).put (by decide) hR57
  have w57 : K q50 = 0 := gEx.zero x46 z50
  have x57 : gEx s K N I A R Q G K54 N54 I54 A54 R57 Q54 (va_up (va_up (va_up (va_up (va_up (va_up (va_up (va_up G q6 (s, -1)) q15 (s, -1)) q24 (s, -1)) q34 (s, -1)) q43 (s, -1)) q50 (s, 0)) a (s, 0)) b (s, 1)) := (x46.trans y54 (Or.inr w57)).trans (gEx.upR hR57) (Or.inl rfl)
  have ez57 : cEz K54 N54 I54 R57 (va_up (va_up (va_up (va_up (va_up (va_up (va_up (va_up G q6 (s, -1)) q15 (s, -1)) q24 (s, -1)) q34 (s, -1)) q43 (s, -1)) q50 (s, 0)) a (s, 0)) b (s, 1)) s := ⟨q50, a, b, ⟨by rw [hR57]; simp [g_up], by rw [eK, va_up_ne _ _ qb, va_up_ne _ _ qa]; exact kq50, by rw [hR57, g_up_ne1 _ _ (by decide), eR, g_up_ne1 _ _ (by decide)]; simp [g_up], by rw [hR57, g_up_ne1 _ _ (by decide), eR]; simp [g_up], by rw [eK, va_up_ne _ _ hab, va_up_self], by rw [eN, va_up_ne _ _ hab, va_up_self], by rw [eK, va_up_self], by rw [eN, va_up_self], hab, by rw [va_up_ne _ _ qb, va_up_ne _ _ qa, va_up_self], by rw [va_up_ne _ _ hab, va_up_self], va_up_self _ _ _⟩, by rw [e1, hI50, g_z_eq]⟩
  refine g_aload_n dX10_init_60 rfl rfl ?_
  refine g_bipush dX10_init_61 (by decide) ?_
  refine g_put_State_sharpness dX10_init_63 mw_215 k54 (fun I63 hI63 => ?_)
  refine g_aload_n dX10_init_66 rfl rfl ?_
  refine g_bipush dX10_init_67 (by decide) ?_
  refine g_put_State_boxSize dX10_init_69 mw_217 k54 (fun I69 hI69 => ?_)
  refine g_iconst dX10_init_72 ?_
  refine g_istore_n dX10_init_73 rfl (by decide) ?_
  have b0_69 := (b0_57.putI (by rw [k54]; decide) hI63).putI (by rw [k54]; decide) hI69
  have b1_69 := (b1_57.putI (by rw [k54]; decide) hI63).putI (by rw [k54]; decide) hI69
  have b2_69 := (b2_57.putI (by rw [k54]; decide) hI63).putI (by rw [k54]; decide) hI69
  have b3_69 := (b3_57.putI (by rw [k54]; decide) hI63).putI (by rw [k54]; decide) hI69
  have b4_69 := (b4_57.putI (by rw [k54]; decide) hI63).putI (by rw [k54]; decide) hI69
  have x69 : gEx s K N I A R Q G K54 N54 I69 A54 R57 Q54 (va_up (va_up (va_up (va_up (va_up (va_up (va_up (va_up G q6 (s, -1)) q15 (s, -1)) q24 (s, -1)) q34 (s, -1)) q43 (s, -1)) q50 (s, 0)) a (s, 0)) b (s, 1)) := (x57.trans (gEx.upI hI63) (Or.inl rfl)).trans (gEx.upI hI69) (Or.inl rfl)
  have i54 : ∀ f, I54 f s = 0 := fun f => by rw [e1, hI50, g_z_ne _ _ _ s50]; exact hz f
  have iz69 : cIz I69 s := by
    subst hI69 hI63
    exact ⟨by rw [g_up_ne1 _ _ (by decide)]; simp [g_up], by simp [g_up], by rw [g_up_ne1 _ _ (by decide), g_up_ne1 _ _ (by decide)]; exact i54 _, by rw [g_up_ne1 _ _ (by decide), g_up_ne1 _ _ (by decide)]; exact i54 _, by rw [g_up_ne1 _ _ (by decide), g_up_ne1 _ _ (by decide)]; exact i54 _, by rw [g_up_ne1 _ _ (by decide), g_up_ne1 _ _ (by decide)]; exact i54 _, by rw [g_up_ne1 _ _ (by decide), g_up_ne1 _ _ (by decide)]; exact i54 _, by rw [g_up_ne1 _ _ (by decide), g_up_ne1 _ _ (by decide)]; exact i54 _⟩
  have ez69 : cEz K54 N54 I69 R57 (va_up (va_up (va_up (va_up (va_up (va_up (va_up (va_up G q6 (s, -1)) q15 (s, -1)) q24 (s, -1)) q34 (s, -1)) q43 (s, -1)) q50 (s, 0)) a (s, 0)) b (s, 1)) s := by
    obtain ⟨ev, kq, nq, h1, h2⟩ := ez57
    have hne : ev ≠ s := fun e => by
      have h3 := h1.2.1
      rw [e, k54] at h3; cases h3
    exact ⟨ev, kq, nq, h1, by rw [hI69, g_up_ne2 _ _ hne, hI63, g_up_ne2 _ _ hne]; exact h2⟩
  have gs54 : (va_up (va_up (va_up (va_up (va_up (va_up (va_up (va_up G q6 (s, -1)) q15 (s, -1)) q24 (s, -1)) q34 (s, -1)) q43 (s, -1)) q50 (s, 0)) a (s, 0)) b (s, 1)) s = (s, 0) := (x69 s (by rw [hK]; decide)).2.2.1.trans hG
  have nw69 : cNw K R57 s := by
    have c0 := (b0_57.1).symm.trans (show R57 160 s = some q6 by rw [hR57, g_up_ne1 _ _ (by decide), eR, g_up_ne1 _ _ (by decide), g_up_ne1 _ _ (by decide), hR50, g_z_ne _ _ _ s50, hR46, g_up_ne1 _ _ (by decide), hR37, g_up_ne1 _ _ (by decide), hR27, g_up_ne1 _ _ (by decide), hR18, g_up_ne1 _ _ (by decide), hR9]; simp [g_up])
    have c1 := (b1_57.1).symm.trans (show R57 161 s = some q15 by rw [hR57, g_up_ne1 _ _ (by decide), eR, g_up_ne1 _ _ (by decide), g_up_ne1 _ _ (by decide), hR50, g_z_ne _ _ _ s50, hR46, g_up_ne1 _ _ (by decide), hR37, g_up_ne1 _ _ (by decide), hR27, g_up_ne1 _ _ (by decide), hR18]; simp [g_up])
    have c2 := (b2_57.1).symm.trans (show R57 162 s = some q24 by rw [hR57, g_up_ne1 _ _ (by decide), eR, g_up_ne1 _ _ (by decide), g_up_ne1 _ _ (by decide), hR50, g_z_ne _ _ _ s50, hR46, g_up_ne1 _ _ (by decide), hR37, g_up_ne1 _ _ (by decide), hR27]; simp [g_up])
    have c3 := (b3_57.1).symm.trans (show R57 163 s = some q34 by rw [hR57, g_up_ne1 _ _ (by decide), eR, g_up_ne1 _ _ (by decide), g_up_ne1 _ _ (by decide), hR50, g_z_ne _ _ _ s50, hR46, g_up_ne1 _ _ (by decide), hR37]; simp [g_up])
    have c4 := (b4_57.1).symm.trans (show R57 164 s = some q43 by rw [hR57, g_up_ne1 _ _ (by decide), eR, g_up_ne1 _ _ (by decide), g_up_ne1 _ _ (by decide), hR50, g_z_ne _ _ _ s50, hR46]; simp [g_up])
    intro f h1 h2
    have hc : f = 160 ∨ f = 161 ∨ f = 162 ∨ f = 163 ∨ f = 164 := by omega
    rcases hc with e | e | e | e | e <;> subst e
    · rw [Option.some.inj c0]; exact w9
    · rw [Option.some.inj c1]; exact w18
    · rw [Option.some.inj c2]; exact w27
    · rw [Option.some.inj c3]; exact w37
    · rw [Option.some.inj c4]; exact w46
  have bd69 : cBd K54 N54 I69 R57 Q54 (va_up (va_up (va_up (va_up (va_up (va_up (va_up (va_up G q6 (s, -1)) q15 (s, -1)) q24 (s, -1)) q34 (s, -1)) q43 (s, -1)) q50 (s, 0)) a (s, 0)) b (s, 1)) s 0 0 0 0 0 := ⟨k54, gs54, b0_69, b1_69, b2_69, b3_69, b4_69, ez69, iz69⟩
  exact g_locs (by exact ⟨rfl, rfl, trivial⟩) (lp_N_State0 (K0 := K) (N0 := N) (I0 := I) (A0 := A) (R0 := R) (Q0 := Q) (G0 := G) _ 4 0 _ _ _ _ _ _ (va_up (va_up (va_up (va_up (va_up (va_up (va_up (va_up G q6 (s, -1)) q15 (s, -1)) q24 (s, -1)) q34 (s, -1)) q43 (s, -1)) q50 (s, 0)) a (s, 0)) b (s, 1)) _ _ (Nat.lt_succ_self _) (by omega) (by omega) bd69 x69 g54 nw69 (by decide) (by decide))
