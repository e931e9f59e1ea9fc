theorem rg_fire (W : Int → Int) (a b c d : Int) : 0 ≤ sFireT W a b c d ∧ sFireT W a b c d ≤ 3 := ⟨(sFireT_range W a b c d).1, (sFireT_range W a b c d).2.1⟩
theorem rg_grade (W : Int → Int) (a : Int) : 0 ≤ sGradeT W a ∧ sGradeT W a ≤ 2 := ⟨(cGradeT_range W a).1, (cGradeT_range W a).2.1⟩
theorem rg_deliver (W : Int → Int) (a b c : Int) : 0 ≤ sDeliverT W a b c ∧ sDeliverT W a b c ≤ 3 := ⟨(sDeliverT_range W a b c).1, (sDeliverT_range W a b c).2.1⟩
theorem rg_drop (W : Int → Int) (a b c d : Int) : 0 ≤ sDropT W a b c d ∧ sDropT W a b c d ≤ 3 := ⟨(sDropT_range W a b c d).1, (sDropT_range W a b c d).2.1⟩
theorem rg_takeBack (W : Int → Int) (a b c : Int) : 0 ≤ sTakeT W a b c ∧ sTakeT W a b c ≤ 3 := ⟨(cTakeT_range W a b c).1, (cTakeT_range W a b c).2.1⟩
theorem rg_replace (W : Int → Int) (a : Int) : 0 ≤ sReplT W a ∧ sReplT W a ≤ 2 := ⟨(cReplT_range W a).1, (cReplT_range W a).2.1⟩
def lPo : gPo := fun v _ _ _ _ _ _ => v = some (vi 1)
theorem lInv.mid {x s h hq sc sg ar xm w sv tx ag out : Nat} {K N : Nat → Nat} {I : Nat → Nat → Int} {A : Nat → Int → Int} {R : Nat → Nat → Option Nat} {Q : Nat → Int → Option Nat} {code val : Int} {W' : Int → Int} {n' : Int} {SV' T' : Int → Int} {len' : Int} {v : Option Value} {K1 N1 : Nat → Nat} {I1 : Nat → Nat → Int} {A1 : Nat → Int → Int} {R1 : Nat → Nat → Option Nat} {Q1 : Nat → Int → Option Nat} (hL : lInv x s h hq sc sg ar xm w sv tx ag out K N I A R Q) (hP : lwP K N I A R Q (lM xm w sv tx ag out) x s h hq sc sg ar out code val W' n' SV' T' len' (A w) (I 204 xm) (A sv) (A tx) (I 205 xm) v K1 N1 I1 A1 R1 Q1) : mS K1 N1 R1 xm w sv tx ag ∧ (A1 w = A w ∧ A1 sv = A sv ∧ A1 tx = A tx ∧ I1 204 xm = I 204 xm ∧ I1 205 xm = I 205 xm) := by
  obtain ⟨⟨G0, hI0⟩, ⟨m1, m2, m3, m4, m5, m6, m7, m8, m9, m10, m11, m12, m13, m14⟩, ⟨o1, o2, o3, o4, o5⟩, hO⟩ := hL
  obtain ⟨-, p1, -, hf, k1, k2⟩ := hP
  have hne : out ≠ tx ∧ out ≠ ag ∧ out ≠ xm := ⟨fun e => by rw [e] at o1; omega, fun e => by rw [e] at o1; omega, fun e => by rw [e] at o1; omega⟩
  obtain ⟨f1, -, f3, -, f5, -⟩ := hf xm ⟨Or.inl rfl, fun e => hne.2.2 e.symm⟩
  obtain ⟨g1, g2, -, g4, -⟩ := hf w ⟨Or.inr (Or.inl rfl), fun e => o3 e.symm⟩
  obtain ⟨a1, a2, -, a4, -⟩ := hf sv ⟨Or.inr (Or.inr (Or.inl rfl)), fun e => o4 e.symm⟩
  obtain ⟨b1, b2, -, b4, -⟩ := hf tx ⟨Or.inr (Or.inr (Or.inr (Or.inl rfl))), fun e => hne.1 e.symm⟩
  obtain ⟨c1, c2, -⟩ := hf ag ⟨Or.inr (Or.inr (Or.inr (Or.inr (Or.inl rfl)))), fun e => hne.2.1 e.symm⟩
  exact ⟨⟨by rw [f1]; exact m1, by rw [f5]; exact m2, by rw [f5]; exact m3, by rw [f5]; exact m4, by rw [f5]; exact m5, by rw [g1]; exact m6, by rw [g2]; exact m7, by rw [a1]; exact m8, by rw [a2]; exact m9, by rw [b1]; exact m10, by rw [b2]; exact m11, by rw [c1]; exact m12, by rw [c2]; exact m13, m14⟩, g4, a4, b4, f3 204, f3 205⟩
theorem mS.ne {K N : Nat → Nat} {R : Nat → Nat → Option Nat} {xm w sv tx ag : Nat} (h : mS K N R xm w sv tx ag) : tx ≠ w ∧ tx ≠ sv ∧ w ≠ ag ∧ sv ≠ ag ∧ tx ≠ ag := by
  obtain ⟨m1, m2, m3, m4, m5, m6, m7, m8, m9, m10, m11, m12, m13, m14⟩ := h
  exact ⟨fun e => by rw [e] at m10; omega, fun e => by rw [e] at m10; omega, fun e => by rw [e] at m6; omega, fun e => by rw [e] at m8; omega, m14⟩
theorem lInv.fin {x s h hq sc sg ar xm w sv tx ag out : Nat} {K N : Nat → Nat} {I : Nat → Nat → Int} {A : Nat → Int → Int} {R : Nat → Nat → Option Nat} {Q : Nat → Int → Option Nat} {code val : Int} {W' : Int → Int} {n' : Int} {SV' T' : Int → Int} {len' : Int} {v : Option Value} {K1 N1 : Nat → Nat} {I1 : Nat → Nat → Int} {A1 : Nat → Int → Int} {R1 : Nat → Nat → Option Nat} {Q1 : Nat → Int → Option Nat} {I2 : Nat → Nat → Int} {A2 : Nat → Int → Int} (hL : lInv x s h hq sc sg ar xm w sv tx ag out K N I A R Q) (hP : lwP K N I A R Q (lM xm w sv tx ag out) x s h hq sc sg ar out code val W' n' SV' T' len' (A w) (I 204 xm) (A sv) (A tx) (I 205 xm) v K1 N1 I1 A1 R1 Q1) (r : lRes xm w sv tx ag I1 A1 code W' n' SV' T' len' (A w) (I 204 xm) (A sv) (A tx) (I 205 xm) I2 A2) (hok : code = 0 → lOk W' n' SV' T' len') : lInv x s h hq sc sg ar xm w sv tx ag out K1 N1 I2 A2 R1 Q1 ∧ (code = 0 → A2 out 0 = val) ∧ I2 206 xm = code := by
  obtain ⟨r0, r1, r2, r3, r4, r5, r6, r7, r8⟩ := r
  obtain ⟨a, b⟩ := hL.step hP r1 r2 r3 r4 r5 r6 r7 r8 hok
  exact ⟨a, b, r0⟩
theorem lwP.of0 {K N : Nat → Nat} {I : Nat → Nat → Int} {A : Nat → Int → Int} {R : Nat → Nat → Option Nat} {Q : Nat → Int → Option Nat} {G : Nat → Nat × Int} {M : Nat → Prop} {x s h hq sc sg ar : Nat} {W SV T : Int → Int} {n len : Int} {out : Nat} {W' : Int → Int} {n' : Int} {SV' T' : Int → Int} {len' : Int} {v : Value} {V : Option Value} {K1 N1 : Nat → Nat} {I1 : Nat → Nat → Int} {A1 : Nat → Int → Int} {R1 : Nat → Nat → Option Nat} {Q1 : Nat → Int → Option Nat} (ho : M out) (hp : cOpP K N I A R Q M x s h hq sc sg ar 0 v W' n' SV' T' len' V K1 N1 I1 A1 R1 Q1) : lwP K N I A R Q M x s h hq sc sg ar out 0 (A1 out 0) W' n' SV' T' len' W n SV T len (some (vi 0)) K1 N1 I1 A1 R1 Q1 := by
  obtain ⟨-, -, G1, hI1, hf1⟩ := hp
  refine ⟨rfl, fun _ => rfl, ⟨G1, ?_⟩, fun b hb => hf1 b hb.1, (hf1 out ho).1, (hf1 out ho).2.1⟩
  simp only [if_true]
  exact hI1
set_option maxHeartbeats 4000000 in
set_option maxRecDepth 100000 in
theorem lt_int {Y : gEnv} {X : gCtx} {b : Nat} {i : Int} {x s h hq sc sg ar xm w sv tx ag out : Nat} {k n : Nat} {K N : Nat → Nat} {I : Nat → Nat → Int} {A : Nat → Int → Int} {R : Nat → Nat → Option Nat} {Q : Nat → Int → Option Nat} {code val : Int} {k' n' pc : Nat} {off : Int} (d0 : decode cL_law (pc + 0) = .ok (.istore 6, 2)) (d2 : decode cL_law (pc + 2) = .ok (.aload_n 2, 1)) (d3 : decode cL_law (pc + 3) = .ok (.invokevirtual 114, 3)) (d6 : decode cL_law (pc + 6) = .ok (.iload 5, 2)) (d8 : decode cL_law (pc + 8) = .ok (.if_icmp .eq 5, 3)) (d13 : decode cL_law (pc + 13) = .ok (.iload 5, 2)) (d15 : decode cL_law (pc + 15) = .ok (.ifCond .ne 15, 3)) (d18 : decode cL_law (pc + 18) = .ok (.aload_n 3, 1)) (d19 : decode cL_law (pc + 19) = .ok (.iconst 0, 1)) (d20 : decode cL_law (pc + 20) = .ok (.laload, 1)) (d21 : decode cL_law (pc + 21) = .ok (.iload 6, 2)) (d23 : decode cL_law (pc + 23) = .ok (.i2l, 1)) (d24 : decode cL_law (pc + 24) = .ok (.lcmp, 1)) (d25 : decode cL_law (pc + 25) = .ok (.ifCond .eq 5, 3)) (d30 : decode cL_law (pc + 30) = .ok (.goto off, 3)) (ht : ((pc + 30 : Nat) : Int) + off = ((2133 : Nat) : Int)) (hc : 0 ≤ code ∧ code ≤ 3) (hL : lInv x s h hq sc sg ar xm w sv tx ag out K N I A R Q) (hout : code = 0 → A out 0 = (sI val)) (h206 : I 206 xm = code) (hk : k + 0 ≤ k') (hk2 : k' ≤ 668115) (hn : n + 0 ≤ n') (hn2 : n' ≤ 7091759) (kk : gJ Y X yL_law cL_law 8 (some .boolean) room_1 lPo gno k' n' 2133 [(4, vi i), (0, .ref b), (1, .ref x), (2, .ref xm), (3, .ref out)] [] K N I A R Q) : gJ Y X yL_law cL_law 8 (some .boolean) room_1 lPo gno k n (pc + 0) [(5, vi code), (4, vi i), (0, .ref b), (1, .ref x), (2, .ref xm), (3, .ref out)] [vi (if code = 0 then val else 0)] K N I A R Q := by
  refine g_istore (pc := pc + 0) d0 (by decide) ?_
  refine g_aload_n (pc := pc + 2) d2 rfl rfl ?_
  refine g_callVp (pc := pc + 3) (i := 10) rfl (gK0 hL.2.1.1) (g_at10 hL.2.1.1) (k_M_thrown Y hL.2.1) u_X13_thrown mw_1187 d3 rfl rfl ⟨Nat.le_of_ble_eq_true rfl, Nat.le_of_ble_eq_true rfl⟩ ⟨by show _ ≤ (668115 : Nat); dsimp only; omega, by show _ ≤ (7091759 : Nat); dsimp only; omega⟩ (Nat.le_of_ble_eq_true rfl) ?_
  rw [h206]
  refine g_iload (pc := pc + 6) d6 rfl ?_
  refine g_icmp_eqr (pc := pc + 8) (tgt := pc + 13) d8 (by omega) ?_
  refine g_iload (pc := pc + 13) d13 rfl ?_
  refine g_if_ne (pc := pc + 15) (tgt := pc + 30) d15 (by omega) (by omega) (fun c => ?_) (fun c => ?_)
  · refine g_goto (pc := pc + 30) (tgt := 2133) d30 ht ?_
    exact g_widen hk hn (g_locs (by exact ⟨rfl, rfl, rfl, rfl, rfl, trivial⟩) kk)
  · refine g_aload_n (pc := pc + 18) d18 rfl rfl ?_
    refine g_iconst (pc := pc + 19) d19 ?_
    refine g_laload (pc := pc + 20) d20 hL.2.2.1.1 (by rw [hL.2.2.1.2.1]; decide) (by rw [hL.2.2.1.2.1]; decide) ?_
    rw [hout c, if_pos c]
    refine g_iload (pc := pc + 21) d21 rfl ?_
    refine g_i2lw (pc := pc + 23) d23 ?_
    refine g_lcmp_eqr (pc := pc + 24) (tgt := pc + 30) d24 d25 (by omega) ?_
    refine g_goto (pc := pc + 30) (tgt := 2133) d30 ht ?_
    exact g_widen hk hn (g_locs (by exact ⟨rfl, rfl, rfl, rfl, rfl, trivial⟩) kk)
set_option maxHeartbeats 4000000 in
set_option maxRecDepth 100000 in
theorem lt_long {Y : gEnv} {X : gCtx} {b : Nat} {i : Int} {x s h hq sc sg ar xm w sv tx ag out : Nat} {k n : Nat} {K N : Nat → Nat} {I : Nat → Nat → Int} {A : Nat → Int → Int} {R : Nat → Nat → Option Nat} {Q : Nat → Int → Option Nat} {code val : Int} {k' n' pc : Nat} {off : Int} (d0 : decode cL_law (pc + 0) = .ok (.lstore 6, 2)) (d2 : decode cL_law (pc + 2) = .ok (.aload_n 2, 1)) (d3 : decode cL_law (pc + 3) = .ok (.invokevirtual 114, 3)) (d6 : decode cL_law (pc + 6) = .ok (.iload 5, 2)) (d8 : decode cL_law (pc + 8) = .ok (.if_icmp .eq 5, 3)) (d13 : decode cL_law (pc + 13) = .ok (.iload 5, 2)) (d15 : decode cL_law (pc + 15) = .ok (.ifCond .ne 14, 3)) (d18 : decode cL_law (pc + 18) = .ok (.aload_n 3, 1)) (d19 : decode cL_law (pc + 19) = .ok (.iconst 0, 1)) (d20 : decode cL_law (pc + 20) = .ok (.laload, 1)) (d21 : decode cL_law (pc + 21) = .ok (.lload 6, 2)) (d23 : decode cL_law (pc + 23) = .ok (.lcmp, 1)) (d24 : decode cL_law (pc + 24) = .ok (.ifCond .eq 5, 3)) (d29 : decode cL_law (pc + 29) = .ok (.goto off, 3)) (ht : ((pc + 29 : Nat) : Int) + off = ((2133 : Nat) : Int)) (hc : 0 ≤ code ∧ code ≤ 3) (hL : lInv x s h hq sc sg ar xm w sv tx ag out K N I A R Q) (hout : code = 0 → A out 0 = val) (h206 : I 206 xm = code) (hk : k + 0 ≤ k') (hk2 : k' ≤ 668115) (hn : n + 0 ≤ n') (hn2 : n' ≤ 7091759) (kk : gJ Y X yL_law cL_law 8 (some .boolean) room_1 lPo gno k' n' 2133 [(4, vi i), (0, .ref b), (1, .ref x), (2, .ref xm), (3, .ref out)] [] K N I A R Q) : gJ Y X yL_law cL_law 8 (some .boolean) room_1 lPo gno k n (pc + 0) [(5, vi code), (4, vi i), (0, .ref b), (1, .ref x), (2, .ref xm), (3, .ref out)] [vl (if code = 0 then val else 0)] K N I A R Q := by
  refine g_lstore (pc := pc + 0) d0 (by decide) ?_
  refine g_aload_n (pc := pc + 2) d2 rfl rfl ?_
  refine g_callVp (pc := pc + 3) (i := 10) rfl (gK0 hL.2.1.1) (g_at10 hL.2.1.1) (k_M_thrown Y hL.2.1) u_X13_thrown mw_1187 d3 rfl rfl ⟨Nat.le_of_ble_eq_true rfl, Nat.le_of_ble_eq_true rfl⟩ ⟨by show _ ≤ (668115 : Nat); dsimp only; omega, by show _ ≤ (7091759 : Nat); dsimp only; omega⟩ (Nat.le_of_ble_eq_true rfl) ?_
  rw [h206]
  refine g_iload (pc := pc + 6) d6 rfl ?_
  refine g_icmp_eqr (pc := pc + 8) (tgt := pc + 13) d8 (by omega) ?_
  refine g_iload (pc := pc + 13) d13 rfl ?_
  refine g_if_ne (pc := pc + 15) (tgt := pc + 29) d15 (by omega) (by omega) (fun c => ?_) (fun c => ?_)
  · refine g_goto (pc := pc + 29) (tgt := 2133) d29 ht ?_
    exact g_widen hk hn (g_locs (by exact ⟨rfl, rfl, rfl, rfl, rfl, trivial⟩) kk)
  · refine g_aload_n (pc := pc + 18) d18 rfl rfl ?_
    refine g_iconst (pc := pc + 19) d19 ?_
    refine g_laload (pc := pc + 20) d20 hL.2.2.1.1 (by rw [hL.2.2.1.2.1]; decide) (by rw [hL.2.2.1.2.1]; decide) ?_
    rw [hout c, if_pos c]
    refine g_lload (pc := pc + 21) d21 rfl ?_
    refine g_lcmp_eqr (pc := pc + 23) (tgt := pc + 29) d23 d24 (by omega) ?_
    refine g_goto (pc := pc + 29) (tgt := 2133) d29 ht ?_
    exact g_widen hk hn (g_locs (by exact ⟨rfl, rfl, rfl, rfl, rfl, trivial⟩) kk)
