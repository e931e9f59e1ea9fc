def cSame (K N : Nat → Nat) (I : Nat → Nat → Int) (A : Nat → Int → Int) (R : Nat → Nat → Option Nat) (Q : Nat → Int → Option Nat) (K' N' : Nat → Nat) (I' : Nat → Nat → Int) (A' : Nat → Int → Int) (R' : Nat → Nat → Option Nat) (Q' : Nat → Int → Option Nat) : Prop := K' = K ∧ N' = N ∧ I' = I ∧ A' = A ∧ R' = R ∧ Q' = Q
/-- a check: it changes nothing -/
def cKo (P : Prop) (K N : Nat → Nat) (I : Nat → Nat → Int) (A : Nat → Int → Int) (R : Nat → Nat → Option Nat) (Q : Nat → Int → Option Nat) : gPo := fun v K' N' I' A' R' Q' => v = none ∧ P ∧ cSame K N I A R Q K' N' I' A' R' Q'
def cKx (f : String → Prop) (K N : Nat → Nat) (I : Nat → Nat → Int) (A : Nat → Int → Int) (R : Nat → Nat → Option Nat) (Q : Nat → Int → Option Nat) : gPx := fun E K' N' I' A' R' Q' => f E ∧ cSame K N I A R Q K' N' I' A' R' Q'
theorem cSame.rfl {K N : Nat → Nat} {I : Nat → Nat → Int} {A : Nat → Int → Int} {R : Nat → Nat → Option Nat} {Q : Nat → Int → Option Nat} : cSame K N I A R Q K N I A R Q := ⟨Eq.refl _, Eq.refl _, Eq.refl _, Eq.refl _, Eq.refl _, Eq.refl _⟩
theorem g_callSXc {Y : gEnv} {X : gCtx} {y : MethodName} {cc : ByteArray} {nL : Nat} {ret : Option FieldType} {rm : Room} {po : gPo} {px : gPx} {k n pc : Nat} {L : List (Nat × Value)} {st : List Value} {K N : Nat → Nat} {I : Nat → Nat → Int} {A : Nat → Int → Int} {R : Nat → Nat → Option Nat} {Q : Nat → Int → Option Nat} {yc : MethodName} {c' : ByteArray} {nL' a idx : Nat} {ret' : Option FieldType} {rm' : Room} {As : List Value} {st0 : List Value} {P : Prop} {f : String → Prop} (hC : gC Y yc c' nL' ret' rm' As K N I A R Q (cKo P K N I A R Q) (cKx f K N I A R Q)) (hu : gUS yc c' nL' ret' a) (hw : Cond.methodLink y.cls idx yc ∈ lw_good) (hown : yc.cls = y.cls) (hd : decode cc pc = .ok (.invokestatic idx, 3)) (hlen : As.length = a) (hst : st0 = As.reverse ++ st) (hroom : rm'.frames + 1 ≤ rm.frames ∧ 8 + (nL' + 11) + rm'.locals ≤ rm.locals) (hfit : k + rm'.cells ≤ rm.cells ∧ n + rm'.slots ≤ rm.slots) (hrest : (st.map fun v => v.category).sum ≤ 8) (hyl : y.cls ≠ "TileFactoryLaw") (hpx : ∀ E, f E → px E K N I A R Q)
    (kk : P → gJ Y X y cc nL ret rm po px (k + rm'.cells) (n + rm'.slots) (pc + 3) L st K N I A R Q) : gJ Y X y cc nL ret rm po px k n pc L st0 K N I A R Q :=
  g_callSX hC hu hw hown hd hlen hst hroom hfit hrest hyl (fun E K' N' I' A' R' Q' h => by
    obtain ⟨h1, h2, h3, h4, h5, h6, h7⟩ := h
    rw [h2, h3, h4, h5, h6, h7]
    exact hpx E h1) (fun v K' N' I' A' R' Q' h => by
    obtain ⟨h0, h1, h2, h3, h4, h5, h6, h7⟩ := h
    rw [h0, h2, h3, h4, h5, h6, h7]
    exact kk h1)
def xIx : String := "java/lang/IndexOutOfBoundsException"
def xAr : String := "java/lang/IllegalArgumentException"
def xSt : String := "java/lang/IllegalStateException"
/-- a call answers (code 0), or throws and changes nothing -/
def cOpP (K N : Nat → Nat) (I : Nat → Nat → Int) (A : Nat → Int → Int) (R : Nat → Nat → Option Nat) (Q : Nat → Int → Option Nat) (M : Nat → Prop) (x s h hq sc sg ar : Nat) (code : Int) (val : Value) (W' : Int → Int) (n' : Int) (SV' T' : Int → Int) (len' : Int) : gPo := fun v K' N' I' A' R' Q' => code = 0 ∧ v = some val ∧ ∃ G' : Nat → Nat × Int, cI K' N' I' A' R' Q' G' M x s h hq sc sg ar W' n' SV' T' len' ∧ gFm M K N I A R Q K' N' I' A' R' Q'
def cOpX (K N : Nat → Nat) (I : Nat → Nat → Int) (A : Nat → Int → Int) (R : Nat → Nat → Option Nat) (Q : Nat → Int → Option Nat) (code : Int) (l : List String) : gPx := fun E K' N' I' A' R' Q' => code ≠ 0 ∧ E = l.getD (code - 1).toNat "" ∧ cSame K N I A R Q K' N' I' A' R' Q'
section GTW
variable {Y : gEnv} {X : gCtx} {y : MethodName} {cc : ByteArray} {nL : Nat} {ret : Option FieldType} {rm : Room} {po : gPo} {px : gPx} {k n pc : Nat} {L : List (Nat × Value)} {st : List Value} {K N : Nat → Nat} {I : Nat → Nat → Int} {A : Nat → Int → Int} {R : Nat → Nat → Option Nat} {Q : Nat → Int → Option Nat}
theorem g_throwW_ix (hy : y.cls = RX12) (d0 : decode cc pc = .ok (.new 313, 3)) (d3 : decode cc (pc + 3) = .ok (.dup, 1)) (d4 : decode cc (pc + 4) = .ok (.ldc_w 315, 3)) (d6 : decode cc (pc + 7) = .ok (.invokespecial 317, 3)) (d9 : decode cc (pc + 10) = .ok (.athrow, 1))
    (hf : 5 < rm.frames) (hlo : (st.map fun v => v.category).sum + 82 ≤ rm.locals) (hk : k + 1 ≤ rm.cells) (hn : n + 6 ≤ rm.slots) (hp : px "java/lang/IndexOutOfBoundsException" K N I A R Q) : gJ Y X y cc nL ret rm po px k n pc L st K N I A R Q := by
  intro hx H locs ls hW hS hl
  have hg : ∀ w ∈ Cond.classLink RX12 313 "java/lang/IndexOutOfBoundsException" :: Cond.initialized "java/lang/IndexOutOfBoundsException" :: vx_atS RX12 317 "java/lang/IndexOutOfBoundsException" ["java/lang/RuntimeException", "java/lang/Exception"], w.before X.2.2.2.2.1 X.2.2.1 = true := fun w hw => (lw_thr_ix w hw).elim (fun h => hx.2.2.2.2.1 w h) (fun h => hx.2.2.2.2.2.2.2.1.2.1.2.2.2.any _ w h)
  refine vx_throwSW (names := ["java/lang/RuntimeException", "java/lang/Exception"]) hx.1 hx.2.1 hx.2.2.2.2.2.2.2.1.2.2 (hy ▸ hx.2.2.2.1) (by decide) (by decide) (hg _ List.mem_cons_self) (hg _ (List.mem_cons_of_mem _ List.mem_cons_self)) hx.2.2.2.2.2.2.2.1.2.1.1 (fun w hw => hg _ (List.mem_cons_of_mem _ (List.mem_cons_of_mem _ hw))) lo_thr_ix hx.2.2.2.2.2.2.2.1.1.2.2.2.2.2.2.2.2.2.1 hx.2.2.2.2.2.2.2.1.1.2.2.2.2.2.2.2.2.2.2.1 hS (by rw [hx.2.2.1]; exact hl.1) d0 d3 d4 d6 d9 (fun z hz => (hx.2.2.2.2.2.2.2.2.2.2.2.1 (by rw [hy]; decide) z hz).elim) hf hlo hk hn hx.2.2.2.2.2.2.2.2.2.2.1 (fun t _ h1 h2 => ⟨K, N, I, A, R, Q, hp, hW.grow h2, ?_⟩) hS.2.2 hk hn
  exact ⟨Nat.le_trans hS.1 h1, fun q hq hA => (h2 q (Nat.lt_of_lt_of_le hq hS.1)).trans (hS.2.1 q hq hA)⟩
theorem g_throwW_arg (hy : y.cls = RX12) (d0 : decode cc pc = .ok (.new 320, 3)) (d3 : decode cc (pc + 3) = .ok (.dup, 1)) (d4 : decode cc (pc + 4) = .ok (.ldc_w 322, 3)) (d6 : decode cc (pc + 7) = .ok (.invokespecial 324, 3)) (d9 : decode cc (pc + 10) = .ok (.athrow, 1))
    (hf : 5 < rm.frames) (hlo : (st.map fun v => v.category).sum + 82 ≤ rm.locals) (hk : k + 1 ≤ rm.cells) (hn : n + 6 ≤ rm.slots) (hp : px "java/lang/IllegalArgumentException" K N I A R Q) : gJ Y X y cc nL ret rm po px k n pc L st K N I A R Q := by
  intro hx H locs ls hW hS hl
  have hg : ∀ w ∈ Cond.classLink RX12 320 "java/lang/IllegalArgumentException" :: Cond.initialized "java/lang/IllegalArgumentException" :: vx_atS RX12 324 "java/lang/IllegalArgumentException" ["java/lang/RuntimeException", "java/lang/Exception"], w.before X.2.2.2.2.1 X.2.2.1 = true := fun w hw => (lw_thr_arg w hw).elim (fun h => hx.2.2.2.2.1 w h) (fun h => hx.2.2.2.2.2.2.2.1.2.1.2.2.2.any _ w h)
  refine vx_throwSW (names := ["java/lang/RuntimeException", "java/lang/Exception"]) hx.1 hx.2.1 hx.2.2.2.2.2.2.2.1.2.2 (hy ▸ hx.2.2.2.1) (by decide) (by decide) (hg _ List.mem_cons_self) (hg _ (List.mem_cons_of_mem _ List.mem_cons_self)) hx.2.2.2.2.2.2.2.1.2.1.2.1 (fun w hw => hg _ (List.mem_cons_of_mem _ (List.mem_cons_of_mem _ hw))) lo_thr_arg hx.2.2.2.2.2.2.2.1.1.2.2.2.2.2.2.2.2.2.1 hx.2.2.2.2.2.2.2.1.1.2.2.2.2.2.2.2.2.2.2.1 hS (by rw [hx.2.2.1]; exact hl.1) d0 d3 d4 d6 d9 (fun z hz => (hx.2.2.2.2.2.2.2.2.2.2.2.1 (by rw [hy]; decide) z hz).elim) hf hlo hk hn hx.2.2.2.2.2.2.2.2.2.2.1 (fun t _ h1 h2 => ⟨K, N, I, A, R, Q, hp, hW.grow h2, ?_⟩) hS.2.2 hk hn
  exact ⟨Nat.le_trans hS.1 h1, fun q hq hA => (h2 q (Nat.lt_of_lt_of_le hq hS.1)).trans (hS.2.1 q hq hA)⟩
theorem g_throwW_st (hy : y.cls = RX12) (d0 : decode cc pc = .ok (.new 325, 3)) (d3 : decode cc (pc + 3) = .ok (.dup, 1)) (d4 : decode cc (pc + 4) = .ok (.ldc_w 327, 3)) (d6 : decode cc (pc + 7) = .ok (.invokespecial 329, 3)) (d9 : decode cc (pc + 10) = .ok (.athrow, 1))
    (hf : 5 < rm.frames) (hlo : (st.map fun v => v.category).sum + 82 ≤ rm.locals) (hk : k + 1 ≤ rm.cells) (hn : n + 6 ≤ rm.slots) (hp : px "java/lang/IllegalStateException" K N I A R Q) : gJ Y X y cc nL ret rm po px k n pc L st K N I A R Q := by
  intro hx H locs ls hW hS hl
  have hg : ∀ w ∈ Cond.classLink RX12 325 "java/lang/IllegalStateException" :: Cond.initialized "java/lang/IllegalStateException" :: vx_atS RX12 329 "java/lang/IllegalStateException" ["java/lang/RuntimeException", "java/lang/Exception"], w.before X.2.2.2.2.1 X.2.2.1 = true := fun w hw => (lw_thr_st w hw).elim (fun h => hx.2.2.2.2.1 w h) (fun h => hx.2.2.2.2.2.2.2.1.2.1.2.2.2.any _ w h)
  refine vx_throwSW (names := ["java/lang/RuntimeException", "java/lang/Exception"]) hx.1 hx.2.1 hx.2.2.2.2.2.2.2.1.2.2 (hy ▸ hx.2.2.2.1) (by decide) (by decide) (hg _ List.mem_cons_self) (hg _ (List.mem_cons_of_mem _ List.mem_cons_self)) hx.2.2.2.2.2.2.2.1.2.1.2.2.1 (fun w hw => hg _ (List.mem_cons_of_mem _ (List.mem_cons_of_mem _ hw))) lo_thr_st hx.2.2.2.2.2.2.2.1.1.2.2.2.2.2.2.2.2.2.1 hx.2.2.2.2.2.2.2.1.1.2.2.2.2.2.2.2.2.2.2.1 hS (by rw [hx.2.2.1]; exact hl.1) d0 d3 d4 d6 d9 (fun z hz => (hx.2.2.2.2.2.2.2.2.2.2.2.1 (by rw [hy]; decide) z hz).elim) hf hlo hk hn hx.2.2.2.2.2.2.2.2.2.2.1 (fun t _ h1 h2 => ⟨K, N, I, A, R, Q, hp, hW.grow h2, ?_⟩) hS.2.2 hk hn
  exact ⟨Nat.le_trans hS.1 h1, fun q hq hA => (h2 q (Nat.lt_of_lt_of_le hq hS.1)).trans (hS.2.1 q hq hA)⟩
end GTW
set_option maxHeartbeats 1000000 in
set_option maxRecDepth 100000 in
theorem k_K_Index (Y : gEnv) {K N : Nat → Nat} {I : Nat → Nat → Int} {A : Nat → Int → Int} {R : Nat → Nat → Option Nat} {Q : Nat → Int → Option Nat} (b : Int) (hb : b = 0 ∨ b = 1) : gC Y yX12_checkIndex cX12_checkIndex 1 none ({ frames := 6, cells := 1, slots := 6, locals := 100 } : Room) [vi b] K N I A R Q (cKo (b = 1) K N I A R Q) (cKx (fun E => b = 0 ∧ E = xIx) K N I A R Q) := by
  refine gC_of (by decide) (Nat.le_of_ble_eq_true rfl) (fun X => ?_)
  refine g_iload_n dX12_checkIndex_0 rfl rfl ?_
  refine g_if_ne (tgt := 15) dX12_checkIndex_1 (by decide) (by omega) (fun c_1 => ?_) (fun c_1 => ?_)
  · exact g_vret dX12_checkIndex_15 rfl (by decide) (by decide) ⟨rfl, by omega, cSame.rfl⟩
  · exact g_throwW_ix rfl dX12_checkIndex_4 dX12_checkIndex_7 dX12_checkIndex_8 dX12_checkIndex_11 dX12_checkIndex_14 (by decide) (by decide) (by decide) (by decide) ⟨⟨by omega, rfl⟩, cSame.rfl⟩
set_option maxHeartbeats 1000000 in
set_option maxRecDepth 100000 in
theorem k_K_Argument (Y : gEnv) {K N : Nat → Nat} {I : Nat → Nat → Int} {A : Nat → Int → Int} {R : Nat → Nat → Option Nat} {Q : Nat → Int → Option Nat} (b : Int) (hb : b = 0 ∨ b = 1) : gC Y yX12_checkArgument cX12_checkArgument 1 none ({ frames := 6, cells := 1, slots := 6, locals := 100 } : Room) [vi b] K N I A R Q (cKo (b = 1) K N I A R Q) (cKx (fun E => b = 0 ∧ E = xAr) K N I A R Q) := by
  refine gC_of (by decide) (Nat.le_of_ble_eq_true rfl) (fun X => ?_)
  refine g_iload_n dX12_checkArgument_0 rfl rfl ?_
  refine g_if_ne (tgt := 15) dX12_checkArgument_1 (by decide) (by omega) (fun c_1 => ?_) (fun c_1 => ?_)
  · exact g_vret dX12_checkArgument_15 rfl (by decide) (by decide) ⟨rfl, by omega, cSame.rfl⟩
  · exact g_throwW_arg rfl dX12_checkArgument_4 dX12_checkArgument_7 dX12_checkArgument_8 dX12_checkArgument_11 dX12_checkArgument_14 (by decide) (by decide) (by decide) (by decide) ⟨⟨by omega, rfl⟩, cSame.rfl⟩
set_option maxHeartbeats 1000000 in
set_option maxRecDepth 100000 in
theorem k_K_State (Y : gEnv) {K N : Nat → Nat} {I : Nat → Nat → Int} {A : Nat → Int → Int} {R : Nat → Nat → Option Nat} {Q : Nat → Int → Option Nat} (b : Int) (hb : b = 0 ∨ b = 1) : gC Y yX12_checkState cX12_checkState 1 none ({ frames := 6, cells := 1, slots := 6, locals := 100 } : Room) [vi b] K N I A R Q (cKo (b = 1) K N I A R Q) (cKx (fun E => b = 0 ∧ E = xSt) K N I A R Q) := by
  refine gC_of (by decide) (Nat.le_of_ble_eq_true rfl) (fun X => ?_)
  refine g_iload_n dX12_checkState_0 rfl rfl ?_
  refine g_if_ne (tgt := 15) dX12_checkState_1 (by decide) (by omega) (fun c_1 => ?_) (fun c_1 => ?_)
  · exact g_vret dX12_checkState_15 rfl (by decide) (by decide) ⟨rfl, by omega, cSame.rfl⟩
  · exact g_throwW_st rfl dX12_checkState_4 dX12_checkState_7 dX12_checkState_8 dX12_checkState_11 dX12_checkState_14 (by decide) (by decide) (by decide) (by decide) ⟨⟨by omega, rfl⟩, cSame.rfl⟩
