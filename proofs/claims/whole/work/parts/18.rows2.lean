section GR2
variable {Y : gEnv} {X : gCtx} {y : MethodName} {cc : ByteArray} {nL : Nat} {ret : Option FieldType} {rm : Room} {po : gPo} {px : gPx} {k n pc : Nat} {L : List (Nat × Value)} {st : List Value} {K N : Nat → Nat} {I : Nat → Nat → Int} {A : Nat → Int → Int} {R : Nat → Nat → Option Nat} {Q : Nat → Int → Option Nat}
theorem g_null (hd : decode cc pc = .ok (.aconst_null, 1)) (kk : gJ Y X y cc nL ret rm po px k n (pc + 1) L (.null :: st) K N I A R Q) : gJ Y X y cc nL ret rm po px k n pc L st K N I A R Q := fun hx H locs ls hW hS hl => lv_null hx.1 hx.2.1 hd (kk hx H locs ls hW hS hl)
theorem g_aload_nR {j : Fin 4} {i : Nat} {z : Option Nat} (hd : decode cc pc = .ok (.aload_n j, 1)) (hi : (j : Nat) = i) (hz : List.lookup i L = some (va_rf z)) (kk : gJ Y X y cc nL ret rm po px k n (pc + 1) L (va_rf z :: st) K N I A R Q) : gJ Y X y cc nL ret rm po px k n pc L st K N I A R Q := by
  cases z with
  | none => exact fun hx H locs ls hW hS hl => lv_aload_nN hx.1 hx.2.1 hd hi (lk_has hl hz) (kk hx H locs ls hW hS hl)
  | some a => exact g_aload_n hd hi hz kk
theorem g_aloadR {i : Nat} {z : Option Nat} (hd : decode cc pc = .ok (.aload i, 2)) (hz : List.lookup i L = some (va_rf z)) (kk : gJ Y X y cc nL ret rm po px k n (pc + 2) L (va_rf z :: st) K N I A R Q) : gJ Y X y cc nL ret rm po px k n pc L st K N I A R Q := by
  cases z with
  | none => exact fun hx H locs ls hW hS hl => lv_aloadN hx.1 hx.2.1 hd (lk_has hl hz) (kk hx H locs ls hW hS hl)
  | some a => exact g_aload hd hz kk
theorem g_astore_nN {j : Fin 4} {i : Nat} (hd : decode cc pc = .ok (.astore_n j, 1)) (hi : (j : Nat) = i) (hn : i < nL) (kk : gJ Y X y cc nL ret rm po px k n (pc + 1) (g_s1 i Value.null L) st K N I A R Q) : gJ Y X y cc nL ret rm po px k n pc L (.null :: st) K N I A R Q := fun hx H locs ls hW hS hl => lv_astore_nN hx.1 hx.2.1 hd hi hl hn rfl (fun ls' hl' => kk hx H locs ls' hW hS hl')
theorem g_astoreN {i : Nat} (hd : decode cc pc = .ok (.astore i, 2)) (hn : i < nL) (kk : gJ Y X y cc nL ret rm po px k n (pc + 2) (g_s1 i Value.null L) st K N I A R Q) : gJ Y X y cc nL ret rm po px k n pc L (.null :: st) K N I A R Q := fun hx H locs ls hW hS hl => lv_astoreN hx.1 hx.2.1 hd hl hn rfl (fun ls' hl' => kk hx H locs ls' hW hS hl')
theorem g_ifnull {z : Option Nat} {off : Int} {tgt : Nat} (hd : decode cc pc = .ok (.ifnull off, 3)) (ht : (pc : Int) + off = (tgt : Int)) (kt : z = none → gJ Y X y cc nL ret rm po px k n tgt L st K N I A R Q) (kf : ∀ b, z = some b → gJ Y X y cc nL ret rm po px k n (pc + 3) L st K N I A R Q) : gJ Y X y cc nL ret rm po px k n pc L (va_rf z :: st) K N I A R Q := by
  cases z with
  | none => exact fun hx H locs ls hW hS hl => lv_ifnullN hx.1 hx.2.1 hd ht (kt rfl hx H locs ls hW hS hl)
  | some a => exact fun hx H locs ls hW hS hl => lv_ifnull hx.1 hx.2.1 hd (kf a rfl hx H locs ls hW hS hl)
theorem g_ifnonnull {z : Option Nat} {off : Int} {tgt : Nat} (hd : decode cc pc = .ok (.ifnonnull off, 3)) (ht : (pc : Int) + off = (tgt : Int)) (kt : ∀ b, z = some b → gJ Y X y cc nL ret rm po px k n tgt L st K N I A R Q) (kf : z = none → gJ Y X y cc nL ret rm po px k n (pc + 3) L st K N I A R Q) : gJ Y X y cc nL ret rm po px k n pc L (va_rf z :: st) K N I A R Q := by
  cases z with
  | none => exact fun hx H locs ls hW hS hl => lv_ifnonnullN hx.1 hx.2.1 hd (kf rfl hx H locs ls hW hS hl)
  | some a => exact fun hx H locs ls hW hS hl => lv_ifnonnull hx.1 hx.2.1 hd ht (kt a rfl hx H locs ls hW hS hl)
theorem g_acmp_eq {a b : Nat} {off : Int} {tgt : Nat} (hd : decode cc pc = .ok (.if_acmp .eq off, 3)) (ht : (pc : Int) + off = (tgt : Int)) (kt : a = b → gJ Y X y cc nL ret rm po px k n tgt L st K N I A R Q) (kf : ¬ a = b → gJ Y X y cc nL ret rm po px k n (pc + 3) L st K N I A R Q) : gJ Y X y cc nL ret rm po px k n pc L (.ref b :: .ref a :: st) K N I A R Q := fun hx H locs ls hW hS hl =>
  lv_acmp_eq (rx := some a) (ry := some b) hx.1 hx.2.1 hd ht (fun h => kt (Option.some.inj h) hx H locs ls hW hS hl) (fun h => kf (fun e => h (by rw [e])) hx H locs ls hW hS hl)
theorem g_acmp_ne {a b : Nat} {off : Int} {tgt : Nat} (hd : decode cc pc = .ok (.if_acmp .ne off, 3)) (ht : (pc : Int) + off = (tgt : Int)) (kt : ¬ a = b → gJ Y X y cc nL ret rm po px k n tgt L st K N I A R Q) (kf : a = b → gJ Y X y cc nL ret rm po px k n (pc + 3) L st K N I A R Q) : gJ Y X y cc nL ret rm po px k n pc L (.ref b :: .ref a :: st) K N I A R Q := fun hx H locs ls hW hS hl =>
  lv_acmp_ne (rx := some a) (ry := some b) hx.1 hx.2.1 hd ht (fun h => kt (fun e => h (by rw [e])) hx H locs ls hW hS hl) (fun h => kf (Option.some.inj h) hx H locs ls hW hS hl)
theorem g_tswIn {dflt lo hi : Int} {offs : Array Int} {len : Nat} {z off : Int} {tgt : Nat} (hd : decode cc pc = .ok (.tableswitch dflt lo hi offs, len)) (hz : -2147483648 ≤ z ∧ z ≤ 2147483647) (i : Nat) (he : z = lo + i) (hh : z ≤ hi) (ho : offs[i]? = some off) (ht : (pc : Int) + off = (tgt : Int)) (kk : gJ Y X y cc nL ret rm po px k n tgt L st K N I A R Q) : gJ Y X y cc nL ret rm po px k n pc L (vi z :: st) K N I A R Q := fun hx H locs ls hW hS hl =>
  lv_tableIn hx.1 hx.2.1 hd (by rw [i32_toInt hz]; omega) (by rw [i32_toInt hz]; omega) (by rw [i32_toInt hz, show (z - lo).toNat = i by omega]; exact ho) ht (kk hx H locs ls hW hS hl)
theorem g_tswOut {dflt lo hi : Int} {offs : Array Int} {len : Nat} {z : Int} {tgt : Nat} (hd : decode cc pc = .ok (.tableswitch dflt lo hi offs, len)) (hz : -2147483648 ≤ z ∧ z ≤ 2147483647) (he : z < lo ∨ hi < z) (ht : (pc : Int) + dflt = (tgt : Int)) (kk : gJ Y X y cc nL ret rm po px k n tgt L st K N I A R Q) : gJ Y X y cc nL ret rm po px k n pc L (vi z :: st) K N I A R Q := fun hx H locs ls hW hS hl =>
  lv_tableOut hx.1 hx.2.1 hd (by rw [i32_toInt hz]; exact he) ht (kk hx H locs ls hW hS hl)
theorem g_lsw {dflt : Int} {ps : Array (Int × Int)} {len : Nat} {z off : Int} {tgt : Nat} (hd : decode cc pc = .ok (.lookupswitch dflt ps, len)) (hz : -2147483648 ≤ z ∧ z ≤ 2147483647) (hp : (ps.toList.zip (ps.toList.drop 1)).all (fun (a, next) => a.1 < next.1) = true) (ho : Op.lookupswitch.offset ps.toList dflt z = off) (ht : (pc : Int) + off = (tgt : Int)) (kk : gJ Y X y cc nL ret rm po px k n tgt L st K N I A R Q) : gJ Y X y cc nL ret rm po px k n pc L (vi z :: st) K N I A R Q := fun hx H locs ls hW hS hl =>
  lv_lookup hx.1 hx.2.1 hd hp (by rw [i32_toInt hz]; exact ho) ht (kk hx H locs ls hW hS hl)
theorem g_i2c {z : Int} (hd : decode cc pc = .ok (.i2c, 1)) (hz : 0 ≤ z ∧ z ≤ 65535) (kk : gJ Y X y cc nL ret rm po px k n (pc + 1) L (vi z :: st) K N I A R Q) : gJ Y X y cc nL ret rm po px k n pc L (vi z :: st) K N I A R Q := fun hx H locs ls hW hS hl =>
  lv_i2c hx.1 hx.2.1 hd (by have h := i32_char hz; rw [vp_nar_char] at h; exact h) (kk hx H locs ls hW hS hl)
theorem g_fault {idx i : Nat} {nm : String} (hd : decode cc pc = .ok (.getstatic idx, 3)) (hw : Cond.fieldLink y.cls idx "TileFactory$Fault" nm "LTileFactory$Fault;" ∈ lw_good) (hi : i < 4) (hn : (["NOTHING", "INDEX", "ARGUMENT", "STATE"] : List String).getD i "" = nm) (kk : gJ Y X y cc nL ret rm po px k n (pc + 3) L (.ref (Y.2.2.1 (20 + i)) :: st) K N I A R Q) : gJ Y X y cc nL ret rm po px k n pc L st K N I A R Q := fun hx H locs ls hW hS hl =>
  va_gets hx.1 hx.2.1 (C := "TileFactory$Fault") (hn ▸ ((hx.2.2.2.2.2.2.2.1.1.1.1 i hi).1)) hS hx.2.2.2.1 (hx.2.2.2.2.1 _ hw) (fun _ h => h) hd (kk hx H locs ls hW hS hl)
theorem g_verbs {idx : Nat} (hd : decode cc pc = .ok (.getstatic idx, 3)) (hw : Cond.fieldLinkNest y.cls idx "TileFactory" "VERBS" "[LTileFactory$Verb;" "TileFactory" ∈ lw_nest) (kk : gJ Y X y cc nL ret rm po px k n (pc + 3) L (.ref (Y.2.2.1 60) :: st) K N I A R Q) : gJ Y X y cc nL ret rm po px k n pc L st K N I A R Q := fun hx H locs ls hW hS hl =>
  va_getsN hx.1 hx.2.1 hx.2.2.2.2.2.2.2.1.1.2.2.2.2.1 hS hx.2.2.2.1 (hx.2.2.2.2.2.2.1.1 _ hw) (fun _ h => h) hd (kk hx H locs ls hW hS hl)
theorem g_verbsLen (hd : decode cc pc = .ok (.arraylength, 1)) (kk : gJ Y X y cc nL ret rm po px k n (pc + 1) L (vi 5 :: st) K N I A R Q) : gJ Y X y cc nL ret rm po px k n pc L (.ref (Y.2.2.1 60) :: st) K N I A R Q := fun hx H locs ls hW hS hl =>
  va_tlen hx.1 hx.2.1 hx.2.2.2.2.2.2.2.1.1.2.2.2.2.2.1 hS (v := Int32.ofInt 5) (by decide) hd (kk hx H locs ls hW hS hl)
theorem g_verbsAt {i : Int} (hd : decode cc pc = .ok (.aaload, 1)) (hi : 0 ≤ i ∧ i < 5) (kk : gJ Y X y cc nL ret rm po px k n (pc + 1) L (.ref (Y.2.2.1 (30 + i.toNat)) :: st) K N I A R Q) : gJ Y X y cc nL ret rm po px k n pc L (vi i :: .ref (Y.2.2.1 60) :: st) K N I A R Q := fun hx H locs ls hW hS hl =>
  vb_tq hx.1 hx.2.1 hx.2.2.2.2.2.2.2.1.1.2.2.2.2.2.1 hS (i32_in hi (by omega)) (v := .ref (Y.2.2.1 (30 + i.toNat))) (by rw [i32_nat (by omega)]) hd (kk hx H locs ls hW hS hl)
theorem g_switch {idx : Nat} (hd : decode cc pc = .ok (.getstatic idx, 3)) (hw : Cond.fieldLink y.cls idx "TileFactory$1" "$SwitchMap$TileFactory$Verb" "[I" ∈ lw_good) (kk : gJ Y X y cc nL ret rm po px k n (pc + 3) L (.ref (Y.2.2.1 61) :: st) K N I A R Q) : gJ Y X y cc nL ret rm po px k n pc L st K N I A R Q := fun hx H locs ls hW hS hl =>
  va_gets hx.1 hx.2.1 hx.2.2.2.2.2.2.2.1.1.2.2.2.2.2.2.1 hS hx.2.2.2.1 (hx.2.2.2.2.1 _ hw) (fun _ h => h) hd (kk hx H locs ls hW hS hl)
theorem g_switchAt {i v : Int} (hd : decode cc pc = .ok (.iaload, 1)) (hi : 0 ≤ i ∧ i < 5) (hv : Value.int (([1, 2, 3, 4, 0] : List Int32).getD i.toNat 0) = vi v) (kk : gJ Y X y cc nL ret rm po px k n (pc + 1) L (vi v :: st) K N I A R Q) : gJ Y X y cc nL ret rm po px k n pc L (vi i :: .ref (Y.2.2.1 61) :: st) K N I A R Q := fun hx H locs ls hW hS hl =>
  va_ti hx.1 hx.2.1 hx.2.2.2.2.2.2.2.1.1.2.2.2.2.2.2.2.1 hS (i32_in hi (by omega)) (v := vi v) (by rw [i32_nat (by omega)]; exact hv) hd (kk hx H locs ls hW hS hl)
theorem g_verbWord {idx i : Nat} (hd : decode cc pc = .ok (.getfield idx, 3)) (hw : Cond.fieldLink y.cls idx "TileFactory$Verb" "word" "Ljava/lang/String;" ∈ lw_good) (hi : i < 5) (kk : gJ Y X y cc nL ret rm po px k n (pc + 3) L (.ref (Y.2.2.1 (40 + i)) :: st) K N I A R Q) : gJ Y X y cc nL ret rm po px k n pc L (.ref (Y.2.2.1 (30 + i)) :: st) K N I A R Q := fun hx H locs ls hW hS hl =>
  va_getX (ad := fun i => Y.2.2.1 (30 + i)) hx.1 hx.2.1 hx.2.2.2.2.2.2.2.1.1.2.2.1 hi hS hx.2.2.2.1 (hx.2.2.2.2.1 _ hw) (fun _ h => h) hd (kk hx H locs ls hW hS hl)
theorem g_verbArgs {idx i : Nat} {v : Int} (hd : decode cc pc = .ok (.getfield idx, 3)) (hw : Cond.fieldLink y.cls idx "TileFactory$Verb" "arguments" "I" ∈ lw_good) (hi : i < 5) (hv : Value.int (([4, 1, 0, 3, 4] : List Int32).getD i 0) = vi v) (kk : gJ Y X y cc nL ret rm po px k n (pc + 3) L (vi v :: st) K N I A R Q) : gJ Y X y cc nL ret rm po px k n pc L (.ref (Y.2.2.1 (30 + i)) :: st) K N I A R Q := fun hx H locs ls hW hS hl =>
  va_getE (q := ("TileFactory$Verb", "arguments", "I", [4, 1, 0, 3, 4])) (ad := fun i => Y.2.2.1 (30 + i)) hx.1 hx.2.1 hx.2.2.2.2.2.2.2.1.1.2.1 hi hS hx.2.2.2.1 (by simp) (hx.2.2.2.2.1 _ hw) (fun _ h => h) hd (by rw [hv]; exact kk hx H locs ls hW hS hl)
theorem gFault_ne {U : State} {H : Heap} (h : gSt Y U H) {i j : Nat} (hi : i < 4) (hj : j < 4) (e : Y.2.2.1 (20 + i) = Y.2.2.1 (20 + j)) : i = j := h.1.1.2 i j hi hj e
theorem gVerb_ne {U : State} {H : Heap} (h : gSt Y U H) {i j : Nat} (hi : i < 5) (hj : j < 5) (e : Y.2.2.1 (30 + i) = Y.2.2.1 (30 + j)) : i = j := h.1.2.1.2 i j hi hj e
/-- what the statics say may be used while walking -/
theorem gJ_st (kk : (∃ (U : State) (H : Heap), gSt Y U H) → gJ Y X y cc nL ret rm po px k n pc L st K N I A R Q) : gJ Y X y cc nL ret rm po px k n pc L st K N I A R Q := fun hx H locs ls hW hS hl => kk ⟨_, _, hx.2.2.2.2.2.2.2.1⟩ hx H locs ls hW hS hl
def g_cpy (f g : Int → Int) (sp dp m : Int) : Int → Int := fun j => if dp ≤ j ∧ j < dp + m then f (sp + (j - dp)) else g j
theorem g_copyi {idx : Nat} {q0 q : Nat} {sp dp m : Int} (hd : decode cc pc = .ok (.invokestatic idx, 3)) (hw : Cond.methodLink y.cls idx arraycopyName ∈ lw_good) (hK0 : K q0 = 13) (hK : K q = 13) (hN0 : N q0 ≤ 2147483647) (hN : N q ≤ 2147483647) (h1 : 0 ≤ sp) (h2 : 0 ≤ dp) (h3 : 0 ≤ m) (h4 : sp + m ≤ N q0) (h5 : dp + m ≤ N q) (hf : 1 ≤ rm.frames) (hlo : (st.map fun v => v.category).sum + (nativeFrameWords "java/lang/System" "arraycopy" 5 + 11) ≤ rm.locals)
    (kk : ∀ (A' : Nat → Int → Int), A' = g_rw A q (g_cpy (A q0) (A q) sp dp m) → gJ Y X y cc nL ret rm po px k n (pc + 3) L st K N I A' R Q) : gJ Y X y cc nL ret rm po px k n pc L (vi m :: vi dp :: .ref q :: vi sp :: .ref q0 :: st) K N I A R Q := by
  intro hx H locs ls hW hS hl
  obtain ⟨Ls, hL, hP, hD⟩ := hW
  have hKn : K q ≠ 0 := by rw [hK]; decide
  obtain ⟨j0, hj0⟩ := va_pl_get (X := []) (f := g_cell Y.2.2.1 K N I A R Q) ((hL q0).mpr (by rw [hK0]; decide))
  obtain ⟨j1, hj1⟩ := va_pl_get (X := []) (f := g_cell Y.2.2.1 K N I A R Q) ((hL q).mpr hKn)
  have hj2 := hj1
  rw [g_ar1 hK0] at hj0
  rw [g_ar1 hK] at hj1
  refine va_copyi hx.1 hx.2.1 (by rw [hx.2.2.1]; exact hl.1.symm) hx.2.2.2.1 (hx.2.2.2.2.1 _ hw) (hx.2.2.2.2.1 _ mw_401) (hx.2.2.2.2.1 _ mw_400) (hx.2.2.2.2.1 _ mw_79) hx.2.2.2.2.2.1 hP hD hS j0 j1 1 1 hj0 hj1 rfl rfl rfl (by rw [i32_0, i32_lt (by omega) (by omega)]; omega) (by rw [i32_0, i32_lt (by omega) (by omega)]; omega) (by rw [i32_0, i32_lt (by omega) (by omega)]; omega) (by rw [i32_nat (by omega), i32_nat (by omega)]; omega) (by rw [i32_nat (by omega), i32_nat (by omega)]; omega) (fun _ _ => rfl) hf hlo hd (fun H1 locs1 hP1 hD1 hS1 => ?_)
  rw [i32_nat (by omega), i32_nat (by omega), i32_nat (by omega)] at hP1 hD1
  refine kk _ rfl hx H1 locs1 ls (gW_set hL hKn hj2 hD hP1 hD1 (g_up_row ?_ (fun b hb => g_rw_ne _ _ hb) (fun _ _ => rfl))) hS1 hl
  rw [g_ar1 hK, show (fun j : Nat => Int32.ofInt (g_rw A q (g_cpy (A q0) (A q) sp dp m) q (j : Int))) = va_cpy (fun j : Nat => Int32.ofInt (A q0 (j : Int))) (fun j : Nat => Int32.ofInt (A q (j : Int))) sp.toNat dp.toNat m.toNat from funext fun j => by
    rw [g_rw_at]
    simp only [g_cpy, va_cpy]
    by_cases e : dp.toNat ≤ j ∧ j < dp.toNat + m.toNat
    · rw [if_pos (by omega), if_pos e, show (sp + ((j : Int) - dp)) = ((sp.toNat + (j - dp.toNat) : Nat) : Int) by omega]
    · rw [if_neg (by omega), if_neg e]]
theorem lg_wsSO {own : String} {idx : Nat} {y : MethodName} {cc : ByteArray} {maxL : Nat} {ret : Option FieldType} (h : Cond.code y cc maxL ret ∈ lw_good) (h1 : Cond.methodLink own idx y ∈ lw_good) (h2 : Cond.static y ∈ lw_good) (h3 : Cond.initialized y.cls ∈ lw_good) : GoodIn lw_good (va_wsS own idx y (lw_ws y cc maxL ret)) := lg_in (fun w hw => by
  unfold va_wsS at hw
  rcases List.mem_append.mp hw with hw | hw
  · simp only [List.mem_cons, List.not_mem_nil, or_false] at hw
    rcases hw with rfl | rfl | rfl <;> assumption
  · exact (List.mem_cons.mp hw).elim (fun e => e ▸ h) id)
variable {yc : MethodName} {c' : ByteArray} {nL' a idx : Nat} {ret' : Option FieldType} {rm' : Room} {po' : gPo} {px' : gPx} {As : List Value} {st0 : List Value}
theorem g_callSO (hC : gC Y yc c' nL' ret' rm' As K N I A R Q po' gno) (hu : gUS yc c' nL' ret' a) (hw : Cond.methodLink y.cls idx yc ∈ lw_good) (hd : decode cc pc = .ok (.invokestatic idx, 3)) (hlen : As.length = a) (hst : st0 = As.reverse ++ st) (hroom : rm'.frames + 1 ≤ rm.frames ∧ 8 + (nL' + 11) + rm'.locals ≤ rm.locals) (hfit : k + rm'.cells ≤ rm.cells ∧ n + rm'.slots ≤ rm.slots) (hrest : (st.map fun v => v.category).sum ≤ 8)
    (kk : ∀ (v : Option Value) (K' N' : Nat → Nat) (I' : Nat → Nat → Int) (A' : Nat → Int → Int) (R' : Nat → Nat → Option Nat) (Q' : Nat → Int → Option Nat), po' v K' N' I' A' R' Q' → gJ Y X y cc nL ret rm po px (k + rm'.cells) (n + rm'.slots) (pc + 3) L (v.toList ++ st) K' N' I' A' R' Q') : gJ Y X y cc nL ret rm po px k n pc L st0 K N I A R Q := by
  intro hx H locs ls hW hS hl
  exact g_after hx hl hS (va_runS (As := As) ⟨hx.1, hx.2.1, hx.2.2.1, hx.2.2.2.1, hx.2.2.2.2.1⟩ (gC_met hC) (va_cwS a hx.2.2.2.2.1 (lg_wsSO hu.1.1 hw hu.1.2.1 hu.1.2.2) rfl rfl rfl hu.2 hroom) ⟨gIn_blind _, fun U hU hM => ⟨rfl, gIn_at hx hW hS hU hM⟩⟩ rfl hlen hl.1 hst (lv_room hrest) hd hfit) kk
theorem g_callSOp {r : Value} (hC : gC Y yc c' nL' ret' rm' As K N I A R Q (g_pu (some r) K N I A R Q) gno) (hu : gUS yc c' nL' ret' a) (hw : Cond.methodLink y.cls idx yc ∈ lw_good) (hd : decode cc pc = .ok (.invokestatic idx, 3)) (hlen : As.length = a) (hst : st0 = As.reverse ++ st) (hroom : rm'.frames + 1 ≤ rm.frames ∧ 8 + (nL' + 11) + rm'.locals ≤ rm.locals) (hfit : k + rm'.cells ≤ rm.cells ∧ n + rm'.slots ≤ rm.slots) (hrest : (st.map fun v => v.category).sum ≤ 8)
    (kk : gJ Y X y cc nL ret rm po px (k + rm'.cells) (n + rm'.slots) (pc + 3) L (r :: st) K N I A R Q) : gJ Y X y cc nL ret rm po px k n pc L st0 K N I A R Q :=
  g_callSO hC hu hw hd hlen hst hroom hfit hrest (fun v K' N' I' A' R' Q' h => by
    obtain ⟨h1, h2, h3, h4, h5, h6, h7⟩ := h
    rw [h1, h2, h3, h4, h5, h6, h7]
    exact kk)
theorem u_J9_floorDiv : gUS yJ9_floorDiv_7cf53 cJ9_floorDiv_7cf53 3 (some .int) 2 := ⟨⟨mw_731, mw_730, mw_83⟩, by decide, by decide, by decide +kernel⟩
theorem u_J9_min : gUS yJ9_min_7cf53 cJ9_min_7cf53 2 (some .int) 2 := ⟨⟨mw_734, mw_733, mw_83⟩, by decide, by decide, by decide +kernel⟩
theorem u_J9_max : gUS yJ9_max_7cf53 cJ9_max_7cf53 2 (some .int) 2 := ⟨⟨mw_737, mw_736, mw_83⟩, by decide, by decide, by decide +kernel⟩
theorem gW.grow {H H1 : Heap} (h : gW Y K N I A R Q H) (hq : ∀ q : Nat, q < H.size → H1[q]? = H[q]?) : gW Y K N I A R Q H1 := by
  obtain ⟨L, h1, h2, h3⟩ := h
  exact ⟨L, h1, h2.kept (fun k q hk => hq q.1 (h2 k q hk).lt), h3⟩
theorem lw_thr_ix : ∀ w ∈ Cond.classLink RX12 313 "java/lang/IndexOutOfBoundsException" :: Cond.initialized "java/lang/IndexOutOfBoundsException" :: vx_atS RX12 317 "java/lang/IndexOutOfBoundsException" ["java/lang/RuntimeException", "java/lang/Exception"], w ∈ lw_good := lg_sub (by decide +kernel) (by decide +kernel)
theorem lo_thr_ix : ∀ w ∈ Cond.classLink RX12 313 "java/lang/IndexOutOfBoundsException" :: Cond.initialized "java/lang/IndexOutOfBoundsException" :: vx_atS RX12 317 "java/lang/IndexOutOfBoundsException" ["java/lang/RuntimeException", "java/lang/Exception"], vx_ot w = true := List.all_eq_true.mp (by decide +kernel)
theorem g_throw_ix (hy : y.cls = RX12) (d0 : decode cc pc = .ok (.new 313, 3)) (d3 : decode cc (pc + 3) = .ok (.dup, 1)) (d4 : decode cc (pc + 4) = .ok (.ldc 315, 2)) (d6 : decode cc (pc + 6) = .ok (.invokespecial 317, 3)) (d9 : decode cc (pc + 9) = .ok (.athrow, 1))
    (hf : 5 < rm.frames) (hlo : (st.map fun v => v.category).sum + 82 ≤ rm.locals) (hk : k + 1 ≤ rm.cells) (hn : n + 6 ≤ rm.slots) (hp : px "java/lang/IndexOutOfBoundsException" K N I A R Q) : gJ Y X y cc nL ret rm po px k n pc L st K N I A R Q := by
  intro hx H locs ls hW hS hl
  refine vx_throwS (names := ["java/lang/RuntimeException", "java/lang/Exception"]) hx.1 hx.2.1 hx.2.2.2.2.2.2.2.1.2.2 (hy ▸ hx.2.2.2.1) (by decide) (by decide) (hx.2.2.2.2.1 _ (lw_thr_ix _ List.mem_cons_self)) (hx.2.2.2.2.1 _ (lw_thr_ix _ (List.mem_cons_of_mem _ List.mem_cons_self))) hx.2.2.2.2.2.2.2.1.2.1.1 (fun w hw => hx.2.2.2.2.1 _ (lw_thr_ix _ (List.mem_cons_of_mem _ (List.mem_cons_of_mem _ hw)))) lo_thr_ix hx.2.2.2.2.2.2.2.1.1.2.2.2.2.2.2.2.2.2.1 hx.2.2.2.2.2.2.2.1.1.2.2.2.2.2.2.2.2.2.2 hS (by rw [hx.2.2.1]; exact hl.1) d0 d3 d4 d6 d9 (fun z hz => (hx.2.2.2.2.2.2.2.2.2.2.2.1 z hz).elim) hf hlo hk hn hx.2.2.2.2.2.2.2.2.2.2.1 (fun t _ h1 h2 => ⟨K, N, I, A, R, Q, hp, hW.grow h2, ?_⟩) hS.2.2 hk hn
  exact ⟨Nat.le_trans hS.1 h1, fun q hq hA => (h2 q (Nat.lt_of_lt_of_le hq hS.1)).trans (hS.2.1 q hq hA)⟩
theorem lw_thr_arg : ∀ w ∈ Cond.classLink RX12 320 "java/lang/IllegalArgumentException" :: Cond.initialized "java/lang/IllegalArgumentException" :: vx_atS RX12 324 "java/lang/IllegalArgumentException" ["java/lang/RuntimeException", "java/lang/Exception"], w ∈ lw_good := lg_sub (by decide +kernel) (by decide +kernel)
theorem lo_thr_arg : ∀ w ∈ Cond.classLink RX12 320 "java/lang/IllegalArgumentException" :: Cond.initialized "java/lang/IllegalArgumentException" :: vx_atS RX12 324 "java/lang/IllegalArgumentException" ["java/lang/RuntimeException", "java/lang/Exception"], vx_ot w = true := List.all_eq_true.mp (by decide +kernel)
theorem g_throw_arg (hy : y.cls = RX12) (d0 : decode cc pc = .ok (.new 320, 3)) (d3 : decode cc (pc + 3) = .ok (.dup, 1)) (d4 : decode cc (pc + 4) = .ok (.ldc 322, 2)) (d6 : decode cc (pc + 6) = .ok (.invokespecial 324, 3)) (d9 : decode cc (pc + 9) = .ok (.athrow, 1))
    (hf : 5 < rm.frames) (hlo : (st.map fun v => v.category).sum + 82 ≤ rm.locals) (hk : k + 1 ≤ rm.cells) (hn : n + 6 ≤ rm.slots) (hp : px "java/lang/IllegalArgumentException" K N I A R Q) : gJ Y X y cc nL ret rm po px k n pc L st K N I A R Q := by
  intro hx H locs ls hW hS hl
  refine vx_throwS (names := ["java/lang/RuntimeException", "java/lang/Exception"]) hx.1 hx.2.1 hx.2.2.2.2.2.2.2.1.2.2 (hy ▸ hx.2.2.2.1) (by decide) (by decide) (hx.2.2.2.2.1 _ (lw_thr_arg _ List.mem_cons_self)) (hx.2.2.2.2.1 _ (lw_thr_arg _ (List.mem_cons_of_mem _ List.mem_cons_self))) hx.2.2.2.2.2.2.2.1.2.1.2.1 (fun w hw => hx.2.2.2.2.1 _ (lw_thr_arg _ (List.mem_cons_of_mem _ (List.mem_cons_of_mem _ hw)))) lo_thr_arg hx.2.2.2.2.2.2.2.1.1.2.2.2.2.2.2.2.2.2.1 hx.2.2.2.2.2.2.2.1.1.2.2.2.2.2.2.2.2.2.2 hS (by rw [hx.2.2.1]; exact hl.1) d0 d3 d4 d6 d9 (fun z hz => (hx.2.2.2.2.2.2.2.2.2.2.2.1 z hz).elim) hf hlo hk hn hx.2.2.2.2.2.2.2.2.2.2.1 (fun t _ h1 h2 => ⟨K, N, I, A, R, Q, hp, hW.grow h2, ?_⟩) hS.2.2 hk hn
  exact ⟨Nat.le_trans hS.1 h1, fun q hq hA => (h2 q (Nat.lt_of_lt_of_le hq hS.1)).trans (hS.2.1 q hq hA)⟩
theorem lw_thr_st : ∀ w ∈ Cond.classLink RX12 325 "java/lang/IllegalStateException" :: Cond.initialized "java/lang/IllegalStateException" :: vx_atS RX12 329 "java/lang/IllegalStateException" ["java/lang/RuntimeException", "java/lang/Exception"], w ∈ lw_good := lg_sub (by decide +kernel) (by decide +kernel)
theorem lo_thr_st : ∀ w ∈ Cond.classLink RX12 325 "java/lang/IllegalStateException" :: Cond.initialized "java/lang/IllegalStateException" :: vx_atS RX12 329 "java/lang/IllegalStateException" ["java/lang/RuntimeException", "java/lang/Exception"], vx_ot w = true := List.all_eq_true.mp (by decide +kernel)
theorem g_throw_st (hy : y.cls = RX12) (d0 : decode cc pc = .ok (.new 325, 3)) (d3 : decode cc (pc + 3) = .ok (.dup, 1)) (d4 : decode cc (pc + 4) = .ok (.ldc 327, 2)) (d6 : decode cc (pc + 6) = .ok (.invokespecial 329, 3)) (d9 : decode cc (pc + 9) = .ok (.athrow, 1))
    (hf : 5 < rm.frames) (hlo : (st.map fun v => v.category).sum + 82 ≤ rm.locals) (hk : k + 1 ≤ rm.cells) (hn : n + 6 ≤ rm.slots) (hp : px "java/lang/IllegalStateException" K N I A R Q) : gJ Y X y cc nL ret rm po px k n pc L st K N I A R Q := by
  intro hx H locs ls hW hS hl
  refine vx_throwS (names := ["java/lang/RuntimeException", "java/lang/Exception"]) hx.1 hx.2.1 hx.2.2.2.2.2.2.2.1.2.2 (hy ▸ hx.2.2.2.1) (by decide) (by decide) (hx.2.2.2.2.1 _ (lw_thr_st _ List.mem_cons_self)) (hx.2.2.2.2.1 _ (lw_thr_st _ (List.mem_cons_of_mem _ List.mem_cons_self))) hx.2.2.2.2.2.2.2.1.2.1.2.2 (fun w hw => hx.2.2.2.2.1 _ (lw_thr_st _ (List.mem_cons_of_mem _ (List.mem_cons_of_mem _ hw)))) lo_thr_st hx.2.2.2.2.2.2.2.1.1.2.2.2.2.2.2.2.2.2.1 hx.2.2.2.2.2.2.2.1.1.2.2.2.2.2.2.2.2.2.2 hS (by rw [hx.2.2.1]; exact hl.1) d0 d3 d4 d6 d9 (fun z hz => (hx.2.2.2.2.2.2.2.2.2.2.2.1 z hz).elim) hf hlo hk hn hx.2.2.2.2.2.2.2.2.2.2.1 (fun t _ h1 h2 => ⟨K, N, I, A, R, Q, hp, hW.grow h2, ?_⟩) hS.2.2 hk hn
  exact ⟨Nat.le_trans hS.1 h1, fun q hq hA => (h2 q (Nat.lt_of_lt_of_le hq hS.1)).trans (hS.2.1 q hq hA)⟩
end GR2
